/-! the law's own loom: copy -/
theorem BD.dk {Ω : JO} {L0 : List Nat} {I0 I : JI} {S0 S : JS} {rs as : List (Nat × Nat × Nat)} {fs : List (Nat × Nat × Int32)} {os : List (Nat × Nat)} {ns : List Nat} {d e1 e2 n1 n2 : Nat} {D : DP} (b : BD I0 S0 I S rs as fs os ns) (h : DK Ω L0 S0 I0 d D e1 e2 n1 n2) : DK Ω L0 S I d D e1 e2 n1 n2 := h.kp (b.K.mono fun c hc q => q hc) b.T
section CPY
variable {Ω : JO} {Y Z : JM} {F : JF} {k n k' n' pc pc' : Nat} {lv lv' : List (Nat × Value)} {st rest : List Value} {I : JI} {S : JS}
theorem r_aast20N {a N v d : Nat} {i : Int32} (hd : decode Y.2.1 pc = .ok (.aastore, 1)) (hA : ArE 20 S a N) (hv : v ∈ sL S ∧ sK S v = 11) (hi : i = nI d) (hin : d < N) (hN : N < 2 ^ 31) (hp : pc + 1 = pc') (h : AA Ω Y F k n pc' lv st I (stR S a d (some v))) : AA Ω Y F k n pc lv (.ref v :: .int i :: .ref a :: st) I S := by
  subst hi
  refine r_aast20 hd hA hv (vp_nI hin (by omega)) hp ?_
  rw [nI_clamp (by omega)]; exact h
end CPY
theorem tA_I : (FieldType.array .int).toString = "[I" := by decide +kernel
theorem nin_ne {L : List Nat} {x y : Nat} (h1 : x ∉ L) (h2 : y ∈ L) : x ≠ y := fun e => h1 (e ▸ h2)
theorem fitI {a : Int32} : fits .int (.int a) = true := rfl
set_option maxHeartbeats 2000000 in
theorem c_X9_copy {Ω : JO} {I : JI} {S : JS} {Q : JQ} {L0 : List Nat} {d e1 e2 : Nat} {D : DP} (h : DK Ω L0 S I d D e1 e2 0 0) (hb : (∀ j, j < pH D → fits .boolean (.int (I (pA D 4) j)) = true) ∧ (∀ j, j < pH D → fits .boolean (.int (I (pA D 5) j)) = true) ∧ ∀ j, j < pW D → fits .boolean (.int (I (pA D 6) j)) = true) (hQ : ∀ q D' I' S', DK Ω (sL S) S' I' q D' (oE Ω) (oE Ω) 0 0 → (D'.2.2.1, D'.2.2.2.1, D'.2.2.2.2.1) = (D.2.2.1, D.2.2.2.1, D.2.2.2.2.1) → (∀ k, k < 3 → pcd D' k 0 = pcd D k 0 ∧ pcd D' k 1 = pcd D k 1) → Kp (fun _ => False) I S I' S' → Q (.inl (some (.ref q))) I' S') : Call Ω m_X9_copy [.ref d] I S Q := by
  refine call_of (by decide +kernel) rfl (Nat.le_of_ble_eq_true rfl) ?_
  change AA Ω m_X9_copy (FQ Ω m_X9_copy Q) 0 0 0 [(0, .ref d)] [] I S
  obtain ⟨v1, v2, v3, v4, v5⟩ := h.dv.1
  refine r_newG (pc' := 3) dX9_copy_0 cw_X9_8 nwX9 (Nat.le_of_ble_eq_true rfl) (Nat.le_of_ble_eq_true rfl) rfl (fun q hz0 => aa_widen (k' := 1) (n' := 15) (by decide) (by decide) ?_)
  have hq : q ∉ sL S := notin_of hz0
  have b : BD I S (nwI I q) (nwN S q 9 0) [] [] [] [(9, q)] [q] := ((BD.rf h.T).nw (ki := 9) (m := 0) hq (Kp.nw hq)).sub (fun q hq => hq) (fun q hq => (by cases hq)) (fun q hq => hq) (fun q hq => hq)
  refine r_dup (pc' := 4) dX9_copy_3 rfl rfl ?_
  refine r_callI (pc' := 7) (k' := 5) (n' := 55) (nn := 0) (As := []) (rest := [_]) dX9_copy_4 mb_X9_init mc_X9_init lk_X9_23 rfl rfl rfl rfl rfl (Nat.le_of_ble_eq_true rfl) rfl (c_X9_init b (fun z13 z14 I1 S1 b => (cpV ?_)))
  refine r_astore_n (pc' := 8) (lv' := [(1, _), (0, _)]) dX9_copy_7 rfl (by decide) rfl rfl ?_
  refine r_aload_n (pc' := 9) dX9_copy_8 rfl 0 rfl rfl ?_
  refine r_aload_n (pc' := 10) dX9_copy_9 rfl 1 rfl rfl ?_
  refine r_getIv (pc' := 13) dX9_copy_10 fa_X9_24 (b.dk h).o rfl (b.dk h).f0 rfl ?_
  refine r_putI (pc' := 16) dX9_copy_13 fa_X9_24 (b.o 2 rfl) rfl rfl ?_
  replace b := b.putI (a := q) (j := 0) (x := nI (pH D)) (b.n 2 rfl).2 (b.n 2 rfl).1 (by simp)
  refine r_aload_n (pc' := 17) dX9_copy_16 rfl 0 rfl rfl ?_
  refine r_aload_n (pc' := 18) dX9_copy_17 rfl 1 rfl rfl ?_
  refine r_getIv (pc' := 21) dX9_copy_18 fa_X9_27 (b.dk h).o rfl (congrFun (b.K.gI h.o.1 (fun q => q h.o.1)) 1) rfl ?_
  refine r_putI (pc' := 24) dX9_copy_21 fa_X9_27 (b.o 2 rfl) rfl rfl ?_
  replace b := b.putI (a := q) (j := 1) (x := I d 1) (b.n 2 rfl).2 (b.n 2 rfl).1 (by simp)
  refine r_aload_n (pc' := 25) dX9_copy_24 rfl 0 rfl rfl ?_
  refine r_aload_n (pc' := 26) dX9_copy_25 rfl 1 rfl rfl ?_
  refine r_getIv (pc' := 29) dX9_copy_26 fa_X9_30 (b.dk h).o rfl (b.dk h).f2 rfl ?_
  refine r_putI (pc' := 32) dX9_copy_29 fa_X9_30 (b.o 2 rfl) rfl rfl ?_
  replace b := b.putI (a := q) (j := 2) (x := nI (pst D)) (b.n 2 rfl).2 (b.n 2 rfl).1 (by simp [(b.ne 0 2 rfl rfl (by decide)), (b.ne 1 2 rfl rfl (by decide))])
  refine r_aload_n (pc' := 33) dX9_copy_32 rfl 0 rfl rfl ?_
  refine r_aload_n (pc' := 34) dX9_copy_33 rfl 1 rfl rfl ?_
  refine r_getIv (pc' := 37) dX9_copy_34 fa_X9_7 (b.dk h).o rfl (b.dk h).f3 rfl ?_
  refine r_putI (pc' := 40) dX9_copy_37 fa_X9_7 (b.o 2 rfl) rfl rfl ?_
  replace b := b.putI (a := q) (j := 3) (x := nI (pmt D)) (b.n 2 rfl).2 (b.n 2 rfl).1 (by simp)
  refine r_aload_n (pc' := 41) dX9_copy_40 rfl 0 rfl rfl ?_
  refine r_aload_n (pc' := 42) dX9_copy_41 rfl 1 rfl rfl ?_
  refine r_getO (pc' := 45) dX9_copy_42 fa_X9_33 (b.dk h).o rfl ((b.dk h).rr 4 (by decide) (by decide)) rfl ?_
  refine r_clone12 (pc' := 48) dX9_copy_45 (b.dk h).a4 cl_X9_37 clm_Z cln_n cln_i cls_Z clc_Z (fun j hj => by rw [b.K.gI h.a4.1 (fun q => q h.a4.1)]; exact hb.1 j hj) (by decide) (Nat.le_of_ble_eq_true rfl) (Nat.le_of_ble_eq_true rfl) (show _ + pH D ≤ 300 from by omega) rfl (fun z4 hz4 => aa_widen (k' := 6) (n' := 60) (by decide) (by omega) ?_)
  replace b := b.nw (ki := 12) (m := pH D) hz4 (Kp.cl (a := pA D 4) hz4)
  refine r_cast12 (pc' := 51) dX9_copy_48 cw_X9_38 (b.ar 0 rfl) rfl ?_
  refine r_putR (pc' := 54) dX9_copy_51 fa_X9_33 (b.o 3 rfl) rfl ⟨rfl, rfl⟩ (fun h => by cases h) rfl ?_
  replace b := b.putR (a := q) (j := 4) (v := z4) (b.n 3 rfl).2 (b.n 3 rfl).1 (by simp)
  refine r_aload_n (pc' := 55) dX9_copy_54 rfl 0 rfl rfl ?_
  refine r_aload_n (pc' := 56) dX9_copy_55 rfl 1 rfl rfl ?_
  refine r_getO (pc' := 59) dX9_copy_56 fa_X9_42 (b.dk h).o rfl ((b.dk h).rr 5 (by decide) (by decide)) rfl ?_
  refine r_clone12 (pc' := 62) dX9_copy_59 (b.dk h).a5 cl_X9_37 clm_Z cln_n cln_i cls_Z clc_Z (fun j hj => by rw [b.K.gI h.a5.1 (fun q => q h.a5.1)]; exact hb.2.1 j hj) (by decide) (Nat.le_of_ble_eq_true rfl) (Nat.le_of_ble_eq_true rfl) (show _ + pH D ≤ 300 from by omega) rfl (fun z5 hz5 => aa_widen (k' := 7) (n' := 65) (by decide) (by omega) ?_)
  replace b := b.nw (ki := 12) (m := pH D) hz5 (Kp.cl (a := pA D 5) hz5)
  refine r_cast12 (pc' := 65) dX9_copy_62 cw_X9_38 (b.ar 0 rfl) rfl ?_
  refine r_putR (pc' := 68) dX9_copy_65 fa_X9_42 (b.o 4 rfl) rfl ⟨rfl, rfl⟩ (fun h => by cases h) rfl ?_
  replace b := b.putR (a := q) (j := 5) (v := z5) (b.n 4 rfl).2 (b.n 4 rfl).1 (by simp)
  refine r_aload_n (pc' := 69) dX9_copy_68 rfl 0 rfl rfl ?_
  refine r_aload_n (pc' := 70) dX9_copy_69 rfl 1 rfl rfl ?_
  refine r_getO (pc' := 73) dX9_copy_70 fa_X9_45 (b.dk h).o rfl ((b.dk h).rr 6 (by decide) (by decide)) rfl ?_
  refine r_clone12 (pc' := 76) dX9_copy_73 (b.dk h).a6 cl_X9_37 clm_Z cln_n cln_i cls_Z clc_Z (fun j hj => by rw [b.K.gI h.a6.1 (fun q => q h.a6.1)]; exact hb.2.2 j hj) (by decide) (Nat.le_of_ble_eq_true rfl) (Nat.le_of_ble_eq_true rfl) (show _ + pW D ≤ 300 from by omega) rfl (fun z6 hz6 => aa_widen (k' := 8) (n' := 70) (by decide) (by omega) ?_)
  replace b := b.nw (ki := 12) (m := pW D) hz6 (Kp.cl (a := pA D 6) hz6)
  refine r_cast12 (pc' := 79) dX9_copy_76 cw_X9_38 (b.ar 0 rfl) rfl ?_
  refine r_putR (pc' := 82) dX9_copy_79 fa_X9_45 (b.o 5 rfl) rfl ⟨rfl, rfl⟩ (fun h => by cases h) rfl ?_
  replace b := b.putR (a := q) (j := 6) (v := z6) (b.n 5 rfl).2 (b.n 5 rfl).1 (by simp)
  refine r_aload_n (pc' := 83) dX9_copy_82 rfl 0 rfl rfl ?_
  refine r_aload_n (pc' := 84) dX9_copy_83 rfl 1 rfl rfl ?_
  refine r_getO (pc' := 87) dX9_copy_84 fa_X9_48 (b.dk h).o rfl ((b.dk h).rr 7 (by decide) (by decide)) rfl ?_
  refine r_clone11 (pc' := 90) dX9_copy_87 (b.dk h).a7 cl_X9_52 clm_I cln_n cln_i cls_I clc_I (fun j _ => fitI) (by decide) (Nat.le_of_ble_eq_true rfl) (Nat.le_of_ble_eq_true rfl) (show _ + pH D ≤ 300 from by omega) rfl (fun z7 hz7 => aa_widen (k' := 9) (n' := 75) (by decide) (by omega) ?_)
  replace b := b.nw (ki := 11) (m := pH D) hz7 (Kp.cl (a := pA D 7) hz7)
  refine r_cast11 (pc' := 93) dX9_copy_90 cw_X9_53 (b.ar 0 rfl) rfl ?_
  refine r_putR (pc' := 96) dX9_copy_93 fa_X9_48 (b.o 6 rfl) rfl ⟨rfl, rfl⟩ (fun h => by cases h) rfl ?_
  replace b := b.putR (a := q) (j := 7) (v := z7) (b.n 6 rfl).2 (b.n 6 rfl).1 (by simp)
  refine r_aload_n (pc' := 97) dX9_copy_96 rfl 0 rfl rfl ?_
  refine r_aload_n (pc' := 98) dX9_copy_97 rfl 1 rfl rfl ?_
  refine r_getO (pc' := 101) dX9_copy_98 fa_X9_54 (b.dk h).o rfl ((b.dk h).rr 8 (by decide) (by decide)) rfl ?_
  refine r_putR (pc' := 104) dX9_copy_101 fa_X9_54 (b.o 6 rfl) rfl ⟨rfl, rfl⟩ (fun h => by cases h) rfl ?_
  replace b := b.putR (a := q) (j := 8) (v := pA D 8) (b.n 6 rfl).2 (b.n 6 rfl).1 (by simp)
  refine r_aload_n (pc' := 105) dX9_copy_104 rfl 0 rfl rfl ?_
  refine r_aload_n (pc' := 106) dX9_copy_105 rfl 1 rfl rfl ?_
  refine r_getO (pc' := 109) dX9_copy_106 fa_X9_57 (b.dk h).o rfl ((b.dk h).rr 9 (by decide) (by decide)) rfl ?_
  refine r_putR (pc' := 112) dX9_copy_109 fa_X9_57 (b.o 6 rfl) rfl ⟨rfl, rfl⟩ (fun h => by cases h) rfl ?_
  replace b := b.putR (a := q) (j := 9) (v := pA D 9) (b.n 6 rfl).2 (b.n 6 rfl).1 (by simp)
  refine r_aload_n (pc' := 113) dX9_copy_112 rfl 0 rfl rfl ?_
  refine r_aload_n (pc' := 114) dX9_copy_113 rfl 1 rfl rfl ?_
  refine r_getO (pc' := 117) dX9_copy_114 fa_X9_60 (b.dk h).o rfl ((b.dk h).rr 10 (by decide) (by decide)) rfl ?_
  refine r_clone11 (pc' := 120) dX9_copy_117 (b.dk h).a10 cl_X9_52 clm_I cln_n cln_i cls_I clc_I (fun j _ => fitI) (by decide) (Nat.le_of_ble_eq_true rfl) (Nat.le_of_ble_eq_true rfl) (show _ + 6 ≤ 300 from by omega) rfl (fun z10 hz10 => aa_widen (k' := 10) (n' := 85) (by decide) (by omega) ?_)
  replace b := b.nw (ki := 11) (m := 6) hz10 (Kp.cl (a := pA D 10) hz10)
  refine r_cast11 (pc' := 123) dX9_copy_120 cw_X9_53 (b.ar 0 rfl) rfl ?_
  refine r_putR (pc' := 126) dX9_copy_123 fa_X9_60 (b.o 7 rfl) rfl ⟨rfl, rfl⟩ (fun h => by cases h) rfl ?_
  replace b := b.putR (a := q) (j := 10) (v := z10) (b.n 7 rfl).2 (b.n 7 rfl).1 (by simp)
  refine r_aload_n (pc' := 127) dX9_copy_126 rfl 0 rfl rfl ?_
  refine r_aload_n (pc' := 128) dX9_copy_127 rfl 1 rfl rfl ?_
  refine r_getO (pc' := 131) dX9_copy_128 fa_X9_63 (b.dk h).o rfl ((b.dk h).rr 11 (by decide) (by decide)) rfl ?_
  refine r_alen20 (pc' := 132) dX9_copy_131 (b.dk h).a11 rfl rfl ?_
  refine r_anew20 (pc' := 135) (N := 3) dX9_copy_132 (by rw [tA_I]; exact cw_X9_53) (by decide) (by decide) (by decide) (Nat.le_of_ble_eq_true rfl) (Nat.le_of_ble_eq_true rfl) rfl (fun zc hz2 => aa_widen (k' := 11) (n' := 90) (by decide) (by decide) ?_)
  have hzc := notin_of hz2
  replace b := b.nw (ki := 20) (m := 3) hzc (Kp.nw hzc)
  refine r_putR (pc' := 138) dX9_copy_135 fa_X9_63 (b.o 8 rfl) rfl ⟨rfl, rfl⟩ (fun h => by cases h) rfl ?_
  replace b := b.putR (a := q) (j := 11) (v := zc) (b.n 8 rfl).2 (b.n 8 rfl).1 (by simp)
  refine r_iconst (pc' := 139) (v := 0) dX9_copy_138 (by decide) rfl ?_
  refine r_istore_n (pc' := 140) (lv' := [(2, _), (1, _), (0, _)]) dX9_copy_139 rfl (by decide) rfl rfl ?_
  refine r_iload_n (pc' := 141) dX9_copy_140 rfl 0 rfl rfl ?_
  refine r_aload_n (pc' := 142) dX9_copy_141 rfl 2 rfl rfl ?_
  refine r_getO (pc' := 145) dX9_copy_142 fa_X9_63 (b.dk h).o rfl ((b.dk h).rr 11 (by decide) (by decide)) rfl ?_
  refine r_alen20 (pc' := 146) dX9_copy_145 (b.dk h).a11 rfl rfl ?_
  refine r_icmp_ge (tgt := 173) (pc' := 149) dX9_copy_146 rfl rfl (fun h146 => ?_) (fun h146 => ?_)
  · exact absurd h146 (by decide)
  · refine r_aload_n (pc' := 150) dX9_copy_149 rfl 1 rfl rfl ?_
    refine r_getO (pc' := 153) dX9_copy_150 fa_X9_63 (b.o 8 rfl) rfl (b.r 0 rfl) rfl ?_
    refine r_iload_n (pc' := 154) dX9_copy_153 rfl 0 rfl rfl ?_
    refine r_aload_n (pc' := 155) dX9_copy_154 rfl 2 rfl rfl ?_
    refine r_getO (pc' := 158) dX9_copy_155 fa_X9_63 (b.dk h).o rfl ((b.dk h).rr 11 (by decide) (by decide)) rfl ?_
    refine r_iload_n (pc' := 159) dX9_copy_158 rfl 0 rfl rfl ?_
    refine r_aald20N (pc' := 160) (d := 0) dX9_copy_159 (b.dk h).a11 (by decide) (by decide) ((b.dk h).cr 0 (by decide)).1 rfl ?_
    have h3 := ((b.dk h).cr 0 (by decide)).2.2
    refine r_clone11 (pc' := 163) dX9_copy_160 ((b.dk h).cr 0 (by decide)).2.1 cl_X9_52 clm_I cln_n cln_i cls_I clc_I (fun j _ => fitI) (by decide) (Nat.le_of_ble_eq_true rfl) (Nat.le_of_ble_eq_true rfl) (Nat.le_of_ble_eq_true rfl) rfl (fun c0 hc0 => aa_widen (k' := 12) (n' := 95) (by decide) (by decide) ?_)
    replace b := b.nw (ki := 11) (m := 4) hc0 (Kp.cl (a := pC D 0) hc0)
    replace b := b.addF (a := c0) (j := 0) (x := pcd D 0 0) (b.n 0 rfl).1 (by rw [clI_z]; exact congrFun h3 0)
    replace b := b.addF (a := c0) (j := 1) (x := pcd D 0 1) (b.n 0 rfl).1 (by rw [clI_z]; exact congrFun h3 1)
    refine r_cast11 (pc' := 166) dX9_copy_163 cw_X9_53 (b.ar 0 rfl) rfl ?_
    refine r_aast20N (pc' := 167) (d := 0) dX9_copy_166 (b.ar 1 rfl) (b.o 0 rfl) rfl (by decide) (by decide) rfl ?_
    replace b := b.putR (a := zc) (j := 0) (v := c0) (b.n 1 rfl).2 (b.n 1 rfl).1 (by simp)
    refine r_iinc (pc' := 170) (lv' := [(2, _), (1, _), (0, _)]) dX9_copy_167 0 rfl rfl (by decide) rfl rfl ?_
    refine aa_lv (lv' := [(2, .int (nI 1)), (1, .ref q), (0, .ref d)]) rfl ?_
    refine r_goto (tgt := 140) dX9_copy_170 rfl ?_
    refine r_iload_n (pc' := 141) dX9_copy_140 rfl 0 rfl rfl ?_
    refine r_aload_n (pc' := 142) dX9_copy_141 rfl 2 rfl rfl ?_
    refine r_getO (pc' := 145) dX9_copy_142 fa_X9_63 (b.dk h).o rfl ((b.dk h).rr 11 (by decide) (by decide)) rfl ?_
    refine r_alen20 (pc' := 146) dX9_copy_145 (b.dk h).a11 rfl rfl ?_
    refine r_icmp_ge (tgt := 173) (pc' := 149) dX9_copy_146 rfl rfl (fun h146 => ?_) (fun h146 => ?_)
    · exact absurd h146 (by decide)
    · refine r_aload_n (pc' := 150) dX9_copy_149 rfl 1 rfl rfl ?_
      refine r_getO (pc' := 153) dX9_copy_150 fa_X9_63 (b.o 9 rfl) rfl (b.r 1 rfl) rfl ?_
      refine r_iload_n (pc' := 154) dX9_copy_153 rfl 0 rfl rfl ?_
      refine r_aload_n (pc' := 155) dX9_copy_154 rfl 2 rfl rfl ?_
      refine r_getO (pc' := 158) dX9_copy_155 fa_X9_63 (b.dk h).o rfl ((b.dk h).rr 11 (by decide) (by decide)) rfl ?_
      refine r_iload_n (pc' := 159) dX9_copy_158 rfl 0 rfl rfl ?_
      refine r_aald20N (pc' := 160) (d := 1) dX9_copy_159 (b.dk h).a11 (by decide) (by decide) ((b.dk h).cr 1 (by decide)).1 rfl ?_
      have h3 := ((b.dk h).cr 1 (by decide)).2.2
      refine r_clone11 (pc' := 163) dX9_copy_160 ((b.dk h).cr 1 (by decide)).2.1 cl_X9_52 clm_I cln_n cln_i cls_I clc_I (fun j _ => fitI) (by decide) (Nat.le_of_ble_eq_true rfl) (Nat.le_of_ble_eq_true rfl) (Nat.le_of_ble_eq_true rfl) rfl (fun c1 hc1 => aa_widen (k' := 13) (n' := 100) (by decide) (by decide) ?_)
      replace b := b.nw (ki := 11) (m := 4) hc1 (Kp.cl (a := pC D 1) hc1)
      replace b := b.addF (a := c1) (j := 0) (x := pcd D 1 0) (b.n 0 rfl).1 (by rw [clI_z]; exact congrFun h3 0)
      replace b := b.addF (a := c1) (j := 1) (x := pcd D 1 1) (b.n 0 rfl).1 (by rw [clI_z]; exact congrFun h3 1)
      refine r_cast11 (pc' := 166) dX9_copy_163 cw_X9_53 (b.ar 0 rfl) rfl ?_
      refine r_aast20N (pc' := 167) (d := 1) dX9_copy_166 (b.ar 2 rfl) (b.o 0 rfl) rfl (by decide) (by decide) rfl ?_
      replace b := b.putR (a := zc) (j := 1) (v := c1) (b.n 2 rfl).2 (b.n 2 rfl).1 (by simp [(b.ne 8 2 rfl rfl (by decide)), (b.ne 9 2 rfl rfl (by decide))])
      refine r_iinc (pc' := 170) (lv' := [(2, _), (1, _), (0, _)]) dX9_copy_167 0 rfl rfl (by decide) rfl rfl ?_
      refine aa_lv (lv' := [(2, .int (nI 2)), (1, .ref q), (0, .ref d)]) rfl ?_
      refine r_goto (tgt := 140) dX9_copy_170 rfl ?_
      refine r_iload_n (pc' := 141) dX9_copy_140 rfl 0 rfl rfl ?_
      refine r_aload_n (pc' := 142) dX9_copy_141 rfl 2 rfl rfl ?_
      refine r_getO (pc' := 145) dX9_copy_142 fa_X9_63 (b.dk h).o rfl ((b.dk h).rr 11 (by decide) (by decide)) rfl ?_
      refine r_alen20 (pc' := 146) dX9_copy_145 (b.dk h).a11 rfl rfl ?_
      refine r_icmp_ge (tgt := 173) (pc' := 149) dX9_copy_146 rfl rfl (fun h146 => ?_) (fun h146 => ?_)
      · exact absurd h146 (by decide)
      · refine r_aload_n (pc' := 150) dX9_copy_149 rfl 1 rfl rfl ?_
        refine r_getO (pc' := 153) dX9_copy_150 fa_X9_63 (b.o 10 rfl) rfl (b.r 2 rfl) rfl ?_
        refine r_iload_n (pc' := 154) dX9_copy_153 rfl 0 rfl rfl ?_
        refine r_aload_n (pc' := 155) dX9_copy_154 rfl 2 rfl rfl ?_
        refine r_getO (pc' := 158) dX9_copy_155 fa_X9_63 (b.dk h).o rfl ((b.dk h).rr 11 (by decide) (by decide)) rfl ?_
        refine r_iload_n (pc' := 159) dX9_copy_158 rfl 0 rfl rfl ?_
        refine r_aald20N (pc' := 160) (d := 2) dX9_copy_159 (b.dk h).a11 (by decide) (by decide) ((b.dk h).cr 2 (by decide)).1 rfl ?_
        have h3 := ((b.dk h).cr 2 (by decide)).2.2
        refine r_clone11 (pc' := 163) dX9_copy_160 ((b.dk h).cr 2 (by decide)).2.1 cl_X9_52 clm_I cln_n cln_i cls_I clc_I (fun j _ => fitI) (by decide) (Nat.le_of_ble_eq_true rfl) (Nat.le_of_ble_eq_true rfl) (Nat.le_of_ble_eq_true rfl) rfl (fun c2 hc2 => aa_widen (k' := 14) (n' := 105) (by decide) (by decide) ?_)
        replace b := b.nw (ki := 11) (m := 4) hc2 (Kp.cl (a := pC D 2) hc2)
        replace b := b.addF (a := c2) (j := 0) (x := pcd D 2 0) (b.n 0 rfl).1 (by rw [clI_z]; exact congrFun h3 0)
        replace b := b.addF (a := c2) (j := 1) (x := pcd D 2 1) (b.n 0 rfl).1 (by rw [clI_z]; exact congrFun h3 1)
        refine r_cast11 (pc' := 166) dX9_copy_163 cw_X9_53 (b.ar 0 rfl) rfl ?_
        refine r_aast20N (pc' := 167) (d := 2) dX9_copy_166 (b.ar 3 rfl) (b.o 0 rfl) rfl (by decide) (by decide) rfl ?_
        replace b := b.putR (a := zc) (j := 2) (v := c2) (b.n 3 rfl).2 (b.n 3 rfl).1 (by simp)
        refine r_iinc (pc' := 170) (lv' := [(2, _), (1, _), (0, _)]) dX9_copy_167 0 rfl rfl (by decide) rfl rfl ?_
        refine aa_lv (lv' := [(2, .int (nI 3)), (1, .ref q), (0, .ref d)]) rfl ?_
        refine r_goto (tgt := 140) dX9_copy_170 rfl ?_
        refine r_iload_n (pc' := 141) dX9_copy_140 rfl 0 rfl rfl ?_
        refine r_aload_n (pc' := 142) dX9_copy_141 rfl 2 rfl rfl ?_
        refine r_getO (pc' := 145) dX9_copy_142 fa_X9_63 (b.dk h).o rfl ((b.dk h).rr 11 (by decide) (by decide)) rfl ?_
        refine r_alen20 (pc' := 146) dX9_copy_145 (b.dk h).a11 rfl rfl ?_
        refine r_icmp_ge (tgt := 173) (pc' := 149) dX9_copy_146 rfl rfl (fun h146 => ?_) (fun h146 => ?_)
        · refine r_aload_n (pc' := 174) dX9_copy_173 rfl 1 rfl rfl ?_
          refine r_aload_n (pc' := 175) dX9_copy_174 rfl 2 rfl rfl ?_
          refine r_getO (pc' := 178) dX9_copy_175 fa_X9_67 (b.dk h).o rfl ((b.dk h).rr 12 (by decide) (by decide)) rfl ?_
          refine r_putR (pc' := 181) dX9_copy_178 fa_X9_67 (b.o 11 rfl) rfl ⟨rfl, rfl⟩ (fun h => by cases h) rfl ?_
          replace b := b.putR (a := q) (j := 12) (v := pA D 12) (b.n 11 rfl).2 (b.n 11 rfl).1 (by simp)
          refine r_iconst (pc' := 182) (v := 0) dX9_copy_181 (by decide) rfl ?_
          refine r_istore_n (pc' := 183) (lv' := [(2, _), (1, _), (0, _)]) dX9_copy_182 rfl (by decide) rfl rfl ?_
          refine r_iload_n (pc' := 184) dX9_copy_183 rfl 0 rfl rfl ?_
          refine r_aload_n (pc' := 185) dX9_copy_184 rfl 2 rfl rfl ?_
          refine r_getO (pc' := 188) dX9_copy_185 fa_X9_16 (b.dk h).o rfl ((b.dk h).rr 13 (by decide) (by decide)) rfl ?_
          refine r_callV (pc' := 191) (k' := 14) (n' := 105) (nn := 0) (As := []) (rest := [_]) dX9_copy_188 mb_Jx4a65c_size_8abf5 mi_Jx4a65c_size_8abf5 (b.dk h).l13.1 (by decide) rfl lk_X9_70 rfl rfl rfl rfl rfl (Nat.le_of_ble_eq_true rfl) rfl (c_Jx4a65c_size_8abf5 (b.dk h).l13 (cpI ?_))
          refine r_icmp_ge (tgt := 238) (pc' := 194) dX9_copy_191 rfl rfl (fun h191 => ?_) (fun h191 => ?_)
          · refine r_aload_n (pc' := 239) dX9_copy_238 rfl 1 rfl rfl ?_
            have hv := h.dv
            have key : ∀ (I2 : JI) (S2 : JS), BD I S I2 S2 [(q, 12, pA D 12), (zc, 2, c2), (zc, 1, c1), (zc, 0, c0), (q, 11, zc), (q, 10, z10), (q, 9, pA D 9), (q, 8, pA D 8), (q, 7, z7), (q, 6, z6), (q, 5, z5), (q, 4, z4), (q, 14, z14), (z14, 1, oE Ω), (q, 13, z13), (z13, 1, oE Ω)] [(11, c2, 4), (11, c1, 4), (11, c0, 4), (20, zc, 3), (11, z10, 6), (11, z7, pH D), (12, z6, pW D), (12, z5, pH D), (12, z4, pH D)] [(c2, 1, pcd D 2 1), (c2, 0, pcd D 2 0), (c1, 1, pcd D 1 1), (c1, 0, pcd D 1 0), (c0, 1, pcd D 0 1), (c0, 0, pcd D 0 0), (q, 3, nI (pmt D)), (q, 2, nI (pst D)), (q, 1, I d 1), (q, 0, nI (pH D)), (z14, 2, 0), (z13, 2, 0)] [(11, c2), (11, c1), (11, c0), (20, zc), (11, z10), (11, z7), (12, z6), (12, z5), (12, z4), (18, z14), (18, z13), (9, q)] [c2, c1, c0, zc, z10, z7, z6, z5, z4, z14, z13, q] → DK Ω (sL S) S2 I2 q (fun j => if j = 4 then z4 else if j = 5 then z5 else if j = 6 then z6 else if j = 7 then z7 else if j = 8 then pA D 8 else if j = 9 then pA D 9 else if j = 10 then z10 else if j = 11 then zc else if j = 12 then pA D 12 else if j = 13 then z13 else z14, fun k => if k = 0 then c0 else if k = 1 then c1 else c2, D.2.2.1, D.2.2.2.1, D.2.2.2.2.1, fun k => I2 (((fun k => if k = 0 then c0 else if k = 1 then c1 else c2) : Nat → Nat) k)) (oE Ω) (oE Ω) 0 0 ∧ ∀ k, k < 3 → pcd (fun j => if j = 4 then z4 else if j = 5 then z5 else if j = 6 then z6 else if j = 7 then z7 else if j = 8 then pA D 8 else if j = 9 then pA D 9 else if j = 10 then z10 else if j = 11 then zc else if j = 12 then pA D 12 else if j = 13 then z13 else z14, fun k => if k = 0 then c0 else if k = 1 then c1 else c2, D.2.2.1, D.2.2.2.1, D.2.2.2.2.1, fun k => I2 (((fun k => if k = 0 then c0 else if k = 1 then c1 else c2) : Nat → Nat) k)) k 0 = pcd D k 0 ∧ pcd (fun j => if j = 4 then z4 else if j = 5 then z5 else if j = 6 then z6 else if j = 7 then z7 else if j = 8 then pA D 8 else if j = 9 then pA D 9 else if j = 10 then z10 else if j = 11 then zc else if j = 12 then pA D 12 else if j = 13 then z13 else z14, fun k => if k = 0 then c0 else if k = 1 then c1 else c2, D.2.2.1, D.2.2.2.1, D.2.2.2.2.1, fun k => I2 (((fun k => if k = 0 then c0 else if k = 1 then c1 else c2) : Nat → Nat) k)) k 1 = pcd D k 1 := by
              clear b
              intro I2 S2 b
              refine ⟨?_, ?_⟩
              · refine ⟨(b.o 11 rfl), fun j h1 h2 => ?_, ⟨(b.ar 8 rfl), (b.ar 7 rfl), (b.ar 6 rfl), (b.ar 5 rfl), (b.dk h).a8, (b.dk h).a9, (b.ar 4 rfl), (b.ar 3 rfl), (b.dk h).a12⟩, fun k hk => ?_, ⟨(b.f 9 rfl), (b.f 7 rfl), (b.f 6 rfl), (b.dk h).on, (b.dk h).pk⟩, ⟨⟨(b.o 10 rfl), (b.r 15 rfl), (b.f 11 rfl), b.T, Or.inl ⟨rfl, rfl⟩⟩, fun i hi => absurd hi (Nat.not_lt_zero i)⟩, ⟨⟨(b.o 9 rfl), (b.r 13 rfl), (b.f 10 rfl), b.T, Or.inl ⟨rfl, rfl⟩⟩, fun i hi => absurd hi (Nat.not_lt_zero i)⟩, Or.inr rfl, ⟨⟨⟨(b.n 8 rfl).2, (b.ne 8 11 rfl rfl (by decide)), nin_ne (b.n 8 rfl).2 h.a8.1, nin_ne (b.n 8 rfl).2 h.a12.1, (b.ne 8 10 rfl rfl (by decide)), (b.ne 8 9 rfl rfl (by decide)), fun k hk => by rcases (show k = 0 ∨ k = 1 ∨ k = 2 by omega) with rfl | rfl | rfl; exact (b.ne 8 2 rfl rfl (by decide)); exact (b.ne 8 1 rfl rfl (by decide)); exact (b.ne 8 0 rfl rfl (by decide))⟩, ⟨(b.n 7 rfl).2, (b.ne 7 11 rfl rfl (by decide)), nin_ne (b.n 7 rfl).2 h.a8.1, nin_ne (b.n 7 rfl).2 h.a12.1, (b.ne 7 10 rfl rfl (by decide)), (b.ne 7 9 rfl rfl (by decide)), fun k hk => by rcases (show k = 0 ∨ k = 1 ∨ k = 2 by omega) with rfl | rfl | rfl; exact (b.ne 7 2 rfl rfl (by decide)); exact (b.ne 7 1 rfl rfl (by decide)); exact (b.ne 7 0 rfl rfl (by decide))⟩, ⟨(b.n 6 rfl).2, (b.ne 6 11 rfl rfl (by decide)), nin_ne (b.n 6 rfl).2 h.a8.1, nin_ne (b.n 6 rfl).2 h.a12.1, (b.ne 6 10 rfl rfl (by decide)), (b.ne 6 9 rfl rfl (by decide)), fun k hk => by rcases (show k = 0 ∨ k = 1 ∨ k = 2 by omega) with rfl | rfl | rfl; exact (b.ne 6 2 rfl rfl (by decide)); exact (b.ne 6 1 rfl rfl (by decide)); exact (b.ne 6 0 rfl rfl (by decide))⟩, ⟨(b.n 5 rfl).2, (b.ne 5 11 rfl rfl (by decide)), nin_ne (b.n 5 rfl).2 h.a8.1, nin_ne (b.n 5 rfl).2 h.a12.1, (b.ne 5 10 rfl rfl (by decide)), (b.ne 5 9 rfl rfl (by decide)), fun k hk => by rcases (show k = 0 ∨ k = 1 ∨ k = 2 by omega) with rfl | rfl | rfl; exact (b.ne 5 2 rfl rfl (by decide)); exact (b.ne 5 1 rfl rfl (by decide)); exact (b.ne 5 0 rfl rfl (by decide))⟩, ⟨(b.n 4 rfl).2, (b.ne 4 11 rfl rfl (by decide)), nin_ne (b.n 4 rfl).2 h.a8.1, nin_ne (b.n 4 rfl).2 h.a12.1, (b.ne 4 10 rfl rfl (by decide)), (b.ne 4 9 rfl rfl (by decide)), fun k hk => by rcases (show k = 0 ∨ k = 1 ∨ k = 2 by omega) with rfl | rfl | rfl; exact (b.ne 4 2 rfl rfl (by decide)); exact (b.ne 4 1 rfl rfl (by decide)); exact (b.ne 4 0 rfl rfl (by decide))⟩⟩, (b.n 10 rfl).2, (b.n 9 rfl).2, (b.ne 10 9 rfl rfl (by decide))⟩, ?_⟩
                · rcases (show j = 4 ∨ j = 5 ∨ j = 6 ∨ j = 7 ∨ j = 8 ∨ j = 9 ∨ j = 10 ∨ j = 11 ∨ j = 12 ∨ j = 13 ∨ j = 14 by omega) with rfl | rfl | rfl | rfl | rfl | rfl | rfl | rfl | rfl | rfl | rfl
                  · exact (b.r 11 rfl)
                  · exact (b.r 10 rfl)
                  · exact (b.r 9 rfl)
                  · exact (b.r 8 rfl)
                  · exact (b.r 7 rfl)
                  · exact (b.r 6 rfl)
                  · exact (b.r 5 rfl)
                  · exact (b.r 4 rfl)
                  · exact (b.r 0 rfl)
                  · exact (b.r 14 rfl)
                  · exact (b.r 12 rfl)
                · rcases (show k = 0 ∨ k = 1 ∨ k = 2 by omega) with rfl | rfl | rfl
                  · exact ⟨(b.r 3 rfl), (b.ar 2 rfl), rfl⟩
                  · exact ⟨(b.r 2 rfl), (b.ar 1 rfl), rfl⟩
                  · exact ⟨(b.r 1 rfl), (b.ar 0 rfl), rfl⟩
                · refine ⟨hv.1, hv.2.1, hv.2.2.1, fun k hk => ?_⟩
                  obtain ⟨f, g1, g2⟩ := hv.2.2.2 k hk
                  refine ⟨f, g1, Eq.trans ?_ g2⟩
                  rcases (show k = 0 ∨ k = 1 ∨ k = 2 by omega) with rfl | rfl | rfl
                  · exact (b.f 4 rfl)
                  · exact (b.f 2 rfl)
                  · exact (b.f 0 rfl)
              · intro k hk
                rcases (show k = 0 ∨ k = 1 ∨ k = 2 by omega) with rfl | rfl | rfl
                · exact ⟨(b.f 5 rfl), (b.f 4 rfl)⟩
                · exact ⟨(b.f 3 rfl), (b.f 2 rfl)⟩
                · exact ⟨(b.f 1 rfl), (b.f 0 rfl)⟩
            exact r_aret dX9_copy_239 rfl (Or.inl ⟨_, rfl⟩) (Or.inr ⟨_, rfl⟩) (by decide) (by decide) (hQ q _ _ _ (key _ _ b).1 rfl (key _ _ b).2 (b.K.mono fun c hc q => q hc))
          · exact absurd (show nI 0 ≤ 0 from by decide) h191
        · exact absurd (show (3 : Int32) ≤ nI 3 by decide) h146
