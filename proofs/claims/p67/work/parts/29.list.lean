/-! a String of one's own, lists, boxes -/
section LST
variable {Ω : JO} {Y Z : JM} {F : JF} {k n k' n' pc pc' : Nat} {lv lv' : List (Nat × Value)} {st rest : List Value} {I : JI} {S : JS}
theorem r_baloadN {a N d : Nat} {v : Int32} (hd : decode Y.2.1 pc = .ok (.baload, 1)) (hA : ArE 10 S a N) (hin : d < N) (hN : N < 2 ^ 31) (hv : I a d = v) (hp : pc + 1 = pc') (h : AA Ω Y F k n pc' lv (.int v :: st) I S) : AA Ω Y F k n pc lv (.int (nI d) :: .ref a :: st) I S := by
  refine r_baload hd hA (vp_nI hin (by omega)) hp ?_
  rw [nI_clamp (by omega), hv]; exact h
theorem r_callBox {j idx nn : Nat} {As rest : List Value} (hd : decode Y.2.1 pc = .ok (.invokevirtual idx, 3)) (hb : SB Z nn) (hs : SI Z) (hc : Z.1.cls = "java/lang/Integer") (hj : j < 256) (hlk : LK Y.1.cls idx Z) (hAs : As.length = nn) (hst : st = As.reverse ++ .ref (oB Ω j) :: rest) (hro : roomB Y Z k n = true) (hk : k + Z.2.2.2.2.2.cells = k') (hn : n + Z.2.2.2.2.2.slots = n') (hrs : (rest.map fun v => v.category).sum ≤ 8) (hp : pc + 3 = pc') (h : Call Ω Z (.ref (oB Ω j) :: As) I S (CP Ω Y F k' n' pc pc' lv rest)) : AA Ω Y F k n pc lv st I S := by
  subst hst
  intro p e s m args below meth c H locs ls C w hS hl
  obtain ⟨r1, r2, r3, r4⟩ := roomB_of hro
  have hv : PreV s H Z.1.cls (oB Ω j) (PcJ Ω I S (.ref (oB Ω j) :: As)) As := by
    obtain ⟨cell, g1, g2, g3, -⟩ := ((evx C).2.2.1.2.2.2.1 j hj).kept hS.2.1
    exact ⟨pcJ_blind, ⟨cell, g1, g2, by rw [hc]; exact g3⟩, fun U hU hW => ⟨rfl, by rw [hU]; exact w, by rw [hU]; exact C.2.2.2.2.2.2.2.2.2.go hW hS.1 hS.2.1⟩⟩
  exact aa_run C hS hl hp hk hn (vx_runV ⟨C.1, C.2.1, C.2.2.1, C.2.2.2.2.1, C.2.2.2.2.2.1⟩ h ⟨callB_g C hb hlk hro, C.2.2.2.2.2.1 _ hs.1, C.2.2.2.2.2.1 _ hs.2⟩ hv rfl hAs hl.1 rfl (lv_room hrs) hd ⟨r3, r4⟩) (fun _ _ _ h => h)
theorem aa_oE (h : oE Ω ∉ sL S → AA Ω Y F k n pc lv st I S) : AA Ω Y F k n pc lv st I S := fun p e s m args below meth c H locs ls CC w hS hl => h (fun hm => by
  obtain ⟨q0, hq0⟩ := va_pl_get (X := []) (f := cellE Ω I S) hm
  have h1 := w.2.1.2 q0 _ hq0
  obtain ⟨cell, _, _, _, _, _, _, h7⟩ := (evx CC).2.1.2
  exact h7 h1) p e s m args below meth c H locs ls CC w hS hl
theorem aa_AR (h : (∀ a, a ∈ sL S → Ω.2.2.2.1 ≤ a) → AA Ω Y F k n pc lv st I S) : AA Ω Y F k n pc lv st I S := fun p e s m args below meth c H locs ls CC w hS hl => h (fun a hm => by
  obtain ⟨q0, hq0⟩ := va_pl_get (X := []) (f := cellE Ω I S) hm
  exact w.2.1.2 q0 _ hq0) p e s m args below meth c H locs ls CC w hS hl
end LST
theorem byt_and {x : Nat} (h : x < 128) : nI x &&& 255 = nI x := by_fin (n := 128) (P := fun x => nI x &&& 255 = nI x) (by decide +kernel) h
theorem byt_chr {x : Nat} (h : x < 128) : ((nI x).toUInt32 % 65536).toInt32 = nI x := by_fin (n := 128) (P := fun x => ((nI x).toUInt32 % 65536).toInt32 = nI x) (by decide +kernel) h
theorem getD_mem {t : List Nat} {j : Nat} (h : j < t.length) : t.getD j 0 ∈ t := by
  rw [List.getD_eq_getElem?_getD, List.getElem?_eq_getElem h]; exact List.getElem_mem _
set_option maxHeartbeats 2000000 in
theorem c_J0_coder_S {Ω : JO} {I : JI} {S : JS} {Q : JQ} {z : Nat} {t : List Nat} (h : STk S I z t) (hQ : Q (.inl (some (.int 0))) I S) : Call Ω m_J0_coder_7d493 [.ref z] I S Q := by
  refine call_of (by decide +kernel) rfl (Nat.le_of_ble_eq_true rfl) ?_
  change AA Ω m_J0_coder_7d493 (FQ Ω m_J0_coder_7d493 Q) 0 0 0 [(0, .ref z)] [] I S
  obtain ⟨ho, w, hw, hA, hc, hv, hs, hl⟩ := h
  refine r_sCompact (pc' := 3) dJ0_coder_7d493_0 fl_J0_38 rfl ?_
  refine r_if_eq (tgt := 13) (pc' := 6) dJ0_coder_7d493_3 rfl rfl (fun h3 => ?_) (fun h3 => ?_)
  · exact absurd h3 (by decide)
  · refine r_aload_n (pc' := 7) dJ0_coder_7d493_6 rfl 0 rfl rfl ?_
    refine r_getIv (pc' := 10) dJ0_coder_7d493_7 fa_J0_15 ho rfl hc rfl ?_
    refine r_goto (tgt := 14) dJ0_coder_7d493_10 rfl ?_
    exact r_bret dJ0_coder_7d493_14 rfl rfl (by decide) (by decide) (hQ)
set_option maxHeartbeats 2000000 in
theorem c_J0_isLatin1_S {Ω : JO} {I : JI} {S : JS} {Q : JQ} {z : Nat} {t : List Nat} (h : STk S I z t) (hQ : Q (.inl (some (.int 1))) I S) : Call Ω m_J0_isLatin1_aae02 [.ref z] I S Q := by
  refine call_of (by decide +kernel) rfl (Nat.le_of_ble_eq_true rfl) ?_
  change AA Ω m_J0_isLatin1_aae02 (FQ Ω m_J0_isLatin1_aae02 Q) 0 0 0 [(0, .ref z)] [] I S
  obtain ⟨ho, w, hw, hA, hc, hv, hs, hl⟩ := h
  refine r_sCompact (pc' := 3) dJ0_isLatin1_aae02_0 fl_J0_38 rfl ?_
  refine r_if_eq (tgt := 17) (pc' := 6) dJ0_isLatin1_aae02_3 rfl rfl (fun h3 => ?_) (fun h3 => ?_)
  · exact absurd h3 (by decide)
  · refine r_aload_n (pc' := 7) dJ0_isLatin1_aae02_6 rfl 0 rfl rfl ?_
    refine r_getIv (pc' := 10) dJ0_isLatin1_aae02_7 fa_J0_15 ho rfl hc rfl ?_
    refine r_if_ne (tgt := 17) (pc' := 13) dJ0_isLatin1_aae02_10 rfl rfl (fun h10 => ?_) (fun h10 => ?_)
    · exact absurd rfl h10
    · refine r_iconst (pc' := 14) (v := 1) dJ0_isLatin1_aae02_13 (by decide) rfl ?_
      refine r_goto (tgt := 18) dJ0_isLatin1_aae02_14 rfl ?_
      exact r_zret dJ0_isLatin1_aae02_18 rfl (by first | exact zb01 _ | decide) (by decide) (by decide) (hQ)
set_option maxHeartbeats 2000000 in
theorem c_J0_length_S {Ω : JO} {I : JI} {S : JS} {Q : JQ} {z : Nat} {t : List Nat} (h : STk S I z t) (hQ : Q (.inl (some (.int (nI t.length)))) I S) : Call Ω m_J0_length_8abf5 [.ref z] I S Q := by
  refine call_of (by decide +kernel) rfl (Nat.le_of_ble_eq_true rfl) ?_
  change AA Ω m_J0_length_8abf5 (FQ Ω m_J0_length_8abf5 Q) 0 0 0 [(0, .ref z)] [] I S
  have h0 := h
  obtain ⟨ho, w, hw, hA, hc, hv, hs, hl⟩ := h
  refine r_aload_n (pc' := 1) dJ0_length_8abf5_0 rfl 0 rfl rfl ?_
  refine r_getO (pc' := 4) dJ0_length_8abf5_1 fa_J0_9 ho rfl hw rfl ?_
  refine r_alen (pc' := 5) dJ0_length_8abf5_4 hA (by decide) rfl rfl ?_
  refine r_aload_n (pc' := 6) dJ0_length_8abf5_5 rfl 0 rfl rfl ?_
  refine r_callV (pc' := 9) (k' := 0) (n' := 0) (nn := 0) (As := []) (rest := [_]) dJ0_length_8abf5_6 mb_J0_coder_7d493 mi_J0_coder_7d493 ho (by decide) rfl lk_J0_335 rfl rfl rfl rfl rfl (Nat.le_of_ble_eq_true rfl) rfl (c_J0_coder_S h0 (cpI ?_))
  refine r_ishrv (pc' := 10) dJ0_length_8abf5_9 (sb_shr0 _) rfl ?_
  exact r_iret dJ0_length_8abf5_10 rfl (by decide) (by decide) (hQ)
set_option maxHeartbeats 2000000 in
theorem c_J1_charAt_S {Ω : JO} {I : JI} {S : JS} {Q : JQ} {a N i x : Nat} (hA : ArE 10 S a N) (hi : i < N) (hN : N < 2 ^ 31) (hv : I a i = nI x) (hx : x < 128) (hQ : Q (.inl (some (.int (nI x)))) I S) : Call Ω m_J1_charAt_3b067 [.ref a, .int (nI i)] I S Q := by
  refine call_of (by decide +kernel) rfl (Nat.le_of_ble_eq_true rfl) ?_
  change AA Ω m_J1_charAt_3b067 (FQ Ω m_J1_charAt_3b067 Q) 0 0 0 [(0, .ref a), (1, .int (nI i))] [] I S
  refine r_iload_n (pc' := 1) dJ1_charAt_3b067_0 rfl 1 rfl rfl ?_
  refine r_aload_n (pc' := 2) dJ1_charAt_3b067_1 rfl 0 rfl rfl ?_
  refine r_alen (pc' := 3) dJ1_charAt_3b067_2 hA (by decide) rfl rfl ?_
  refine r_callS (pc' := 6) (k' := 0) (n' := 0) (nn := 2) (As := [_, _]) (rest := []) dJ1_charAt_3b067_3 mb_J0_checkIndex_df160 ms_J0_checkIndex_df160 lk_J1_9 rfl rfl rfl rfl rfl (Nat.le_of_ble_eq_true rfl) rfl (c_J0_checkIndex_df160 (nI_pos (by omega)) (show nI i < nI N from nI_lt hi hN) (cpV ?_))
  refine r_aload_n (pc' := 7) dJ1_charAt_3b067_6 rfl 0 rfl rfl ?_
  refine r_iload_n (pc' := 8) dJ1_charAt_3b067_7 rfl 1 rfl rfl ?_
  refine r_baloadN (pc' := 9) dJ1_charAt_3b067_8 hA hi hN hv rfl ?_
  refine r_sipush (pc' := 12) (v := 255) dJ1_charAt_3b067_9 (by decide) rfl ?_
  refine r_iandv (pc' := 13) dJ1_charAt_3b067_12 (byt_and hx) rfl ?_
  refine r_i2c (pc' := 14) dJ1_charAt_3b067_13 (byt_chr hx) rfl ?_
  exact r_cret dJ1_charAt_3b067_14 rfl (byt_chr hx) (by decide) (by decide) (hQ)
set_option maxHeartbeats 2000000 in
theorem c_J0_charAt_S {Ω : JO} {I : JI} {S : JS} {Q : JQ} {z : Nat} {t : List Nat} (h : STk S I z t) {i : Nat} (hi : i < t.length) (hQ : Q (.inl (some (.int (nI (t.getD i 0))))) I S) : Call Ω m_J0_charAt_5068e [.ref z, .int (nI i)] I S Q := by
  refine call_of (by decide +kernel) rfl (Nat.le_of_ble_eq_true rfl) ?_
  change AA Ω m_J0_charAt_5068e (FQ Ω m_J0_charAt_5068e Q) 0 0 0 [(0, .ref z), (1, .int (nI i))] [] I S
  have h0 := h
  obtain ⟨ho, w, hw, hA, hc, hv, hs, hl⟩ := h
  refine r_aload_n (pc' := 1) dJ0_charAt_5068e_0 rfl 0 rfl rfl ?_
  refine r_callV (pc' := 4) (k' := 0) (n' := 0) (nn := 0) (As := []) (rest := []) dJ0_charAt_5068e_1 mb_J0_isLatin1_aae02 mi_J0_isLatin1_aae02 ho (by decide) rfl lk_J0_492 rfl rfl rfl rfl rfl (Nat.le_of_ble_eq_true rfl) rfl (c_J0_isLatin1_S h0 (cpI ?_))
  refine r_if_eq (tgt := 16) (pc' := 7) dJ0_charAt_5068e_4 rfl rfl (fun h4 => ?_) (fun h4 => ?_)
  · exact absurd h4 (by decide)
  · refine r_aload_n (pc' := 8) dJ0_charAt_5068e_7 rfl 0 rfl rfl ?_
    refine r_getO (pc' := 11) dJ0_charAt_5068e_8 fa_J0_9 ho rfl hw rfl ?_
    refine r_iload_n (pc' := 12) dJ0_charAt_5068e_11 rfl 1 rfl rfl ?_
    refine r_callS (pc' := 15) (k' := 0) (n' := 0) (nn := 2) (As := [_, _]) (rest := []) dJ0_charAt_5068e_12 mb_J1_charAt_3b067 ms_J1_charAt_3b067 lk_J0_495 rfl rfl rfl rfl rfl (Nat.le_of_ble_eq_true rfl) rfl (c_J1_charAt_S hA hi (by omega) (hv i hi) (hs _ (getD_mem hi)) (cpI ?_))
    exact r_cret dJ0_charAt_5068e_15 rfl (byt_chr (hs _ (getD_mem hi))) (by decide) (by decide) (hQ)
theorem box_v {c : Nat} (h : c < 3) : vb_c (c + 128) = nI c := by_fin (n := 3) (P := fun c => vb_c (c + 128) = nI c) (by decide +kernel) h
set_option maxHeartbeats 2000000 in
theorem c_J6_valueOf_2dffe {Ω : JO} {I : JI} {S : JS} {Q : JQ} {c : Nat} (hc : c < 3) (hQ : Q (.inl (some (.ref (oB Ω (c + 128))))) I S) : Call Ω m_J6_valueOf_2dffe [.int (nI c)] I S Q := by
  refine call_of (by decide +kernel) rfl (Nat.le_of_ble_eq_true rfl) ?_
  change AA Ω m_J6_valueOf_2dffe (FQ Ω m_J6_valueOf_2dffe Q) 0 0 0 [(0, .int (nI c))] [] I S
  refine r_iload_n (pc' := 1) dJ6_valueOf_2dffe_0 rfl 0 rfl rfl ?_
  refine r_bipush (pc' := 3) (v := -128) dJ6_valueOf_2dffe_1 (by decide) rfl ?_
  refine r_icmp_lt (tgt := 23) (pc' := 6) dJ6_valueOf_2dffe_3 rfl rfl (fun h3 => ?_) (fun h3 => ?_)
  · exact absurd h3 (by_fin (n := 3) (P := fun c => ¬ nI c < -128) (by decide +kernel) hc)
  · refine r_iload_n (pc' := 7) dJ6_valueOf_2dffe_6 rfl 0 rfl rfl ?_
    refine r_gets (pc' := 10) (v := .int 127) dJ6_valueOf_2dffe_7 fl_J6_191 (fun _ _ h => h.2.2.1.1) rfl ?_
    refine r_icmp_gt (tgt := 23) (pc' := 13) dJ6_valueOf_2dffe_10 rfl rfl (fun h10 => ?_) (fun h10 => ?_)
    · exact absurd h10 (show ¬ nI 127 < nI c from nI_nlt (by omega) (by decide))
    · refine r_gets (pc' := 16) (v := .ref (oC Ω)) dJ6_valueOf_2dffe_13 fl_J6_195 (fun _ _ h => h.2.2.1.2.1) rfl ?_
      refine r_iload_n (pc' := 17) dJ6_valueOf_2dffe_16 rfl 0 rfl rfl ?_
      refine r_sipush (pc' := 20) (v := 128) dJ6_valueOf_2dffe_17 (by decide) rfl ?_
      refine r_iaddv (pc' := 21) dJ6_valueOf_2dffe_20 (nI_add c 128) rfl ?_
      refine r_boxAt (pc' := 22) dJ6_valueOf_2dffe_21 (vp_nI (by omega) (by omega)) rfl ?_
      rw [nI_clamp (show c + 128 < 2 ^ 31 by omega)]
      exact r_aret dJ6_valueOf_2dffe_22 rfl (Or.inl ⟨_, rfl⟩) (Or.inr ⟨_, rfl⟩) (by decide) (by decide) (hQ)
set_option maxHeartbeats 2000000 in
theorem c_J6_intValue_8abf5 {Ω : JO} {I : JI} {S : JS} {Q : JQ} {c : Nat} (hc : c < 3) (hQ : Q (.inl (some (.int (nI c)))) I S) : Call Ω m_J6_intValue_8abf5 [.ref (oB Ω (c + 128))] I S Q := by
  refine call_of (by decide +kernel) rfl (Nat.le_of_ble_eq_true rfl) ?_
  change AA Ω m_J6_intValue_8abf5 (FQ Ω m_J6_intValue_8abf5 Q) 0 0 0 [(0, .ref (oB Ω (c + 128)))] [] I S
  refine r_aload_n (pc' := 1) dJ6_intValue_8abf5_0 rfl 0 rfl rfl ?_
  refine r_boxGet (pc' := 4) dJ6_intValue_8abf5_1 (by omega) fl_J6_205 rfl ?_
  rw [box_v hc]
  exact r_iret dJ6_intValue_8abf5_4 rfl (by decide) (by decide) (hQ)
set_option maxHeartbeats 2000000 in
theorem c_J15_checkIndex_7cf53 {Ω : JO} {I : JI} {S : JS} {Q : JQ} {i n : Nat} (hi : i < n) (hn : n < 2 ^ 31) (hQ : Q (.inl (some (.int (nI i)))) I S) : Call Ω m_J15_checkIndex_7cf53 [.int (nI i), .int (nI n)] I S Q := by
  refine call_of (by decide +kernel) rfl (Nat.le_of_ble_eq_true rfl) ?_
  change AA Ω m_J15_checkIndex_7cf53 (FQ Ω m_J15_checkIndex_7cf53 Q) 0 0 0 [(0, .int (nI i)), (1, .int (nI n))] [] I S
  refine r_iload_n (pc' := 1) dJ15_checkIndex_7cf53_0 rfl 0 rfl rfl ?_
  refine r_iload_n (pc' := 2) dJ15_checkIndex_7cf53_1 rfl 1 rfl rfl ?_
  refine r_null (pc' := 3) dJ15_checkIndex_7cf53_2 rfl ?_
  refine r_callS (pc' := 6) (k' := 0) (n' := 0) (nn := 3) (As := [_, _, _]) (rest := []) dJ15_checkIndex_7cf53_3 mb_J3_checkIndex_8e157 ms_J3_checkIndex_8e157 lk_J15_105 rfl rfl rfl rfl rfl (Nat.le_of_ble_eq_true rfl) rfl (c_J3_checkIndex_8e157n (nI_pos (by omega)) (nI_lt hi hn) (cpI ?_))
  exact r_iret dJ15_checkIndex_7cf53_6 rfl (by decide) (by decide) (hQ)
def AL (Ω : JO) (L0 : List Nat) (S : JS) (I : JI) (l e n : Nat) : Prop := (l ∈ sL S ∧ sK S l = 18) ∧ sR S l 1 = some e ∧ I l 2 = nI n ∧ sT S = none ∧ ((n = 0 ∧ e = oE Ω) ∨ (ArE 19 S e 10 ∧ n ≤ 10 ∧ e ∉ L0))
theorem AL.kp {Ω : JO} {L0 : List Nat} {S S' : JS} {I I' : JI} {l e n : Nat} {P : Nat → Prop} (h : AL Ω L0 S I l e n) (x : Kp P I S I' S') (hT : sT S' = none) (hl : ¬ P l) : AL Ω L0 S' I' l e n := by
  obtain ⟨h1, h2, h3, h4, h5⟩ := h
  exact ⟨x.o h1, by rw [x.gR h1.1 hl]; exact h2, by rw [x.gI h1.1 hl]; exact h3, hT, h5.imp id fun q => ⟨x.ar hT q.1, q.2⟩⟩
theorem AnyO.kp {Ω : JO} {S S' : JS} {I I' : JI} {v : Nat} {P : Nat → Prop} (h : AnyO Ω S v) (x : Kp P I S I' S') : AnyO Ω S' v := h.imp (fun q => x.o q) id
set_option maxHeartbeats 2000000 in
theorem c_Jxa1e45_init_da8c8 {Ω : JO} {I : JI} {S : JS} {Q : JQ} {l : Nat} (ho : l ∈ sL S ∧ sK S l = 18) (hQ : Q (.inl none) I S) : Call Ω m_Jxa1e45_init_da8c8 [.ref l] I S Q := by
  refine call_of (by decide +kernel) rfl (Nat.le_of_ble_eq_true rfl) ?_
  change AA Ω m_Jxa1e45_init_da8c8 (FQ Ω m_Jxa1e45_init_da8c8 Q) 0 0 0 [(0, .ref l)] [] I S
  refine r_aload_n (pc' := 1) dJxa1e45_init_da8c8_0 rfl 0 rfl rfl ?_
  refine r_objInit (pc' := 4) dJxa1e45_init_da8c8_1 ow_Jxa1e45_1 ow_i ow_c (by decide) (by decide) rfl ?_
  exact r_ret dJxa1e45_init_da8c8_4 rfl (by decide) (by decide) (hQ)
set_option maxHeartbeats 2000000 in
theorem c_Jxc12de_init_da8c8 {Ω : JO} {I : JI} {S : JS} {Q : JQ} {l : Nat} (ho : l ∈ sL S ∧ sK S l = 18) (hQ : Q (.inl none) (stI I l 0 0) S) : Call Ω m_Jxc12de_init_da8c8 [.ref l] I S Q := by
  refine call_of (by decide +kernel) rfl (Nat.le_of_ble_eq_true rfl) ?_
  change AA Ω m_Jxc12de_init_da8c8 (FQ Ω m_Jxc12de_init_da8c8 Q) 0 0 0 [(0, .ref l)] [] I S
  refine r_aload_n (pc' := 1) dJxc12de_init_da8c8_0 rfl 0 rfl rfl ?_
  refine r_callI (pc' := 4) (k' := 0) (n' := 0) (nn := 0) (As := []) (rest := []) dJxc12de_init_da8c8_1 mb_Jxa1e45_init_da8c8 mc_Jxa1e45_init_da8c8 lk_Jxc12de_1 rfl rfl rfl rfl rfl (Nat.le_of_ble_eq_true rfl) rfl (c_Jxa1e45_init_da8c8 ho (cpV ?_))
  refine r_aload_n (pc' := 5) dJxc12de_init_da8c8_4 rfl 0 rfl rfl ?_
  refine r_iconst (pc' := 6) (v := 0) dJxc12de_init_da8c8_5 (by decide) rfl ?_
  refine r_putI (pc' := 9) dJxc12de_init_da8c8_6 fa_Jxc12de_7 ho rfl rfl ?_
  exact r_ret dJxc12de_init_da8c8_9 rfl (by decide) (by decide) (hQ)
set_option maxHeartbeats 2000000 in
theorem c_Jx4a65c_init_da8c8 {Ω : JO} {I : JI} {S : JS} {Q : JQ} {l : Nat} (ho : l ∈ sL S ∧ sK S l = 18) (hQ : Q (.inl none) (stI I l 0 0) (stR S l 1 (some (oE Ω)))) : Call Ω m_Jx4a65c_init_da8c8 [.ref l] I S Q := by
  refine call_of (by decide +kernel) rfl (Nat.le_of_ble_eq_true rfl) ?_
  change AA Ω m_Jx4a65c_init_da8c8 (FQ Ω m_Jx4a65c_init_da8c8 Q) 0 0 0 [(0, .ref l)] [] I S
  refine r_aload_n (pc' := 1) dJx4a65c_init_da8c8_0 rfl 0 rfl rfl ?_
  refine r_callI (pc' := 4) (k' := 0) (n' := 0) (nn := 0) (As := []) (rest := []) dJx4a65c_init_da8c8_1 mb_Jxc12de_init_da8c8 mc_Jxc12de_init_da8c8 lk_Jx4a65c_1 rfl rfl rfl rfl rfl (Nat.le_of_ble_eq_true rfl) rfl (c_Jxc12de_init_da8c8 ho (cpV ?_))
  refine r_aload_n (pc' := 5) dJx4a65c_init_da8c8_4 rfl 0 rfl rfl ?_
  refine r_gets (pc' := 8) (v := .ref (oE Ω)) dJx4a65c_init_da8c8_5 fl_Jx4a65c_39 (fun _ _ h => h.2.1.1) rfl ?_
  refine r_putR (pc' := 11) dJx4a65c_init_da8c8_8 fa_Jx4a65c_9 ho rfl ⟨rfl, rfl⟩ (fun h => by cases h) rfl ?_
  exact r_ret dJx4a65c_init_da8c8_11 rfl (by decide) (by decide) (hQ)
set_option maxHeartbeats 2000000 in
theorem c_Jx4a65c_size_8abf5 {Ω : JO} {I : JI} {S : JS} {Q : JQ} {l e n : Nat} {L0 : List Nat} (h : AL Ω L0 S I l e n) (hQ : Q (.inl (some (.int (nI n)))) I S) : Call Ω m_Jx4a65c_size_8abf5 [.ref l] I S Q := by
  refine call_of (by decide +kernel) rfl (Nat.le_of_ble_eq_true rfl) ?_
  change AA Ω m_Jx4a65c_size_8abf5 (FQ Ω m_Jx4a65c_size_8abf5 Q) 0 0 0 [(0, .ref l)] [] I S
  refine r_aload_n (pc' := 1) dJx4a65c_size_8abf5_0 rfl 0 rfl rfl ?_
  refine r_getIv (pc' := 4) dJx4a65c_size_8abf5_1 fa_Jx4a65c_48 h.1 rfl h.2.2.1 rfl ?_
  exact r_iret dJx4a65c_size_8abf5_4 rfl (by decide) (by decide) (hQ)
set_option maxHeartbeats 2000000 in
theorem c_Jx4a65c_elementData_915e3 {Ω : JO} {I : JI} {S : JS} {Q : JQ} {l e n i v : Nat} {L0 : List Nat} (h : AL Ω L0 S I l e n) (hi : i < n) (hv : sR S e i = some v) (hQ : Q (.inl (some (.ref v))) I S) : Call Ω m_Jx4a65c_elementData_915e3 [.ref l, .int (nI i)] I S Q := by
  refine call_of (by decide +kernel) rfl (Nat.le_of_ble_eq_true rfl) ?_
  change AA Ω m_Jx4a65c_elementData_915e3 (FQ Ω m_Jx4a65c_elementData_915e3 Q) 0 0 0 [(0, .ref l), (1, .int (nI i))] [] I S
  have hA : ArE 19 S e 10 ∧ n ≤ 10 ∧ e ∉ L0 := h.2.2.2.2.elim (fun q => by omega) id
  refine r_aload_n (pc' := 1) dJx4a65c_elementData_915e3_0 rfl 0 rfl rfl ?_
  refine r_getO (pc' := 4) dJx4a65c_elementData_915e3_1 fa_Jx4a65c_9 h.1 rfl h.2.1 rfl ?_
  refine r_iload_n (pc' := 5) dJx4a65c_elementData_915e3_4 rfl 1 rfl rfl ?_
  refine r_aald19 (pc' := 6) dJx4a65c_elementData_915e3_5 hA.1 (vp_nI (by have := hA.2.1; omega) (by have := hA.2.1; omega)) (by rw [nI_clamp (by have := hA.2.1; omega)]; exact hv) rfl ?_
  exact r_aret dJx4a65c_elementData_915e3_6 rfl (Or.inl ⟨_, rfl⟩) (Or.inr ⟨_, rfl⟩) (by decide) (by decide) (hQ)
set_option maxHeartbeats 2000000 in
theorem c_Jx4a65c_get_915e3 {Ω : JO} {I : JI} {S : JS} {Q : JQ} {l e n i v : Nat} {L0 : List Nat} (h : AL Ω L0 S I l e n) (hi : i < n) (hv : sR S e i = some v) (hQ : Q (.inl (some (.ref v))) I S) : Call Ω m_Jx4a65c_get_915e3 [.ref l, .int (nI i)] I S Q := by
  refine call_of (by decide +kernel) rfl (Nat.le_of_ble_eq_true rfl) ?_
  change AA Ω m_Jx4a65c_get_915e3 (FQ Ω m_Jx4a65c_get_915e3 Q) 0 0 0 [(0, .ref l), (1, .int (nI i))] [] I S
  have hA : ArE 19 S e 10 ∧ n ≤ 10 ∧ e ∉ L0 := h.2.2.2.2.elim (fun q => by omega) id
  refine r_iload_n (pc' := 1) dJx4a65c_get_915e3_0 rfl 1 rfl rfl ?_
  refine r_aload_n (pc' := 2) dJx4a65c_get_915e3_1 rfl 0 rfl rfl ?_
  refine r_getIv (pc' := 5) dJx4a65c_get_915e3_2 fa_Jx4a65c_48 h.1 rfl h.2.2.1 rfl ?_
  refine r_callS (pc' := 8) (k' := 0) (n' := 0) (nn := 2) (As := [_, _]) (rest := []) dJx4a65c_get_915e3_5 mb_J15_checkIndex_7cf53 ms_J15_checkIndex_7cf53 lk_Jx4a65c_118 rfl rfl rfl rfl rfl (Nat.le_of_ble_eq_true rfl) rfl (c_J15_checkIndex_7cf53 hi (by have := hA.2.1; omega) (cpI ?_))
  refine r_pop (pc' := 9) dJx4a65c_get_915e3_8 rfl rfl ?_
  refine r_aload_n (pc' := 10) dJx4a65c_get_915e3_9 rfl 0 rfl rfl ?_
  refine r_iload_n (pc' := 11) dJx4a65c_get_915e3_10 rfl 1 rfl rfl ?_
  refine r_callV (pc' := 14) (k' := 0) (n' := 0) (nn := 1) (As := [_]) (rest := []) dJx4a65c_get_915e3_11 mb_Jx4a65c_elementData_915e3 mi_Jx4a65c_elementData_915e3 h.1 (by decide) rfl lk_Jx4a65c_123 rfl rfl rfl rfl rfl (Nat.le_of_ble_eq_true rfl) rfl (c_Jx4a65c_elementData_915e3 h hi hv (cpR ?_))
  exact r_aret dJx4a65c_get_915e3_14 rfl (Or.inl ⟨_, rfl⟩) (Or.inr ⟨_, rfl⟩) (by decide) (by decide) (hQ)
