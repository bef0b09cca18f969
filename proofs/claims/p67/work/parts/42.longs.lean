/-! rows of longs: fill, equals -/
section LNG
variable {Ω : JO} {Y Z : JM} {F : JF} {k n k' n' pc pc' : Nat} {lv lv' : List (Nat × Value)} {st rest : List Value} {I : JI} {S : JS}
theorem r_laloadN {a N d : Nat} {i : Int32} {v : Int64} (hd : decode Y.2.1 pc = .ok (.laload, 1)) (hA : ArE 14 S a N) (hi : i = nI d) (hin : d < N) (hN : N < 2 ^ 31) (hv : sX S a d = v) (hp : pc + 1 = pc') (h : AA Ω Y F k n pc' lv (.long v :: st) I S) : AA Ω Y F k n pc lv (.int i :: .ref a :: st) I S := by
  subst hi
  refine r_laload hd hA (vp_nI hin (by omega)) hp ?_
  rw [nI_clamp (by omega), hv]; exact h
theorem r_lastN {a N d : Nat} {i : Int32} {x : Int64} (hd : decode Y.2.1 pc = .ok (.lastore, 1)) (hA : ArE 14 S a N) (hi : i = nI d) (hin : d < N) (hN : N < 2 ^ 31) (hp : pc + 1 = pc') (h : AA Ω Y F k n pc' lv st I (stX S a d x)) : AA Ω Y F k n pc lv (.long x :: .int i :: .ref a :: st) I S := by
  subst hi
  refine r_lastore hd hA (vp_nI hin (by omega)) hp ?_
  rw [nI_clamp (by omega)]; exact h
theorem r_callUn {idx nn : Nat} {As rest : List Value} (hd : decode Y.2.1 pc = .ok (.invokevirtual idx, 3)) (hb : SB Z nn) (hs : SI Z) (hc : Z.1.cls = "jdk/internal/misc/Unsafe") (hlk : LK Y.1.cls idx Z) (hAs : As.length = nn) (hst : st = As.reverse ++ .ref (oU Ω) :: rest) (hro : roomB Y Z k n = true) (hk : k + Z.2.2.2.2.2.cells = k') (hn : n + Z.2.2.2.2.2.slots = n') (hrs : (rest.map fun v => v.category).sum ≤ 8) (hp : pc + 3 = pc') (h : Call Ω Z (.ref (oU Ω) :: As) I S (CP Ω Y F k' n' pc pc' lv rest)) : AA Ω Y F k n pc lv st I S := by
  subst hst
  intro p e s m args below meth c H locs ls C w hS hl
  obtain ⟨r1, r2, r3, r4⟩ := roomB_of hro
  have hv : PreV s H Z.1.cls (oU Ω) (PcJ Ω I S (.ref (oU Ω) :: As)) As := by
    obtain ⟨cell, g1, g2, g3, -⟩ := ((evx C).2.2.2.1.2.2.2.2).kept hS.2.1
    exact ⟨pcJ_blind, ⟨cell, g1, g2, by rw [hc]; exact g3⟩, fun U hU hW => ⟨rfl, by rw [hU]; exact w, by rw [hU]; exact C.2.2.2.2.2.2.2.2.2.go hW hS.1 hS.2.1⟩⟩
  exact aa_run C hS hl hp hk hn (vx_runV ⟨C.1, C.2.1, C.2.2.1, C.2.2.2.2.1, C.2.2.2.2.2.1⟩ h ⟨callB_g C hb hlk hro, C.2.2.2.2.2.1 _ hs.1, C.2.2.2.2.2.1 _ hs.2⟩ hv rfl hAs hl.1 rfl (lv_room hrs) hd ⟨r3, r4⟩) (fun _ _ _ h => h)
theorem r_lcmpE {x y : Int64} (hd : decode Y.2.1 pc = .ok (.lcmp, 1)) (he : x = y) (hp : pc + 1 = pc') (h : AA Ω Y F k n pc' lv (.int 0 :: st) I S) : AA Ω Y F k n pc lv (.long y :: .long x :: st) I S := by
  subst he
  refine r_lcmp hd hp ?_
  rw [show lg_cmp x x = 0 from by unfold lg_cmp; simp]; exact h
theorem r_landv {x y v : Int64} (hd : decode Y.2.1 pc = .ok (.land, 1)) (hv : x &&& y = v) (hp : pc + 1 = pc') (h : AA Ω Y F k n pc' lv (.long v :: st) I S) : AA Ω Y F k n pc lv (.long y :: .long x :: st) I S := by
  subst hv; exact r_land hd hp h
theorem r_laddv {x y v : Int64} (hd : decode Y.2.1 pc = .ok (.ladd, 1)) (hv : x + y = v) (hp : pc + 1 = pc') (h : AA Ω Y F k n pc' lv (.long v :: st) I S) : AA Ω Y F k n pc lv (.long y :: .long x :: st) I S := by
  subst hv; exact r_ladd hd hp h
theorem r_i2lv {x : Int32} {v : Int64} (hd : decode Y.2.1 pc = .ok (.i2l, 1)) (hv : x.toInt64 = v) (hp : pc + 1 = pc') (h : AA Ω Y F k n pc' lv (.long v :: st) I S) : AA Ω Y F k n pc lv (.int x :: st) I S := by
  subst hv; exact r_i2l hd hp h
/-- a walk of a method of a class that has rows of its own, when the method has none -/
theorem call_ofF {Q : JQ} {As : List Value} (hpl : plainFor Y.1 = true) (hh : Y.2.2.2.2.1 = []) (hlen : (lg_sl As).length ≤ Y.2.2.1) (h : AA Ω Y (FQ Ω Y Q) 0 0 0 (lv_args 0 As) [] I S) : Call Ω Y As I S Q := by
  refine MetFree.of_bodySF (code := Y.2.1) (maxLocals := Y.2.2.1) (ret := Y.2.2.2.1) hpl (fun args s m hb hn => ?_) (fun p e s m args below meth c s₁ B hml hv _ => ?_)
  · obtain ⟨meth, c, h1, h2, h3, h4, h5, h6, -, -⟩ := Cond.code_spec hn (atoms_spec (ws := Cond.code Y.1 Y.2.1 Y.2.2.1 Y.2.2.2.1 :: gTbl) hb _ List.mem_cons_self)
    exact ⟨meth, c, h1, h2, h3, h4, h5, h6⟩
  · have hts := atoms_spec (ws := Cond.code Y.1 Y.2.1 Y.2.2.1 Y.2.2.2.1 :: gTbl) B.pre
    have htab : c.exceptionTable.toList = tableOf Y.2.2.2.2.1 := by
      obtain ⟨m9, c9, e1, e2, -, -, -, -, e7, -⟩ := Cond.code_spec B.named (hts _ List.mem_cons_self)
      cases Option.some.inj (e1.symm.trans B.method)
      cases Option.some.inj (e2.symm.trans (Stand.of_body B).code)
      rw [hh, Array.isEmpty_iff.mp e7]; rfl
    obtain ⟨rfl, hw, hev⟩ := hv
    rw [lg_entry_eq]
    obtain ⟨t, a1, o, b1, b2, b3⟩ := h p e s m As.toArray below meth c s.heap [] _ ⟨B.exec, B.bytes, hml, B.returns, findClass_of_methodNamed B.named, fun w hw => hts w (List.mem_cons_of_mem _ hw), B.notSynchronized, (name_of_methodNamed B.named B.method).1, htab, hev⟩ hw va_S.rf (lv_entry As hlen) s₁ (by rw [B.state]; rfl) (Stand.of_body B)
    exact ⟨t, o, a1, b1, b2, b3⟩
end LNG
/-- the place of the i-th long -/
def oL (i : Nat) : Int64 := Int64.ofNat (16 + 8 * i)
theorem oL_f {i : Nat} (h : i < 50) : (¬ oL i < 0) ∧ (oL i).toNatClampNeg = 16 + 8 * i ∧ oL i &&& 7 = 0 ∧ (16 : Int64) + Int64.ofNat (8 * i) = oL i ∧ (nI i).toInt64 <<< ((3 : Int32).toInt64 &&& 63) = Int64.ofNat (8 * i) := by_fin (n := 50) (P := fun i => (¬ oL i < 0) ∧ (oL i).toNatClampNeg = 16 + 8 * i ∧ oL i &&& 7 = 0 ∧ (16 : Int64) + Int64.ofNat (8 * i) = oL i ∧ (nI i).toInt64 <<< ((3 : Int32).toInt64 &&& 63) = Int64.ofNat (8 * i)) (by decide +kernel) h
set_option maxHeartbeats 2000000 in
theorem c_Jx9a822_getLongUnaligned_f02c6 {Ω : JO} {I : JI} {S : JS} {Q : JQ} {a N i : Nat} {v : Int64} (hA : ArE 14 S a N) (hi : i < N) (h50 : i < 50) (hv : sX S a i = v) (hQ : Q (.inl (some (.long v))) I S) : Call Ω m_Jx9a822_getLongUnaligned_f02c6 [.ref (oU Ω), .ref a, .long (oL i)] I S Q := by
  refine call_ofF (by decide +kernel) rfl (Nat.le_of_ble_eq_true rfl) ?_
  change AA Ω m_Jx9a822_getLongUnaligned_f02c6 (FQ Ω m_Jx9a822_getLongUnaligned_f02c6 Q) 0 0 0 [(0, .ref (oU Ω)), (1, .ref a), (2, .long (oL i))] [] I S
  obtain ⟨f1, f2, f3, f4, f5⟩ := oL_f h50
  refine r_lload_n (pc' := 1) dJx9a822_getLongUnaligned_f02c6_0 rfl 2 rfl rfl ?_
  refine r_ldc2 (pc' := 4) (v := 7) dJx9a822_getLongUnaligned_f02c6_1 kl_Jx9a822_696 rfl ?_
  refine r_landv (pc' := 5) dJx9a822_getLongUnaligned_f02c6_4 f3 rfl ?_
  refine r_lconst (pc' := 6) (v := 0) dJx9a822_getLongUnaligned_f02c6_5 (by decide) rfl ?_
  refine r_lcmpE (pc' := 7) dJx9a822_getLongUnaligned_f02c6_6 rfl rfl ?_
  refine r_if_ne (tgt := 17) (pc' := 10) dJx9a822_getLongUnaligned_f02c6_7 rfl rfl (fun h7 => ?_) (fun h7 => ?_)
  · exact absurd rfl h7
  · refine r_aload_n (pc' := 11) dJx9a822_getLongUnaligned_f02c6_10 rfl 0 rfl rfl ?_
    refine r_aload_n (pc' := 12) dJx9a822_getLongUnaligned_f02c6_11 rfl 1 rfl rfl ?_
    refine r_lload_n (pc' := 13) dJx9a822_getLongUnaligned_f02c6_12 rfl 2 rfl rfl ?_
    refine r_getLong (pc' := 16) dJx9a822_getLongUnaligned_f02c6_13 (gm 1723 (by decide +kernel) rfl) (gm 1725 (by decide +kernel) rfl) (gm 1724 (by decide +kernel) rfl) (gm 1726 (by decide +kernel) rfl) hA hi f1 f2 hv (by decide) (Nat.le_of_ble_eq_true rfl) rfl ?_
    exact r_lret dJx9a822_getLongUnaligned_f02c6_16 rfl (by decide) (by decide) (hQ)
set_option maxHeartbeats 2000000 in
theorem l_J8_vm {Ω : JO} {S : JS} {Q : JQ} {I : JI} {a b : Nat} (hA : ArE 14 S a 50) (hB : ArE 14 S b 50) (hE : ∀ j, j < 50 → sX S a j = sX S b j) (hQ : Q (.inl (some (.int (-1)))) I S) : ∀ (m : Nat) (j : Nat), j + m = 50 → AA Ω m_J8_vectorizedMismatch_456ae (FQ Ω m_J8_vectorizedMismatch_456ae Q) 0 0 11 [(9, .int (nI j)), (0, .ref a), (1, .long 16), (3, .ref b), (4, .long 16), (6, .int 50), (7, .int 3), (8, .int 0)] [] I S := by
  intro m
  induction m with
  | zero =>
    intro j hj
    have e50 : j = 50 := by omega
    subst e50
    refine r_iload (pc' := 13) dJ8_vectorizedMismatch_456ae_11 0 rfl rfl ?_
    refine r_iload (pc' := 15) dJ8_vectorizedMismatch_456ae_13 5 rfl rfl ?_
    refine r_iload (pc' := 17) dJ8_vectorizedMismatch_456ae_15 7 rfl rfl ?_
    refine r_ishrv (pc' := 18) dJ8_vectorizedMismatch_456ae_17 (sb_shr0 _) rfl ?_
    refine r_icmp_ge (tgt := 122) (pc' := 21) dJ8_vectorizedMismatch_456ae_18 rfl rfl (fun h18 => ?_) (fun h18 => ?_)
    · refine r_iload (pc' := 124) dJ8_vectorizedMismatch_456ae_122 5 rfl rfl ?_
      refine r_iload (pc' := 126) dJ8_vectorizedMismatch_456ae_124 0 rfl rfl ?_
      refine r_iload (pc' := 128) dJ8_vectorizedMismatch_456ae_126 7 rfl rfl ?_
      refine r_ishlv (pc' := 129) dJ8_vectorizedMismatch_456ae_128 (sb_shl0 _) rfl ?_
      refine r_isubv (pc' := 130) dJ8_vectorizedMismatch_456ae_129 (show (50 : Int32) - nI 50 = 0 by decide) rfl ?_
      refine r_istore (pc' := 132) (lv' := [(10, _), (9, _), (0, _), (1, _), (3, _), (4, _), (6, _), (7, _), (8, _)]) dJ8_vectorizedMismatch_456ae_130 (by decide) rfl rfl ?_
      refine r_iload (pc' := 134) dJ8_vectorizedMismatch_456ae_132 7 rfl rfl ?_
      refine r_gets (pc' := 137) (v := .int 2) dJ8_vectorizedMismatch_456ae_134 fl_J8_51 (fun _ _ h => h.2.2.2.1.2.2.1) rfl ?_
      refine r_icmp_ge (tgt := 263) (pc' := 140) dJ8_vectorizedMismatch_456ae_137 rfl rfl (fun h137 => ?_) (fun h137 => ?_)
      · refine r_iload (pc' := 265) dJ8_vectorizedMismatch_456ae_263 0 rfl rfl ?_
        refine r_iconst (pc' := 266) (v := -1) dJ8_vectorizedMismatch_456ae_265 (by decide) rfl ?_
        refine r_ixor (pc' := 267) dJ8_vectorizedMismatch_456ae_266 rfl ?_
        rw [show (0 : Int32) ^^^ -1 = -1 by decide]
        exact r_iret dJ8_vectorizedMismatch_456ae_267 rfl (by decide) (by decide) (hQ)
      · exact absurd (show (2 : Int32) ≤ 3 by decide) h137
    · exact absurd (show (50 : Int32) ≤ nI 50 by decide) h18
  | succ m ih =>
    intro j hj
    obtain ⟨f1, f2, f3, f4, f5⟩ := oL_f (show j < 50 by omega)
    refine r_iload (pc' := 13) dJ8_vectorizedMismatch_456ae_11 0 rfl rfl ?_
    refine r_iload (pc' := 15) dJ8_vectorizedMismatch_456ae_13 5 rfl rfl ?_
    refine r_iload (pc' := 17) dJ8_vectorizedMismatch_456ae_15 7 rfl rfl ?_
    refine r_ishrv (pc' := 18) dJ8_vectorizedMismatch_456ae_17 (sb_shr0 _) rfl ?_
    refine r_icmp_ge (tgt := 122) (pc' := 21) dJ8_vectorizedMismatch_456ae_18 rfl rfl (fun h18 => ?_) (fun h18 => ?_)
    · exact absurd h18 (show ¬ nI 50 ≤ nI j from nI_ge (by omega) (by decide))
    · refine r_iload (pc' := 23) dJ8_vectorizedMismatch_456ae_21 0 rfl rfl ?_
      refine r_i2l (pc' := 24) dJ8_vectorizedMismatch_456ae_23 rfl ?_
      refine r_gets (pc' := 27) (v := .int 3) dJ8_vectorizedMismatch_456ae_24 fl_J8_20 (fun _ _ h => h.2.2.2.1.2.1) rfl ?_
      refine r_lshl (pc' := 28) dJ8_vectorizedMismatch_456ae_27 f5 rfl ?_
      refine r_lstore (pc' := 30) (lv' := [(10, _), (9, _), (0, _), (1, _), (3, _), (4, _), (6, _), (7, _), (8, _)]) dJ8_vectorizedMismatch_456ae_28 (by decide) rfl rfl ?_
      refine r_gets (pc' := 33) (v := .ref (oU Ω)) dJ8_vectorizedMismatch_456ae_30 fl_J8_26 (fun _ _ h => h.2.2.2.1.2.2.2.1) rfl ?_
      refine r_aload_n (pc' := 34) dJ8_vectorizedMismatch_456ae_33 rfl 2 rfl rfl ?_
      refine r_lload_n (pc' := 35) dJ8_vectorizedMismatch_456ae_34 rfl 3 rfl rfl ?_
      refine r_lload (pc' := 37) dJ8_vectorizedMismatch_456ae_35 0 rfl rfl ?_
      refine r_laddv (pc' := 38) dJ8_vectorizedMismatch_456ae_37 f4 rfl ?_
      refine r_callUn (pc' := 41) (k' := 0) (n' := 0) (nn := 2) (As := [_, _]) (rest := []) dJ8_vectorizedMismatch_456ae_38 mb_Jx9a822_getLongUnaligned_f02c6 mi_Jx9a822_getLongUnaligned_f02c6 rfl lk_J8_30 rfl rfl rfl rfl rfl (Nat.le_of_ble_eq_true rfl) rfl (c_Jx9a822_getLongUnaligned_f02c6 hA (by omega) (by omega) rfl (cpR ?_))
      refine r_lstore (pc' := 43) (lv' := [(12, _), (10, _), (9, _), (0, _), (1, _), (3, _), (4, _), (6, _), (7, _), (8, _)]) dJ8_vectorizedMismatch_456ae_41 (by decide) rfl rfl ?_
      refine r_gets (pc' := 46) (v := .ref (oU Ω)) dJ8_vectorizedMismatch_456ae_43 fl_J8_26 (fun _ _ h => h.2.2.2.1.2.2.2.1) rfl ?_
      refine r_aload_n (pc' := 47) dJ8_vectorizedMismatch_456ae_46 rfl 5 rfl rfl ?_
      refine r_lload (pc' := 49) dJ8_vectorizedMismatch_456ae_47 6 rfl rfl ?_
      refine r_lload (pc' := 51) dJ8_vectorizedMismatch_456ae_49 1 rfl rfl ?_
      refine r_laddv (pc' := 52) dJ8_vectorizedMismatch_456ae_51 f4 rfl ?_
      refine r_callUn (pc' := 55) (k' := 0) (n' := 0) (nn := 2) (As := [_, _]) (rest := []) dJ8_vectorizedMismatch_456ae_52 mb_Jx9a822_getLongUnaligned_f02c6 mi_Jx9a822_getLongUnaligned_f02c6 rfl lk_J8_30 rfl rfl rfl rfl rfl (Nat.le_of_ble_eq_true rfl) rfl (c_Jx9a822_getLongUnaligned_f02c6 hB (by omega) (by omega) rfl (cpR ?_))
      refine r_lstore (pc' := 57) (lv' := [(14, _), (12, _), (10, _), (9, _), (0, _), (1, _), (3, _), (4, _), (6, _), (7, _), (8, _)]) dJ8_vectorizedMismatch_456ae_55 (by decide) rfl rfl ?_
      refine r_lload (pc' := 59) dJ8_vectorizedMismatch_456ae_57 1 rfl rfl ?_
      refine r_lload (pc' := 61) dJ8_vectorizedMismatch_456ae_59 0 rfl rfl ?_
      refine r_lcmpE (pc' := 62) dJ8_vectorizedMismatch_456ae_61 (hE j (by omega)) rfl ?_
      refine r_if_eq (tgt := 116) (pc' := 65) dJ8_vectorizedMismatch_456ae_62 rfl rfl (fun h62 => ?_) (fun h62 => ?_)
      · refine r_iinc (pc' := 119) (lv' := [(9, _), (14, _), (12, _), (10, _), (0, _), (1, _), (3, _), (4, _), (6, _), (7, _), (8, _)]) dJ8_vectorizedMismatch_456ae_116 3 rfl rfl (by decide) rfl rfl ?_
        refine r_goto (tgt := 11) dJ8_vectorizedMismatch_456ae_119 rfl ?_
        refine aa_locs (ks := [0, 4, 5, 6, 7, 8, 9, 10]) (lv' := [(9, _), (0, _), (1, _), (3, _), (4, _), (6, _), (7, _), (8, _)]) rfl ?_
        exact aa_lv (lv' := [(9, .int (nI (j + 1))), (0, .ref a), (1, .long 16), (3, .ref b), (4, .long 16), (6, .int 50), (7, .int 3), (8, .int 0)]) (by rw [nI_succ]; rfl) (ih (j + 1) (by omega))
      · exact absurd rfl h62
set_option maxHeartbeats 2000000 in
theorem c_J8_vectorizedMismatch_456ae {Ω : JO} {I : JI} {S : JS} {Q : JQ} {a b : Nat} (hA : ArE 14 S a 50) (hB : ArE 14 S b 50) (hE : ∀ j, j < 50 → sX S a j = sX S b j) (hQ : Q (.inl (some (.int (-1)))) I S) : Call Ω m_J8_vectorizedMismatch_456ae [.ref a, .long 16, .ref b, .long 16, .int 50, .int 3] I S Q := by
  refine call_of (by decide +kernel) rfl (Nat.le_of_ble_eq_true rfl) ?_
  change AA Ω m_J8_vectorizedMismatch_456ae (FQ Ω m_J8_vectorizedMismatch_456ae Q) 0 0 0 [(0, .ref a), (1, .long 16), (3, .ref b), (4, .long 16), (6, .int 50), (7, .int 3)] [] I S
  refine r_gets (pc' := 3) (v := .int 3) dJ8_vectorizedMismatch_456ae_0 fl_J8_20 (fun _ _ h => h.2.2.2.1.2.1) rfl ?_
  refine r_iload (pc' := 5) dJ8_vectorizedMismatch_456ae_3 5 rfl rfl ?_
  refine r_isubv (pc' := 6) dJ8_vectorizedMismatch_456ae_5 (show (3 : Int32) - 3 = 0 by decide) rfl ?_
  refine r_istore (pc' := 8) (lv' := [(8, _), (0, _), (1, _), (3, _), (4, _), (6, _), (7, _)]) dJ8_vectorizedMismatch_456ae_6 (by decide) rfl rfl ?_
  refine r_iconst (pc' := 9) (v := 0) dJ8_vectorizedMismatch_456ae_8 (by decide) rfl ?_
  refine r_istore (pc' := 11) (lv' := [(9, _), (8, _), (0, _), (1, _), (3, _), (4, _), (6, _), (7, _)]) dJ8_vectorizedMismatch_456ae_9 (by decide) rfl rfl ?_
  refine aa_locs (ks := [0, 2, 3, 4, 5, 6, 7, 1]) (lv' := [(9, _), (0, _), (1, _), (3, _), (4, _), (6, _), (7, _), (8, _)]) rfl ?_
  exact l_J8_vm hA hB hE hQ 50 0 (by decide)
set_option maxHeartbeats 2000000 in
theorem c_J8_mismatch_974f6 {Ω : JO} {I : JI} {S : JS} {Q : JQ} {a b : Nat} (hA : ArE 14 S a 50) (hB : ArE 14 S b 50) (hE : ∀ j, j < 50 → sX S a j = sX S b j) (hQ : Q (.inl (some (.int (-1)))) I S) : Call Ω m_J8_mismatch_974f6 [.ref a, .ref b, .int 50] I S Q := by
  refine call_of (by decide +kernel) rfl (Nat.le_of_ble_eq_true rfl) ?_
  change AA Ω m_J8_mismatch_974f6 (FQ Ω m_J8_mismatch_974f6 Q) 0 0 0 [(0, .ref a), (1, .ref b), (2, .int 50)] [] I S
  refine r_iload_n (pc' := 1) dJ8_mismatch_974f6_0 rfl 2 rfl rfl ?_
  refine r_if_ne (tgt := 6) (pc' := 4) dJ8_mismatch_974f6_1 rfl rfl (fun h1 => ?_) (fun h1 => ?_)
  · refine r_aload_n (pc' := 7) dJ8_mismatch_974f6_6 rfl 0 rfl rfl ?_
    refine r_iconst (pc' := 8) (v := 0) dJ8_mismatch_974f6_7 (by decide) rfl ?_
    refine r_laloadN (pc' := 9) (d := 0) dJ8_mismatch_974f6_8 hA rfl (by decide) (by decide) rfl rfl ?_
    refine r_aload_n (pc' := 10) dJ8_mismatch_974f6_9 rfl 1 rfl rfl ?_
    refine r_iconst (pc' := 11) (v := 0) dJ8_mismatch_974f6_10 (by decide) rfl ?_
    refine r_laloadN (pc' := 12) (d := 0) dJ8_mismatch_974f6_11 hB rfl (by decide) (by decide) rfl rfl ?_
    refine r_lcmpE (pc' := 13) dJ8_mismatch_974f6_12 (hE 0 (by decide)) rfl ?_
    refine r_if_eq (tgt := 18) (pc' := 16) dJ8_mismatch_974f6_13 rfl rfl (fun h13 => ?_) (fun h13 => ?_)
    · refine r_aload_n (pc' := 19) dJ8_mismatch_974f6_18 rfl 0 rfl rfl ?_
      refine r_gets (pc' := 22) (v := .int 16) dJ8_mismatch_974f6_19 fl_J8_170 (fun _ _ h => h.2.2.2.1.1) rfl ?_
      refine r_i2lv (pc' := 23) (v := 16) dJ8_mismatch_974f6_22 rfl rfl ?_
      refine r_aload_n (pc' := 24) dJ8_mismatch_974f6_23 rfl 1 rfl rfl ?_
      refine r_gets (pc' := 27) (v := .int 16) dJ8_mismatch_974f6_24 fl_J8_170 (fun _ _ h => h.2.2.2.1.1) rfl ?_
      refine r_i2lv (pc' := 28) (v := 16) dJ8_mismatch_974f6_27 rfl rfl ?_
      refine r_iload_n (pc' := 29) dJ8_mismatch_974f6_28 rfl 2 rfl rfl ?_
      refine r_gets (pc' := 32) (v := .int 3) dJ8_mismatch_974f6_29 fl_J8_20 (fun _ _ h => h.2.2.2.1.2.1) rfl ?_
      refine r_callS (pc' := 35) (k' := 0) (n' := 0) (nn := 6) (As := [_, _, _, _, _, _]) (rest := []) dJ8_mismatch_974f6_32 mb_J8_vectorizedMismatch_456ae ms_J8_vectorizedMismatch_456ae lk_J8_122 rfl rfl rfl rfl rfl (Nat.le_of_ble_eq_true rfl) rfl (c_J8_vectorizedMismatch_456ae hA hB hE (cpI ?_))
      refine r_istore_n (pc' := 36) (lv' := [(3, _), (0, _), (1, _), (2, _)]) dJ8_mismatch_974f6_35 rfl (by decide) rfl rfl ?_
      refine r_iload_n (pc' := 37) dJ8_mismatch_974f6_36 rfl 0 rfl rfl ?_
      refine r_if_lt (tgt := 44) (pc' := 40) dJ8_mismatch_974f6_37 rfl rfl (fun h37 => ?_) (fun h37 => ?_)
      · refine r_iconst (pc' := 45) (v := -1) dJ8_mismatch_974f6_44 (by decide) rfl ?_
        exact r_iret dJ8_mismatch_974f6_45 rfl (by decide) (by decide) (hQ)
      · exact absurd (show (-1 : Int32) < 0 by decide) h37
    · exact absurd rfl h13
  · exact absurd h1 (by decide)
set_option maxHeartbeats 2000000 in
theorem c_J7_equals_331f6 {Ω : JO} {I : JI} {S : JS} {Q : JQ} {a b : Nat} (hA : ArE 14 S a 50) (hB : ArE 14 S b 50) (hab : a ≠ b) (hE : ∀ j, j < 50 → sX S a j = sX S b j) (hQ : Q (.inl (some (.int 1))) I S) : Call Ω m_J7_equals_331f6 [.ref a, .ref b] I S Q := by
  refine call_of (by decide +kernel) rfl (Nat.le_of_ble_eq_true rfl) ?_
  change AA Ω m_J7_equals_331f6 (FQ Ω m_J7_equals_331f6 Q) 0 0 0 [(0, .ref a), (1, .ref b)] [] I S
  refine r_aload_n (pc' := 1) dJ7_equals_331f6_0 rfl 0 rfl rfl ?_
  refine r_aload_n (pc' := 2) dJ7_equals_331f6_1 rfl 1 rfl rfl ?_
  refine r_acmp_ne (tgt := 7) (pc' := 5) dJ7_equals_331f6_2 rfl rfl (fun _ => ?_) (fun q => absurd q hab)
  refine r_aload_n (pc' := 8) dJ7_equals_331f6_7 rfl 0 rfl rfl ?_
  refine r_ifnull (pc' := 11) dJ7_equals_331f6_8 rfl ?_
  refine r_aload_n (pc' := 12) dJ7_equals_331f6_11 rfl 1 rfl rfl ?_
  refine r_nonnull (tgt := 17) dJ7_equals_331f6_12 rfl ?_
  refine r_aload_n (pc' := 18) dJ7_equals_331f6_17 rfl 0 rfl rfl ?_
  refine r_alen14 (pc' := 19) dJ7_equals_331f6_18 hA rfl rfl ?_
  refine r_istore_n (pc' := 20) (lv' := [(2, _), (0, _), (1, _)]) dJ7_equals_331f6_19 rfl (by decide) rfl rfl ?_
  refine r_aload_n (pc' := 21) dJ7_equals_331f6_20 rfl 2 rfl rfl ?_
  refine r_alen14 (pc' := 22) dJ7_equals_331f6_21 hB rfl rfl ?_
  refine r_iload_n (pc' := 23) dJ7_equals_331f6_22 rfl 0 rfl rfl ?_
  refine r_icmp_eq (tgt := 28) (pc' := 26) dJ7_equals_331f6_23 rfl rfl (fun h23 => ?_) (fun h23 => ?_)
  · refine r_aload_n (pc' := 29) dJ7_equals_331f6_28 rfl 1 rfl rfl ?_
    refine r_aload_n (pc' := 30) dJ7_equals_331f6_29 rfl 2 rfl rfl ?_
    refine r_iload_n (pc' := 31) dJ7_equals_331f6_30 rfl 0 rfl rfl ?_
    refine r_callS (pc' := 34) (k' := 0) (n' := 0) (nn := 3) (As := [_, _, _]) (rest := []) dJ7_equals_331f6_31 mb_J8_mismatch_974f6 ms_J8_mismatch_974f6 lk_J7_245 rfl rfl rfl rfl rfl (Nat.le_of_ble_eq_true rfl) rfl (c_J8_mismatch_974f6 hA hB hE (cpI ?_))
    refine r_if_ge (tgt := 41) (pc' := 37) dJ7_equals_331f6_34 rfl rfl (fun h34 => ?_) (fun h34 => ?_)
    · exact absurd h34 (by decide)
    · refine r_iconst (pc' := 38) (v := 1) dJ7_equals_331f6_37 (by decide) rfl ?_
      refine r_goto (tgt := 42) dJ7_equals_331f6_38 rfl ?_
      exact r_zret dJ7_equals_331f6_42 rfl (by first | exact zb01 _ | decide) (by decide) (by decide) (hQ)
  · exact absurd rfl h23
def flX (S : JS) (a N : Nat) (v : Int64) : JS := (S.1, S.2.1, S.2.2.1, S.2.2.2.1, fun b j => if b = a then (if j < N then v else sX S b j) else sX S b j, S.2.2.2.2.2)
theorem flX_0 (S : JS) (a : Nat) (v : Int64) : flX S a 0 v = S := by
  unfold flX
  refine Prod.ext rfl (Prod.ext rfl (Prod.ext rfl (Prod.ext rfl (Prod.ext ?_ rfl))))
  funext b j
  simp [sX]
theorem flX_s (S : JS) (a N : Nat) (v : Int64) : flX S a (N + 1) v = stX (flX S a N v) a N v := by
  unfold flX stX
  refine Prod.ext rfl (Prod.ext rfl (Prod.ext rfl (Prod.ext rfl (Prod.ext ?_ rfl))))
  funext b j
  simp only [sX]
  by_cases hb : b = a
  · subst hb
    by_cases hj : j = N
    · subst hj; simp
    · simp only [if_true, hj, if_false]
      by_cases h2 : j < N
      · rw [if_pos h2, if_pos (by omega)]
      · rw [if_neg h2, if_neg (by omega)]
  · simp [hb]
set_option maxHeartbeats 2000000 in
theorem l_J7_fillL {Ω : JO} {S : JS} {Q : JQ} {I : JI} {a N : Nat} {v : Int64} (hA : ArE 14 S a N) (hN : N < 2 ^ 31) (hQ : Q (.inl none) I (flX S a N v)) : ∀ (m : Nat) (j : Nat), j + m = N → AA Ω m_J7_fill_d0a16 (FQ Ω m_J7_fill_d0a16 Q) 0 0 6 [(3, .int (nI j)), (4, .int (nI N)), (0, .ref a), (1, .long v)] [] I (flX S a j v) := by
  intro m
  induction m with
  | zero =>
    intro j hj
    refine r_iload_n (pc' := 7) dJ7_fill_d0a16_6 rfl 0 rfl rfl ?_
    refine r_iload (pc' := 9) dJ7_fill_d0a16_7 1 rfl rfl ?_
    refine r_icmp_ge (tgt := 22) (pc' := 12) dJ7_fill_d0a16_9 rfl rfl (fun h9 => ?_) (fun h9 => ?_)
    · have e : j = N := by omega
      subst e
      exact r_ret dJ7_fill_d0a16_22 rfl (by decide) (by decide) (hQ)
    · exact absurd (show nI N ≤ nI j from nI_le (by omega) (by omega)) h9
  | succ m ih =>
    intro j hj
    refine r_iload_n (pc' := 7) dJ7_fill_d0a16_6 rfl 0 rfl rfl ?_
    refine r_iload (pc' := 9) dJ7_fill_d0a16_7 1 rfl rfl ?_
    refine r_icmp_ge (tgt := 22) (pc' := 12) dJ7_fill_d0a16_9 rfl rfl (fun h9 => ?_) (fun h9 => ?_)
    · exact absurd h9 (show ¬ nI N ≤ nI j from nI_ge (by omega) (by omega))
    · refine r_aload_n (pc' := 13) dJ7_fill_d0a16_12 rfl 2 rfl rfl ?_
      refine r_iload_n (pc' := 14) dJ7_fill_d0a16_13 rfl 0 rfl rfl ?_
      refine r_lload_n (pc' := 15) dJ7_fill_d0a16_14 rfl 3 rfl rfl ?_
      refine r_lastN (pc' := 16) dJ7_fill_d0a16_15 (show ArE 14 (flX S a j v) a N from hA) rfl (show j < N by omega) hN rfl ?_
      refine r_iinc (pc' := 19) (lv' := [(3, _), (4, _), (0, _), (1, _)]) dJ7_fill_d0a16_16 0 rfl rfl (by decide) rfl rfl ?_
      refine r_goto (tgt := 6) dJ7_fill_d0a16_19 rfl ?_
      rw [← flX_s]
      exact aa_lv (lv' := [(3, .int (nI (j + 1))), (4, .int (nI N)), (0, .ref a), (1, .long v)]) (by rw [nI_succ]; rfl) (ih (j + 1) (by omega))
set_option maxHeartbeats 2000000 in
theorem c_J7_fill_d0a16 {Ω : JO} {I : JI} {S : JS} {Q : JQ} {a N : Nat} {v : Int64} (hA : ArE 14 S a N) (hN : N < 2 ^ 31) (hQ : Q (.inl none) I (flX S a N v)) : Call Ω m_J7_fill_d0a16 [.ref a, .long v] I S Q := by
  refine call_of (by decide +kernel) rfl (Nat.le_of_ble_eq_true rfl) ?_
  change AA Ω m_J7_fill_d0a16 (FQ Ω m_J7_fill_d0a16 Q) 0 0 0 [(0, .ref a), (1, .long v)] [] I S
  refine r_iconst (pc' := 1) (v := 0) dJ7_fill_d0a16_0 (by decide) rfl ?_
  refine r_istore_n (pc' := 2) (lv' := [(3, _), (0, _), (1, _)]) dJ7_fill_d0a16_1 rfl (by decide) rfl rfl ?_
  refine r_aload_n (pc' := 3) dJ7_fill_d0a16_2 rfl 1 rfl rfl ?_
  refine r_alen14 (pc' := 4) dJ7_fill_d0a16_3 hA rfl rfl ?_
  refine r_istore (pc' := 6) (lv' := [(4, _), (3, _), (0, _), (1, _)]) dJ7_fill_d0a16_4 (by decide) rfl rfl ?_
  refine aa_locs (ks := [1, 0, 2, 3]) (lv' := [(3, _), (4, _), (0, _), (1, _)]) rfl ?_
  have h := l_J7_fillL (Ω := Ω) (I := I) hA hN hQ N 0 (by omega)
  rw [flX_0] at h
  exact h
