/-! Loom: floats, periods, checks -/




set_option maxHeartbeats 2000000 in
theorem l_X3_crW {Ω : JO} {I : JI} {S : JS} {Q : JQ} {L : Nat} {r p : Int32} (hL : Is3 S L) : ∀ (m : Nat) (j : Nat), j + m = (I L 4).toNatClampNeg → (crW I L r p m j = false → Q (.inl (some (.int 0))) I S) → (crW I L r p m j = true → AA Ω m_X3_coloursRepeatAfter (FQ Ω m_X3_coloursRepeatAfter Q) 0 0 48 [(3, .int (nI (I L 4).toNatClampNeg)), (2, .int r), (0, .ref L), (1, .int p)] [] I S) → AA Ω m_X3_coloursRepeatAfter (FQ Ω m_X3_coloursRepeatAfter Q) 0 0 15 [(3, .int (nI j)), (2, .int r), (0, .ref L), (1, .int p)] [] I S := by
  intro m
  induction m with
  | zero =>
    intro j hj hf ht
    refine r_iload_n (pc' := 16) dX3_coloursRepeatAfter_15 rfl 0 rfl rfl ?_
    refine r_aload_n (pc' := 17) dX3_coloursRepeatAfter_16 rfl 2 rfl rfl ?_
    refine r_getI (pc' := 20) dX3_coloursRepeatAfter_17 fa_X3_24 hL.o rfl rfl ?_
    refine r_icmp_ge (tgt := 48) (pc' := 23) dX3_coloursRepeatAfter_20 rfl rfl (fun h20 => ?_) (fun h20 => ?_)
    · have e : j = (I L 4).toNatClampNeg := by omega
      rw [← e] at ht
      exact ht rfl
    · exact absurd ((cl_le2 (by have := cl_b (I L 4); omega)).mpr (by omega)) h20
  | succ m ih =>
    intro j hj hf ht
    refine r_iload_n (pc' := 16) dX3_coloursRepeatAfter_15 rfl 0 rfl rfl ?_
    refine r_aload_n (pc' := 17) dX3_coloursRepeatAfter_16 rfl 2 rfl rfl ?_
    refine r_getI (pc' := 20) dX3_coloursRepeatAfter_17 fa_X3_24 hL.o rfl rfl ?_
    refine r_icmp_ge (tgt := 48) (pc' := 23) dX3_coloursRepeatAfter_20 rfl rfl (fun h20 => ?_) (fun h20 => ?_)
    · exact absurd ((cl_le2 (by have := cl_b (I L 4); omega)).mp h20) (by omega)
    · refine r_aload_n (pc' := 24) dX3_coloursRepeatAfter_23 rfl 2 rfl rfl ?_
      refine r_iload_n (pc' := 25) dX3_coloursRepeatAfter_24 rfl 1 rfl rfl ?_
      refine r_iload_n (pc' := 26) dX3_coloursRepeatAfter_25 rfl 0 rfl rfl ?_
      refine r_callV2 (pc' := 29) (k' := 0) (n' := 0) dX3_coloursRepeatAfter_26 mb_X3_colourOfCell mi_X3_colourOfCell hL.o (by decide) rfl lk_X3_147 rfl rfl rfl (Nat.le_of_ble_eq_true rfl) rfl (c_X3_colourOfCell hL (cpI ?_))
      refine r_aload_n (pc' := 30) dX3_coloursRepeatAfter_29 rfl 2 rfl rfl ?_
      refine r_iload_n (pc' := 31) dX3_coloursRepeatAfter_30 rfl 1 rfl rfl ?_
      refine r_iload_n (pc' := 32) dX3_coloursRepeatAfter_31 rfl 3 rfl rfl ?_
      refine r_isub (pc' := 33) dX3_coloursRepeatAfter_32 rfl ?_
      refine r_iload_n (pc' := 34) dX3_coloursRepeatAfter_33 rfl 0 rfl rfl ?_
      refine r_callV2 (pc' := 37) (k' := 0) (n' := 0) dX3_coloursRepeatAfter_34 mb_X3_colourOfCell mi_X3_colourOfCell hL.o (by decide) rfl lk_X3_147 rfl rfl rfl (Nat.le_of_ble_eq_true rfl) rfl (c_X3_colourOfCell hL (cpI ?_))
      refine r_icmp_eq (tgt := 42) (pc' := 40) dX3_coloursRepeatAfter_37 rfl rfl (fun h37 => ?_) (fun h37 => ?_)
      · rw [crW, if_pos h37] at hf ht
        refine r_iinc (pc' := 45) (lv' := [(3, _), (2, _), (0, _), (1, _)]) dX3_coloursRepeatAfter_42 0 rfl rfl (by decide) rfl rfl ?_
        refine r_goto (tgt := 15) dX3_coloursRepeatAfter_45 rfl ?_
        exact aa_lv (lv' := [(3, .int (nI (j + 1))), (2, .int r), (0, .ref L), (1, .int p)]) (by rw [nI_inc]) (ih (j + 1) (by omega) hf ht)
      · rw [crW, if_neg h37] at hf
        refine r_iconst (pc' := 41) (v := 0) dX3_coloursRepeatAfter_40 (by decide) rfl ?_
        exact r_zret dX3_coloursRepeatAfter_41 rfl (by first | exact zb01 _ | decide) (by decide) (by decide) (hf rfl)
set_option maxHeartbeats 2000000 in
theorem l_X3_crR {Ω : JO} {I : JI} {S : JS} {Q : JQ} {L q : Nat} (hL : Is3 S L) : ∀ (m : Nat) (j : Nat), j < 2 ^ 31 → (I (L + 10) 3).toNatClampNeg - j = m → Q (.inl (some (.int (zb (crR I L (nI q) m j))))) I S → AA Ω m_X3_coloursRepeatAfter (FQ Ω m_X3_coloursRepeatAfter Q) 0 0 2 [(2, .int (nI j)), (0, .ref L), (1, .int (nI q))] [] I S := by
  intro m
  induction m with
  | zero =>
    intro j hb hj hQ
    refine r_iload_n (pc' := 3) dX3_coloursRepeatAfter_2 rfl 0 rfl rfl ?_
    refine r_aload_n (pc' := 4) dX3_coloursRepeatAfter_3 rfl 1 rfl rfl ?_
    refine r_getO (pc' := 7) dX3_coloursRepeatAfter_4 fa_X3_53 hL.o rfl hL.r11 rfl ?_
    refine r_getI (pc' := 10) dX3_coloursRepeatAfter_7 fa_X3_85 hL.c11.o rfl rfl ?_
    refine r_icmp_ge (tgt := 54) (pc' := 13) dX3_coloursRepeatAfter_10 rfl rfl (fun h10 => ?_) (fun h10 => ?_)
    · refine r_iconst (pc' := 55) (v := 1) dX3_coloursRepeatAfter_54 (by decide) rfl ?_
      exact r_zret dX3_coloursRepeatAfter_55 rfl (by first | exact zb01 _ | decide) (by decide) (by decide) (hQ)
    · exact absurd ((cl_le2 hb).mpr (by omega)) h10
  | succ m ih =>
    intro j hb hj hQ
    refine r_iload_n (pc' := 3) dX3_coloursRepeatAfter_2 rfl 0 rfl rfl ?_
    refine r_aload_n (pc' := 4) dX3_coloursRepeatAfter_3 rfl 1 rfl rfl ?_
    refine r_getO (pc' := 7) dX3_coloursRepeatAfter_4 fa_X3_53 hL.o rfl hL.r11 rfl ?_
    refine r_getI (pc' := 10) dX3_coloursRepeatAfter_7 fa_X3_85 hL.c11.o rfl rfl ?_
    refine r_icmp_ge (tgt := 54) (pc' := 13) dX3_coloursRepeatAfter_10 rfl rfl (fun h10 => ?_) (fun h10 => ?_)
    · exact absurd ((cl_le2 hb).mp h10) (by omega)
    · refine r_iconst (pc' := 14) (v := 0) dX3_coloursRepeatAfter_13 (by decide) rfl ?_
      refine r_istore_n (pc' := 15) (lv' := [(3, _), (2, _), (0, _), (1, _)]) dX3_coloursRepeatAfter_14 rfl (by decide) rfl rfl ?_
      refine l_X3_crW (Ω := Ω) (r := nI j) (p := nI q) hL _ 0 (Nat.zero_add _) (fun hc => ?_) (fun hc => ?_)
      · rw [crR, if_neg (by rw [hc]; decide)] at hQ
        exact hQ
      · rw [crR, if_pos hc] at hQ
        refine r_iinc (pc' := 51) (lv' := [(2, _), (3, _), (0, _), (1, _)]) dX3_coloursRepeatAfter_48 1 rfl rfl (by decide) rfl rfl ?_
        refine r_goto (tgt := 2) dX3_coloursRepeatAfter_51 rfl ?_
        refine aa_locs (ks := [0, 2, 3]) (lv' := [(2, _), (0, _), (1, _)]) rfl ?_
        exact aa_lv (lv' := [(2, .int (nI (j + 1))), (0, .ref L), (1, .int (nI q))]) (by rw [nI_inc]) (ih (j + 1) (by have := cl_b (I (L + 10) 3); omega) (by omega) hQ)
set_option maxHeartbeats 2000000 in
theorem c_X3_coloursRepeatAfter {Ω : JO} {I : JI} {S : JS} {Q : JQ} {L q : Nat} (hL : Is3 S L) (hb : q < 2 ^ 31) (hQ : Q (.inl (some (.int (zb (crR I L (nI q) ((I (L + 10) 3).toNatClampNeg - q) q))))) I S) : Call Ω m_X3_coloursRepeatAfter [.ref L, .int (nI q)] I S Q := by
  refine call_of (by decide +kernel) rfl (Nat.le_of_ble_eq_true rfl) ?_
  change AA Ω m_X3_coloursRepeatAfter (FQ Ω m_X3_coloursRepeatAfter Q) 0 0 0 [(0, .ref L), (1, .int (nI q))] [] I S
  refine r_iload_n (pc' := 1) dX3_coloursRepeatAfter_0 rfl 1 rfl rfl ?_
  refine r_istore_n (pc' := 2) (lv' := [(2, _), (0, _), (1, _)]) dX3_coloursRepeatAfter_1 rfl (by decide) rfl rfl ?_
  exact l_X3_crR (Ω := Ω) hL _ q hb rfl hQ
set_option maxHeartbeats 2000000 in
theorem l_X3_lrd {Ω : JO} {I : JI} {S : JS} {Q : JQ} {L : Nat} (hL : Is3 S L) : ∀ (m : Nat) (j : Nat), j < 2 ^ 31 → (I (L + 10) 3).toNatClampNeg - j = m → Q (.inl (some (.int (lrdF I L m j)))) I S → AA Ω m_X3_leastRowDistance (FQ Ω m_X3_leastRowDistance Q) 0 0 2 [(1, .int (nI j)), (0, .ref L)] [] I S := by
  intro m
  induction m with
  | zero =>
    intro j hb hj hQ
    refine r_iload_n (pc' := 3) dX3_leastRowDistance_2 rfl 0 rfl rfl ?_
    refine r_aload_n (pc' := 4) dX3_leastRowDistance_3 rfl 1 rfl rfl ?_
    refine r_getO (pc' := 7) dX3_leastRowDistance_4 fa_X3_53 hL.o rfl hL.r11 rfl ?_
    refine r_getI (pc' := 10) dX3_leastRowDistance_7 fa_X3_85 hL.c11.o rfl rfl ?_
    refine r_icmp_ge (tgt := 29) (pc' := 13) dX3_leastRowDistance_10 rfl rfl (fun h10 => ?_) (fun h10 => ?_)
    · refine r_aload_n (pc' := 30) dX3_leastRowDistance_29 rfl 1 rfl rfl ?_
      refine r_getO (pc' := 33) dX3_leastRowDistance_30 fa_X3_53 hL.o rfl hL.r11 rfl ?_
      refine r_getI (pc' := 36) dX3_leastRowDistance_33 fa_X3_85 hL.c11.o rfl rfl ?_
      exact r_iret dX3_leastRowDistance_36 rfl (by decide) (by decide) (hQ)
    · exact absurd ((cl_le2 hb).mpr (by omega)) h10
  | succ m ih =>
    intro j hb hj hQ
    refine r_iload_n (pc' := 3) dX3_leastRowDistance_2 rfl 0 rfl rfl ?_
    refine r_aload_n (pc' := 4) dX3_leastRowDistance_3 rfl 1 rfl rfl ?_
    refine r_getO (pc' := 7) dX3_leastRowDistance_4 fa_X3_53 hL.o rfl hL.r11 rfl ?_
    refine r_getI (pc' := 10) dX3_leastRowDistance_7 fa_X3_85 hL.c11.o rfl rfl ?_
    refine r_icmp_ge (tgt := 29) (pc' := 13) dX3_leastRowDistance_10 rfl rfl (fun h10 => ?_) (fun h10 => ?_)
    · exact absurd ((cl_le2 hb).mp h10) (by omega)
    · refine r_aload_n (pc' := 14) dX3_leastRowDistance_13 rfl 1 rfl rfl ?_
      refine r_iload_n (pc' := 15) dX3_leastRowDistance_14 rfl 0 rfl rfl ?_
      refine r_callV1 (pc' := 18) (k' := 0) (n' := 0) dX3_leastRowDistance_15 mb_X3_coloursRepeatAfter mi_X3_coloursRepeatAfter hL.o (by decide) rfl lk_X3_156 rfl rfl rfl (Nat.le_of_ble_eq_true rfl) rfl (c_X3_coloursRepeatAfter hL (by omega) (cpI ?_))
      refine r_if_eq (tgt := 23) (pc' := 21) dX3_leastRowDistance_18 rfl rfl (fun h18 => ?_) (fun h18 => ?_)
      · rw [lrdF, hj, if_neg (by first | (rw [zb0 h18]; decide) | (have e := zb0 h18; rw [show (I (L + 10) 3).toNatClampNeg - j = m + 1 from hj] at e; rw [e]; decide))] at hQ
        refine r_iinc (pc' := 26) (lv' := [(1, _), (0, _)]) dX3_leastRowDistance_23 0 rfl rfl (by decide) rfl rfl ?_
        refine r_goto (tgt := 2) dX3_leastRowDistance_26 rfl ?_
        exact aa_lv (lv' := [(1, .int (nI (j + 1))), (0, .ref L)]) (by rw [nI_inc]) (ih (j + 1) (by have := cl_b (I (L + 10) 3); omega) (by omega) hQ)
      · rw [lrdF, if_pos (zb1 h18)] at hQ
        refine r_iload_n (pc' := 22) dX3_leastRowDistance_21 rfl 0 rfl rfl ?_
        exact r_iret dX3_leastRowDistance_22 rfl (by decide) (by decide) (hQ)
set_option maxHeartbeats 2000000 in
theorem c_X3_leastRowDistance {Ω : JO} {I : JI} {S : JS} {Q : JQ} {L : Nat} (hL : Is3 S L) (hQ : Q (.inl (some (.int (lrdF I L ((I (L + 10) 3).toNatClampNeg - 1) 1)))) (I) S) : Call Ω m_X3_leastRowDistance [.ref L] I S Q := by
  refine call_of (by decide +kernel) rfl (Nat.le_of_ble_eq_true rfl) ?_
  change AA Ω m_X3_leastRowDistance (FQ Ω m_X3_leastRowDistance Q) 0 0 0 [(0, .ref L)] [] I S
  refine r_iconst (pc' := 1) (v := 1) dX3_leastRowDistance_0 (by decide) rfl ?_
  refine r_istore_n (pc' := 2) (lv' := [(1, _), (0, _)]) dX3_leastRowDistance_1 rfl (by decide) rfl rfl ?_
  exact l_X3_lrd (Ω := Ω) hL _ 1 (by decide) rfl hQ
set_option maxHeartbeats 2000000 in
theorem c_X3_equalsDesign {Ω : JO} {I : JI} {S : JS} {Q : JQ} {L : Nat} {r c : Int32} (hL : Is3 S L) (hQ : Q (.inl (some (.int (zb (eqD I L r c))))) (I) S) : Call Ω m_X3_equalsDesign [.ref L, .int r, .int c] I S Q := by
  refine call_of (by decide +kernel) rfl (Nat.le_of_ble_eq_true rfl) ?_
  change AA Ω m_X3_equalsDesign (FQ Ω m_X3_equalsDesign Q) 0 0 0 [(0, .ref L), (1, .int r), (2, .int c)] [] I S
  refine r_aload_n (pc' := 1) dX3_equalsDesign_0 rfl 0 rfl rfl ?_
  refine r_getO (pc' := 4) dX3_equalsDesign_1 fa_X3_53 hL.o rfl hL.r11 rfl ?_
  refine r_getO (pc' := 7) dX3_equalsDesign_4 fa_X3_141 hL.c11.o rfl hL.c11.r10 rfl ?_
  refine r_iload_n (pc' := 8) dX3_equalsDesign_7 rfl 1 rfl rfl ?_
  refine r_callSN2 (pc' := 11) (k' := 0) (n' := 0) dX3_equalsDesign_8 mb_X8_at ms_X8_at ln_X3_74 rfl rfl rfl (Nat.le_of_ble_eq_true rfl) rfl (c_X8_at hL.c11.c10 (by decide) (cpI ?_))
  refine r_istore_n (pc' := 12) (lv' := [(3, _), (0, _), (1, _), (2, _)]) dX3_equalsDesign_11 rfl (by decide) rfl rfl ?_
  refine r_iload_n (pc' := 13) dX3_equalsDesign_12 rfl 0 rfl rfl ?_
  refine r_aload_n (pc' := 14) dX3_equalsDesign_13 rfl 1 rfl rfl ?_
  refine r_aload_n (pc' := 15) dX3_equalsDesign_14 rfl 1 rfl rfl ?_
  refine r_getO (pc' := 18) dX3_equalsDesign_15 fa_X3_37 hL.o rfl hL.r8 rfl ?_
  refine r_iload_n (pc' := 19) dX3_equalsDesign_18 rfl 3 rfl rfl ?_
  refine r_callSN2 (pc' := 22) (k' := 0) (n' := 0) dX3_equalsDesign_19 mb_X8_at ms_X8_at ln_X3_74 rfl rfl rfl (Nat.le_of_ble_eq_true rfl) rfl (c_X8_at hL.c8 (by decide) (cpI ?_))
  refine r_callV1 (pc' := 25) (k' := 0) (n' := 0) dX3_equalsDesign_22 mb_X3_warpsOfHarnesses mi_X3_warpsOfHarnesses hL.o (by decide) rfl lk_X3_95 rfl rfl rfl (Nat.le_of_ble_eq_true rfl) rfl (c_X3_warpsOfHarnesses hL (cpI ?_))
  refine r_icmp_eq (tgt := 30) (pc' := 28) dX3_equalsDesign_25 rfl rfl (fun h25 => ?_) (fun h25 => ?_)
  · refine r_iload_n (pc' := 31) dX3_equalsDesign_30 rfl 0 rfl rfl ?_
    refine r_callS1 (pc' := 34) (k' := 0) (n' := 0) dX3_equalsDesign_31 mb_J6_bitCount_0f7a4 ms_J6_bitCount_0f7a4 lk_X3_98 rfl rfl rfl (Nat.le_of_ble_eq_true rfl) rfl (c_J6_bitCount_0f7a4 (cpI ?_))
    refine r_aload_n (pc' := 35) dX3_equalsDesign_34 rfl 1 rfl rfl ?_
    refine r_getI (pc' := 38) dX3_equalsDesign_35 fa_X3_24 hL.o rfl rfl ?_
    refine r_icmp_ne (tgt := 45) (pc' := 41) dX3_equalsDesign_38 rfl rfl (fun h38 => ?_) (fun h38 => ?_)
    · refine r_iconst (pc' := 46) (v := 0) dX3_equalsDesign_45 (by decide) rfl ?_
      refine r_istore (pc' := 48) (lv' := [(4, _), (3, _), (0, _), (1, _), (2, _)]) dX3_equalsDesign_46 (by decide) rfl rfl ?_
      refine r_iload (pc' := 50) dX3_equalsDesign_48 0 rfl rfl ?_
      refine r_if_ne (tgt := 75) (pc' := 53) dX3_equalsDesign_50 rfl rfl (fun h50 => ?_) (fun h50 => ?_)
      · refine r_iconst (pc' := 76) (v := 1) dX3_equalsDesign_75 (by decide) rfl ?_
        refine r_goto (tgt := 80) dX3_equalsDesign_76 rfl ?_
        exact r_zret dX3_equalsDesign_80 rfl (by first | exact zb01 _ | decide) (by decide) (by decide) (by first | (rw [show eqD I L r c = true by simp_all [eqD]] at hQ; exact hQ) | (rw [show eqD I L r c = false by simp_all [eqD]] at hQ; exact hQ))
      · refine r_aload_n (pc' := 54) dX3_equalsDesign_53 rfl 2 rfl rfl ?_
        refine r_getO (pc' := 57) dX3_equalsDesign_54 fa_X3_53 hL.o rfl hL.r11 rfl ?_
        refine r_getO (pc' := 60) dX3_equalsDesign_57 fa_X3_144 hL.c11.o rfl hL.c11.r11 rfl ?_
        refine r_iload_n (pc' := 61) dX3_equalsDesign_60 rfl 3 rfl rfl ?_
        refine r_callSN2 (pc' := 64) (k' := 0) (n' := 0) dX3_equalsDesign_61 mb_X8_at ms_X8_at ln_X3_74 rfl rfl rfl (Nat.le_of_ble_eq_true rfl) rfl (c_X8_at hL.c11.c11 (by decide) (cpI ?_))
        refine r_aload_n (pc' := 65) dX3_equalsDesign_64 rfl 2 rfl rfl ?_
        refine r_getO (pc' := 68) dX3_equalsDesign_65 fa_X3_40 hL.o rfl hL.r9 rfl ?_
        refine r_iload_n (pc' := 69) dX3_equalsDesign_68 rfl 4 rfl rfl ?_
        refine r_callSN2 (pc' := 72) (k' := 0) (n' := 0) dX3_equalsDesign_69 mb_X8_at ms_X8_at ln_X3_74 rfl rfl rfl (Nat.le_of_ble_eq_true rfl) rfl (c_X8_at hL.c9 (by decide) (cpI ?_))
        refine r_icmp_ne (tgt := 79) (pc' := 75) dX3_equalsDesign_72 rfl rfl (fun h72 => ?_) (fun h72 => ?_)
        · refine r_iconst (pc' := 80) (v := 0) dX3_equalsDesign_79 (by decide) rfl ?_
          exact r_zret dX3_equalsDesign_80 rfl (by first | exact zb01 _ | decide) (by decide) (by decide) (by first | (rw [show eqD I L r c = true by simp_all [eqD]] at hQ; exact hQ) | (rw [show eqD I L r c = false by simp_all [eqD]] at hQ; exact hQ))
        · refine r_iconst (pc' := 76) (v := 1) dX3_equalsDesign_75 (by decide) rfl ?_
          refine r_goto (tgt := 80) dX3_equalsDesign_76 rfl ?_
          exact r_zret dX3_equalsDesign_80 rfl (by first | exact zb01 _ | decide) (by decide) (by decide) (by first | (rw [show eqD I L r c = true by simp_all [eqD]] at hQ; exact hQ) | (rw [show eqD I L r c = false by simp_all [eqD]] at hQ; exact hQ))
    · refine r_iconst (pc' := 42) (v := 1) dX3_equalsDesign_41 (by decide) rfl ?_
      refine r_goto (tgt := 46) dX3_equalsDesign_42 rfl ?_
      refine r_istore (pc' := 48) (lv' := [(4, _), (3, _), (0, _), (1, _), (2, _)]) dX3_equalsDesign_46 (by decide) rfl rfl ?_
      refine r_iload (pc' := 50) dX3_equalsDesign_48 0 rfl rfl ?_
      refine r_if_ne (tgt := 75) (pc' := 53) dX3_equalsDesign_50 rfl rfl (fun h50 => ?_) (fun h50 => ?_)
      · refine r_iconst (pc' := 76) (v := 1) dX3_equalsDesign_75 (by decide) rfl ?_
        refine r_goto (tgt := 80) dX3_equalsDesign_76 rfl ?_
        exact r_zret dX3_equalsDesign_80 rfl (by first | exact zb01 _ | decide) (by decide) (by decide) (by first | (rw [show eqD I L r c = true by simp_all [eqD]] at hQ; exact hQ) | (rw [show eqD I L r c = false by simp_all [eqD]] at hQ; exact hQ))
      · refine r_aload_n (pc' := 54) dX3_equalsDesign_53 rfl 2 rfl rfl ?_
        refine r_getO (pc' := 57) dX3_equalsDesign_54 fa_X3_53 hL.o rfl hL.r11 rfl ?_
        refine r_getO (pc' := 60) dX3_equalsDesign_57 fa_X3_144 hL.c11.o rfl hL.c11.r11 rfl ?_
        refine r_iload_n (pc' := 61) dX3_equalsDesign_60 rfl 3 rfl rfl ?_
        refine r_callSN2 (pc' := 64) (k' := 0) (n' := 0) dX3_equalsDesign_61 mb_X8_at ms_X8_at ln_X3_74 rfl rfl rfl (Nat.le_of_ble_eq_true rfl) rfl (c_X8_at hL.c11.c11 (by decide) (cpI ?_))
        refine r_aload_n (pc' := 65) dX3_equalsDesign_64 rfl 2 rfl rfl ?_
        refine r_getO (pc' := 68) dX3_equalsDesign_65 fa_X3_40 hL.o rfl hL.r9 rfl ?_
        refine r_iload_n (pc' := 69) dX3_equalsDesign_68 rfl 4 rfl rfl ?_
        refine r_callSN2 (pc' := 72) (k' := 0) (n' := 0) dX3_equalsDesign_69 mb_X8_at ms_X8_at ln_X3_74 rfl rfl rfl (Nat.le_of_ble_eq_true rfl) rfl (c_X8_at hL.c9 (by decide) (cpI ?_))
        refine r_icmp_ne (tgt := 79) (pc' := 75) dX3_equalsDesign_72 rfl rfl (fun h72 => ?_) (fun h72 => ?_)
        · refine r_iconst (pc' := 80) (v := 0) dX3_equalsDesign_79 (by decide) rfl ?_
          exact r_zret dX3_equalsDesign_80 rfl (by first | exact zb01 _ | decide) (by decide) (by decide) (by first | (rw [show eqD I L r c = true by simp_all [eqD]] at hQ; exact hQ) | (rw [show eqD I L r c = false by simp_all [eqD]] at hQ; exact hQ))
        · refine r_iconst (pc' := 76) (v := 1) dX3_equalsDesign_75 (by decide) rfl ?_
          refine r_goto (tgt := 80) dX3_equalsDesign_76 rfl ?_
          exact r_zret dX3_equalsDesign_80 rfl (by first | exact zb01 _ | decide) (by decide) (by decide) (by first | (rw [show eqD I L r c = true by simp_all [eqD]] at hQ; exact hQ) | (rw [show eqD I L r c = false by simp_all [eqD]] at hQ; exact hQ))
  · refine r_iconst (pc' := 29) (v := 0) dX3_equalsDesign_28 (by decide) rfl ?_
    exact r_zret dX3_equalsDesign_29 rfl (by first | exact zb01 _ | decide) (by decide) (by decide) (by first | (rw [show eqD I L r c = true by simp_all [eqD]] at hQ; exact hQ) | (rw [show eqD I L r c = false by simp_all [eqD]] at hQ; exact hQ))
set_option maxHeartbeats 2000000 in
theorem c_X3_differsFromDesign {Ω : JO} {I : JI} {S : JS} {Q : JQ} {L : Nat} {r : Int32} (hL : Is3 S L) (hQ : Q (.inl (some (.int (zb (dfD I L r))))) (I) S) : Call Ω m_X3_differsFromDesign [.ref L, .int r] I S Q := by
  refine call_of (by decide +kernel) rfl (Nat.le_of_ble_eq_true rfl) ?_
  change AA Ω m_X3_differsFromDesign (FQ Ω m_X3_differsFromDesign Q) 0 0 0 [(0, .ref L), (1, .int r)] [] I S
  refine r_aload_n (pc' := 1) dX3_differsFromDesign_0 rfl 0 rfl rfl ?_
  refine r_iload_n (pc' := 2) dX3_differsFromDesign_1 rfl 1 rfl rfl ?_
  refine r_aload_n (pc' := 3) dX3_differsFromDesign_2 rfl 0 rfl rfl ?_
  refine r_getO (pc' := 6) dX3_differsFromDesign_3 fa_X3_46 hL.o rfl hL.r10 rfl ?_
  refine r_iload_n (pc' := 7) dX3_differsFromDesign_6 rfl 1 rfl rfl ?_
  refine r_callV1 (pc' := 10) (k' := 0) (n' := 0) dX3_differsFromDesign_7 mb_X0_cardForRow mi_X0_cardForRow hL.c10.o (by decide) rfl lk_X3_88 rfl rfl rfl (Nat.le_of_ble_eq_true rfl) rfl (c_X0_cardForRow hL.c10 (cpI ?_))
  refine r_callV2 (pc' := 13) (k' := 0) (n' := 0) dX3_differsFromDesign_10 mb_X3_equalsDesign mi_X3_equalsDesign hL.o (by decide) rfl lk_X3_160 rfl rfl rfl (Nat.le_of_ble_eq_true rfl) rfl (c_X3_equalsDesign hL (cpI ?_))
  refine r_if_ne (tgt := 20) (pc' := 16) dX3_differsFromDesign_13 rfl rfl (fun h13 => ?_) (fun h13 => ?_)
  · rw [dfD, zb1 h13] at hQ
    refine r_iconst (pc' := 21) (v := 0) dX3_differsFromDesign_20 (by decide) rfl ?_
    exact r_zret dX3_differsFromDesign_21 rfl (by first | exact zb01 _ | decide) (by decide) (by decide) (hQ)
  · rw [dfD, zb0 h13] at hQ
    refine r_iconst (pc' := 17) (v := 1) dX3_differsFromDesign_16 (by decide) rfl ?_
    refine r_goto (tgt := 21) dX3_differsFromDesign_17 rfl ?_
    exact r_zret dX3_differsFromDesign_21 rfl (by first | exact zb01 _ | decide) (by decide) (by decide) (hQ)
set_option maxHeartbeats 2000000 in
theorem l_X3_countWrong {Ω : JO} {I : JI} {S : JS} {Q : JQ} {L : Nat} (hL : Is3 S L) (hQ : Q (.inl (some (.int (cwF I L (I (L + 10) 3).toNatClampNeg)))) I S) : ∀ (m : Nat) (j : Nat), j + m = (I (L + 10) 3).toNatClampNeg → AA Ω m_X3_countWrong (FQ Ω m_X3_countWrong Q) 0 0 4 [(2, .int (nI j)), (1, .int (cwF I L j)), (0, .ref L)] [] I S := by
  intro m
  induction m with
  | zero =>
    intro j hj
    refine r_iload_n (pc' := 5) dX3_countWrong_4 rfl 0 rfl rfl ?_
    refine r_aload_n (pc' := 6) dX3_countWrong_5 rfl 2 rfl rfl ?_
    refine r_getO (pc' := 9) dX3_countWrong_6 fa_X3_53 hL.o rfl hL.r11 rfl ?_
    refine r_getI (pc' := 12) dX3_countWrong_9 fa_X3_85 hL.c11.o rfl rfl ?_
    refine r_icmp_ge (tgt := 32) (pc' := 15) dX3_countWrong_12 rfl rfl (fun h12 => ?_) (fun h12 => ?_)
    · have e : j = (I (L + 10) 3).toNatClampNeg := by omega
      rw [← e] at hQ
      refine r_iload_n (pc' := 33) dX3_countWrong_32 rfl 1 rfl rfl ?_
      exact r_iret dX3_countWrong_33 rfl (by decide) (by decide) (hQ)
    · exact absurd ((cl_le2 (by have := cl_b (I (L + 10) 3); omega)).mpr (by omega)) h12
  | succ m ih =>
    intro j hj
    refine r_iload_n (pc' := 5) dX3_countWrong_4 rfl 0 rfl rfl ?_
    refine r_aload_n (pc' := 6) dX3_countWrong_5 rfl 2 rfl rfl ?_
    refine r_getO (pc' := 9) dX3_countWrong_6 fa_X3_53 hL.o rfl hL.r11 rfl ?_
    refine r_getI (pc' := 12) dX3_countWrong_9 fa_X3_85 hL.c11.o rfl rfl ?_
    refine r_icmp_ge (tgt := 32) (pc' := 15) dX3_countWrong_12 rfl rfl (fun h12 => ?_) (fun h12 => ?_)
    · exact absurd ((cl_le2 (by have := cl_b (I (L + 10) 3); omega)).mp h12) (by omega)
    · refine r_aload_n (pc' := 16) dX3_countWrong_15 rfl 2 rfl rfl ?_
      refine r_iload_n (pc' := 17) dX3_countWrong_16 rfl 0 rfl rfl ?_
      refine r_callV1 (pc' := 20) (k' := 0) (n' := 0) dX3_countWrong_17 mb_X3_differsFromDesign mi_X3_differsFromDesign hL.o (by decide) rfl lk_X3_163 rfl rfl rfl (Nat.le_of_ble_eq_true rfl) rfl (c_X3_differsFromDesign hL (cpI ?_))
      refine r_if_eq (tgt := 26) (pc' := 23) dX3_countWrong_20 rfl rfl (fun h20 => ?_) (fun h20 => ?_)
      · refine r_iinc (pc' := 29) (lv' := [(2, _), (1, _), (0, _)]) dX3_countWrong_26 0 rfl rfl (by decide) rfl rfl ?_
        refine r_goto (tgt := 4) dX3_countWrong_29 rfl ?_
        exact aa_lv (lv' := [(2, .int (nI (j + 1))), (1, .int (cwF I L (j + 1))), (0, .ref L)]) (by first | simp [nI_1, nI_inc, cwF, zb0 h20] | simp [nI_1, nI_inc, cwF, zb1 h20] | simp_all [nI_1, nI_inc, cwF]) (ih (j + 1) (by omega))
      · refine r_iinc (pc' := 26) (lv' := [(1, _), (2, _), (0, _)]) dX3_countWrong_23 1 rfl rfl (by decide) rfl rfl ?_
        refine r_iinc (pc' := 29) (lv' := [(2, _), (1, _), (0, _)]) dX3_countWrong_26 1 rfl rfl (by decide) rfl rfl ?_
        refine r_goto (tgt := 4) dX3_countWrong_29 rfl ?_
        exact aa_lv (lv' := [(2, .int (nI (j + 1))), (1, .int (cwF I L (j + 1))), (0, .ref L)]) (by first | simp [nI_1, nI_inc, cwF, zb0 h20] | simp [nI_1, nI_inc, cwF, zb1 h20] | simp_all [nI_1, nI_inc, cwF]) (ih (j + 1) (by omega))
set_option maxHeartbeats 2000000 in
theorem c_X3_countWrong {Ω : JO} {I : JI} {S : JS} {Q : JQ} {L : Nat} (hL : Is3 S L) (hQ : Q (.inl (some (.int (cwF I L (I (L + 10) 3).toNatClampNeg)))) (I) S) : Call Ω m_X3_countWrong [.ref L] I S Q := by
  refine call_of (by decide +kernel) rfl (Nat.le_of_ble_eq_true rfl) ?_
  change AA Ω m_X3_countWrong (FQ Ω m_X3_countWrong Q) 0 0 0 [(0, .ref L)] [] I S
  refine r_iconst (pc' := 1) (v := 0) dX3_countWrong_0 (by decide) rfl ?_
  refine r_istore_n (pc' := 2) (lv' := [(1, _), (0, _)]) dX3_countWrong_1 rfl (by decide) rfl rfl ?_
  refine r_iconst (pc' := 3) (v := 0) dX3_countWrong_2 (by decide) rfl ?_
  refine r_istore_n (pc' := 4) (lv' := [(2, _), (1, _), (0, _)]) dX3_countWrong_3 rfl (by decide) rfl rfl ?_
  exact l_X3_countWrong (Ω := Ω) hL hQ _ 0 (Nat.zero_add _)
set_option maxHeartbeats 2000000 in
theorem l_X3_firstWrong {Ω : JO} {I : JI} {S : JS} {Q : JQ} {L : Nat} (hL : Is3 S L) : ∀ (m : Nat) (j : Nat), j + m = (I (L + 10) 3).toNatClampNeg → Q (.inl (some (.int (fwF I L m j)))) I S → AA Ω m_X3_firstWrong (FQ Ω m_X3_firstWrong Q) 0 0 2 [(1, .int (nI j)), (0, .ref L)] [] I S := by
  intro m
  induction m with
  | zero =>
    intro j hj hQ
    refine r_iload_n (pc' := 3) dX3_firstWrong_2 rfl 0 rfl rfl ?_
    refine r_aload_n (pc' := 4) dX3_firstWrong_3 rfl 1 rfl rfl ?_
    refine r_getO (pc' := 7) dX3_firstWrong_4 fa_X3_53 hL.o rfl hL.r11 rfl ?_
    refine r_getI (pc' := 10) dX3_firstWrong_7 fa_X3_85 hL.c11.o rfl rfl ?_
    refine r_icmp_ge (tgt := 29) (pc' := 13) dX3_firstWrong_10 rfl rfl (fun h10 => ?_) (fun h10 => ?_)
    · refine r_iconst (pc' := 30) (v := -1) dX3_firstWrong_29 (by decide) rfl ?_
      exact r_iret dX3_firstWrong_30 rfl (by decide) (by decide) (hQ)
    · exact absurd ((cl_le2 (by have := cl_b (I (L + 10) 3); omega)).mpr (by omega)) h10
  | succ m ih =>
    intro j hj hQ
    refine r_iload_n (pc' := 3) dX3_firstWrong_2 rfl 0 rfl rfl ?_
    refine r_aload_n (pc' := 4) dX3_firstWrong_3 rfl 1 rfl rfl ?_
    refine r_getO (pc' := 7) dX3_firstWrong_4 fa_X3_53 hL.o rfl hL.r11 rfl ?_
    refine r_getI (pc' := 10) dX3_firstWrong_7 fa_X3_85 hL.c11.o rfl rfl ?_
    refine r_icmp_ge (tgt := 29) (pc' := 13) dX3_firstWrong_10 rfl rfl (fun h10 => ?_) (fun h10 => ?_)
    · exact absurd ((cl_le2 (by have := cl_b (I (L + 10) 3); omega)).mp h10) (by omega)
    · refine r_aload_n (pc' := 14) dX3_firstWrong_13 rfl 1 rfl rfl ?_
      refine r_iload_n (pc' := 15) dX3_firstWrong_14 rfl 0 rfl rfl ?_
      refine r_callV1 (pc' := 18) (k' := 0) (n' := 0) dX3_firstWrong_15 mb_X3_differsFromDesign mi_X3_differsFromDesign hL.o (by decide) rfl lk_X3_163 rfl rfl rfl (Nat.le_of_ble_eq_true rfl) rfl (c_X3_differsFromDesign hL (cpI ?_))
      refine r_if_eq (tgt := 23) (pc' := 21) dX3_firstWrong_18 rfl rfl (fun h18 => ?_) (fun h18 => ?_)
      · rw [fwF, if_neg (by rw [zb0 h18]; decide)] at hQ
        refine r_iinc (pc' := 26) (lv' := [(1, _), (0, _)]) dX3_firstWrong_23 0 rfl rfl (by decide) rfl rfl ?_
        refine r_goto (tgt := 2) dX3_firstWrong_26 rfl ?_
        exact aa_lv (lv' := [(1, .int (nI (j + 1))), (0, .ref L)]) (by rw [nI_inc]) (ih (j + 1) (by omega) hQ)
      · rw [fwF, if_pos (zb1 h18)] at hQ
        refine r_iload_n (pc' := 22) dX3_firstWrong_21 rfl 0 rfl rfl ?_
        exact r_iret dX3_firstWrong_22 rfl (by decide) (by decide) (hQ)
set_option maxHeartbeats 2000000 in
theorem c_X3_firstWrong {Ω : JO} {I : JI} {S : JS} {Q : JQ} {L : Nat} (hL : Is3 S L) (hQ : Q (.inl (some (.int (fwF I L (I (L + 10) 3).toNatClampNeg 0)))) (I) S) : Call Ω m_X3_firstWrong [.ref L] I S Q := by
  refine call_of (by decide +kernel) rfl (Nat.le_of_ble_eq_true rfl) ?_
  change AA Ω m_X3_firstWrong (FQ Ω m_X3_firstWrong Q) 0 0 0 [(0, .ref L)] [] I S
  refine r_iconst (pc' := 1) (v := 0) dX3_firstWrong_0 (by decide) rfl ?_
  refine r_istore_n (pc' := 2) (lv' := [(1, _), (0, _)]) dX3_firstWrong_1 rfl (by decide) rfl rfl ?_
  exact l_X3_firstWrong (Ω := Ω) hL _ 0 (Nat.zero_add _) hQ
set_option maxHeartbeats 2000000 in
theorem l_X3_exch {Ω : JO} {I : JI} {S : JS} {Q : JQ} {L : Nat} {a b : Int32} (hL : Is3 S L) : ∀ (m : Nat) (j : Nat), j + m = (I (L + 10) 3).toNatClampNeg → Q (.inl (some (.int (zb (exF I L a b m j))))) I S → AA Ω m_X3_exchangeExplainsCloth (FQ Ω m_X3_exchangeExplainsCloth Q) 0 0 2 [(3, .int (nI j)), (0, .ref L), (1, .int a), (2, .int b)] [] I S := by
  intro m
  induction m with
  | zero =>
    intro j hj hQ
    refine r_iload_n (pc' := 3) dX3_exchangeExplainsCloth_2 rfl 0 rfl rfl ?_
    refine r_aload_n (pc' := 4) dX3_exchangeExplainsCloth_3 rfl 1 rfl rfl ?_
    refine r_getO (pc' := 7) dX3_exchangeExplainsCloth_4 fa_X3_53 hL.o rfl hL.r11 rfl ?_
    refine r_getI (pc' := 10) dX3_exchangeExplainsCloth_7 fa_X3_85 hL.c11.o rfl rfl ?_
    refine r_icmp_ge (tgt := 62) (pc' := 13) dX3_exchangeExplainsCloth_10 rfl rfl (fun h10 => ?_) (fun h10 => ?_)
    · refine r_iconst (pc' := 63) (v := 1) dX3_exchangeExplainsCloth_62 (by decide) rfl ?_
      exact r_zret dX3_exchangeExplainsCloth_63 rfl (by first | exact zb01 _ | decide) (by decide) (by decide) (hQ)
    · exact absurd ((cl_le2 (by have := cl_b (I (L + 10) 3); omega)).mpr (by omega)) h10
  | succ m ih =>
    intro j hj hQ
    refine r_iload_n (pc' := 3) dX3_exchangeExplainsCloth_2 rfl 0 rfl rfl ?_
    refine r_aload_n (pc' := 4) dX3_exchangeExplainsCloth_3 rfl 1 rfl rfl ?_
    refine r_getO (pc' := 7) dX3_exchangeExplainsCloth_4 fa_X3_53 hL.o rfl hL.r11 rfl ?_
    refine r_getI (pc' := 10) dX3_exchangeExplainsCloth_7 fa_X3_85 hL.c11.o rfl rfl ?_
    refine r_icmp_ge (tgt := 62) (pc' := 13) dX3_exchangeExplainsCloth_10 rfl rfl (fun h10 => ?_) (fun h10 => ?_)
    · exact absurd ((cl_le2 (by have := cl_b (I (L + 10) 3); omega)).mp h10) (by omega)
    · refine r_aload_n (pc' := 14) dX3_exchangeExplainsCloth_13 rfl 1 rfl rfl ?_
      refine r_getO (pc' := 17) dX3_exchangeExplainsCloth_14 fa_X3_46 hL.o rfl hL.r10 rfl ?_
      refine r_iload_n (pc' := 18) dX3_exchangeExplainsCloth_17 rfl 0 rfl rfl ?_
      refine r_callV1 (pc' := 21) (k' := 0) (n' := 0) dX3_exchangeExplainsCloth_18 mb_X0_cardForRow mi_X0_cardForRow hL.c10.o (by decide) rfl lk_X3_88 rfl rfl rfl (Nat.le_of_ble_eq_true rfl) rfl (c_X0_cardForRow hL.c10 (cpI ?_))
      refine r_istore (pc' := 23) (lv' := [(4, _), (3, _), (0, _), (1, _), (2, _)]) dX3_exchangeExplainsCloth_21 (by decide) rfl rfl ?_
      refine r_iload (pc' := 25) dX3_exchangeExplainsCloth_23 0 rfl rfl ?_
      refine r_iload_n (pc' := 26) dX3_exchangeExplainsCloth_25 rfl 3 rfl rfl ?_
      refine r_icmp_ne (tgt := 35) (pc' := 29) dX3_exchangeExplainsCloth_26 rfl rfl (fun h26 => ?_) (fun h26 => ?_)
      · have hx : ∀ z, exC (x0_cfr I (L + 5) (nI j)) a b = z → z = exC (x0_cfr I (L + 5) (nI j)) a b := fun z h => h.symm
        rw [exF] at hQ
        unfold exC at hQ
        rw [if_neg h26] at hQ
        refine r_iload (pc' := 37) dX3_exchangeExplainsCloth_35 0 rfl rfl ?_
        refine r_iload_n (pc' := 38) dX3_exchangeExplainsCloth_37 rfl 4 rfl rfl ?_
        refine r_icmp_ne (tgt := 44) (pc' := 41) dX3_exchangeExplainsCloth_38 rfl rfl (fun h38 => ?_) (fun h38 => ?_)
        · rw [if_neg h38] at hQ
          refine r_aload_n (pc' := 45) dX3_exchangeExplainsCloth_44 rfl 2 rfl rfl ?_
          refine r_iload_n (pc' := 46) dX3_exchangeExplainsCloth_45 rfl 1 rfl rfl ?_
          refine r_iload (pc' := 48) dX3_exchangeExplainsCloth_46 0 rfl rfl ?_
          refine r_callV2 (pc' := 51) (k' := 0) (n' := 0) dX3_exchangeExplainsCloth_48 mb_X3_equalsDesign mi_X3_equalsDesign hL.o (by decide) rfl lk_X3_160 rfl rfl rfl (Nat.le_of_ble_eq_true rfl) rfl (c_X3_equalsDesign hL (cpI ?_))
          refine r_if_ne (tgt := 56) (pc' := 54) dX3_exchangeExplainsCloth_51 rfl rfl (fun h51 => ?_) (fun h51 => ?_)
          · rw [if_pos (zb1 h51)] at hQ
            refine r_iinc (pc' := 59) (lv' := [(3, _), (4, _), (0, _), (1, _), (2, _)]) dX3_exchangeExplainsCloth_56 1 rfl rfl (by decide) rfl rfl ?_
            refine r_goto (tgt := 2) dX3_exchangeExplainsCloth_59 rfl ?_
            refine aa_locs (ks := [0, 2, 3, 4]) (lv' := [(3, _), (0, _), (1, _), (2, _)]) rfl ?_
            exact aa_lv (lv' := [(3, .int (nI (j + 1))), (0, .ref L), (1, .int a), (2, .int b)]) (by rw [nI_inc]) (ih (j + 1) (by omega) hQ)
          · rw [if_neg (by rw [zb0 h51]; decide)] at hQ
            refine r_iconst (pc' := 55) (v := 0) dX3_exchangeExplainsCloth_54 (by decide) rfl ?_
            exact r_zret dX3_exchangeExplainsCloth_55 rfl (by first | exact zb01 _ | decide) (by decide) (by decide) (hQ)
        · rw [if_pos h38] at hQ
          refine r_iload_n (pc' := 42) dX3_exchangeExplainsCloth_41 rfl 3 rfl rfl ?_
          refine r_istore (pc' := 44) (lv' := [(4, _), (3, _), (0, _), (1, _), (2, _)]) dX3_exchangeExplainsCloth_42 (by decide) rfl rfl ?_
          refine r_aload_n (pc' := 45) dX3_exchangeExplainsCloth_44 rfl 2 rfl rfl ?_
          refine r_iload_n (pc' := 46) dX3_exchangeExplainsCloth_45 rfl 1 rfl rfl ?_
          refine r_iload (pc' := 48) dX3_exchangeExplainsCloth_46 0 rfl rfl ?_
          refine r_callV2 (pc' := 51) (k' := 0) (n' := 0) dX3_exchangeExplainsCloth_48 mb_X3_equalsDesign mi_X3_equalsDesign hL.o (by decide) rfl lk_X3_160 rfl rfl rfl (Nat.le_of_ble_eq_true rfl) rfl (c_X3_equalsDesign hL (cpI ?_))
          refine r_if_ne (tgt := 56) (pc' := 54) dX3_exchangeExplainsCloth_51 rfl rfl (fun h51 => ?_) (fun h51 => ?_)
          · rw [if_pos (zb1 h51)] at hQ
            refine r_iinc (pc' := 59) (lv' := [(3, _), (4, _), (0, _), (1, _), (2, _)]) dX3_exchangeExplainsCloth_56 1 rfl rfl (by decide) rfl rfl ?_
            refine r_goto (tgt := 2) dX3_exchangeExplainsCloth_59 rfl ?_
            refine aa_locs (ks := [0, 2, 3, 4]) (lv' := [(3, _), (0, _), (1, _), (2, _)]) rfl ?_
            exact aa_lv (lv' := [(3, .int (nI (j + 1))), (0, .ref L), (1, .int a), (2, .int b)]) (by rw [nI_inc]) (ih (j + 1) (by omega) hQ)
          · rw [if_neg (by rw [zb0 h51]; decide)] at hQ
            refine r_iconst (pc' := 55) (v := 0) dX3_exchangeExplainsCloth_54 (by decide) rfl ?_
            exact r_zret dX3_exchangeExplainsCloth_55 rfl (by first | exact zb01 _ | decide) (by decide) (by decide) (hQ)
      · rw [exF] at hQ
        unfold exC at hQ
        rw [if_pos h26] at hQ
        refine r_iload_n (pc' := 30) dX3_exchangeExplainsCloth_29 rfl 4 rfl rfl ?_
        refine r_istore (pc' := 32) (lv' := [(4, _), (3, _), (0, _), (1, _), (2, _)]) dX3_exchangeExplainsCloth_30 (by decide) rfl rfl ?_
        refine r_goto (tgt := 44) dX3_exchangeExplainsCloth_32 rfl ?_
        refine r_aload_n (pc' := 45) dX3_exchangeExplainsCloth_44 rfl 2 rfl rfl ?_
        refine r_iload_n (pc' := 46) dX3_exchangeExplainsCloth_45 rfl 1 rfl rfl ?_
        refine r_iload (pc' := 48) dX3_exchangeExplainsCloth_46 0 rfl rfl ?_
        refine r_callV2 (pc' := 51) (k' := 0) (n' := 0) dX3_exchangeExplainsCloth_48 mb_X3_equalsDesign mi_X3_equalsDesign hL.o (by decide) rfl lk_X3_160 rfl rfl rfl (Nat.le_of_ble_eq_true rfl) rfl (c_X3_equalsDesign hL (cpI ?_))
        refine r_if_ne (tgt := 56) (pc' := 54) dX3_exchangeExplainsCloth_51 rfl rfl (fun h51 => ?_) (fun h51 => ?_)
        · rw [if_pos (zb1 h51)] at hQ
          refine r_iinc (pc' := 59) (lv' := [(3, _), (4, _), (0, _), (1, _), (2, _)]) dX3_exchangeExplainsCloth_56 1 rfl rfl (by decide) rfl rfl ?_
          refine r_goto (tgt := 2) dX3_exchangeExplainsCloth_59 rfl ?_
          refine aa_locs (ks := [0, 2, 3, 4]) (lv' := [(3, _), (0, _), (1, _), (2, _)]) rfl ?_
          exact aa_lv (lv' := [(3, .int (nI (j + 1))), (0, .ref L), (1, .int a), (2, .int b)]) (by rw [nI_inc]) (ih (j + 1) (by omega) hQ)
        · rw [if_neg (by rw [zb0 h51]; decide)] at hQ
          refine r_iconst (pc' := 55) (v := 0) dX3_exchangeExplainsCloth_54 (by decide) rfl ?_
          exact r_zret dX3_exchangeExplainsCloth_55 rfl (by first | exact zb01 _ | decide) (by decide) (by decide) (hQ)
set_option maxHeartbeats 2000000 in
theorem c_X3_exchangeExplainsCloth {Ω : JO} {I : JI} {S : JS} {Q : JQ} {L : Nat} {a b : Int32} (hL : Is3 S L) (hQ : Q (.inl (some (.int (zb (exB I L a b))))) (I) S) : Call Ω m_X3_exchangeExplainsCloth [.ref L, .int a, .int b] I S Q := by
  refine call_of (by decide +kernel) rfl (Nat.le_of_ble_eq_true rfl) ?_
  change AA Ω m_X3_exchangeExplainsCloth (FQ Ω m_X3_exchangeExplainsCloth Q) 0 0 0 [(0, .ref L), (1, .int a), (2, .int b)] [] I S
  refine r_iconst (pc' := 1) (v := 0) dX3_exchangeExplainsCloth_0 (by decide) rfl ?_
  refine r_istore_n (pc' := 2) (lv' := [(3, _), (0, _), (1, _), (2, _)]) dX3_exchangeExplainsCloth_1 rfl (by decide) rfl rfl ?_
  exact l_X3_exch (Ω := Ω) hL _ 0 (Nat.zero_add _) hQ
set_option maxHeartbeats 2000000 in
theorem l_X3_spI {Ω : JO} {I : JI} {S : JS} {Q : JQ} {L a : Nat} (hL : Is3 S L) : ∀ (m : Nat) (j : Nat), j < 2 ^ 31 → (I L 7).toNatClampNeg - j = m → (∀ v, spI I L a m j = some v → Q (.inl (some (.int v))) I S) → (spI I L a m j = none → ∀ y, AA Ω m_X3_suspectedPair (FQ Ω m_X3_suspectedPair Q) 0 0 54 [(2, .int y), (1, .int (nI a)), (0, .ref L)] [] I S) → AA Ω m_X3_suspectedPair (FQ Ω m_X3_suspectedPair Q) 0 0 24 [(2, .int (nI j)), (1, .int (nI a)), (0, .ref L)] [] I S := by
  intro m
  induction m with
  | zero =>
    intro j hb hj hs hn
    refine r_iload_n (pc' := 25) dX3_suspectedPair_24 rfl 0 rfl rfl ?_
    refine r_aload_n (pc' := 26) dX3_suspectedPair_25 rfl 2 rfl rfl ?_
    refine r_getI (pc' := 29) dX3_suspectedPair_26 fa_X3_34 hL.o rfl rfl ?_
    refine r_icmp_ge (tgt := 54) (pc' := 32) dX3_suspectedPair_29 rfl rfl (fun h29 => ?_) (fun h29 => ?_)
    · exact hn rfl _
    · exact absurd ((cl_le2 hb).mpr (by omega)) h29
  | succ m ih =>
    intro j hb hj hs hn
    refine r_iload_n (pc' := 25) dX3_suspectedPair_24 rfl 0 rfl rfl ?_
    refine r_aload_n (pc' := 26) dX3_suspectedPair_25 rfl 2 rfl rfl ?_
    refine r_getI (pc' := 29) dX3_suspectedPair_26 fa_X3_34 hL.o rfl rfl ?_
    refine r_icmp_ge (tgt := 54) (pc' := 32) dX3_suspectedPair_29 rfl rfl (fun h29 => ?_) (fun h29 => ?_)
    · exact absurd ((cl_le2 hb).mp h29) (by omega)
    · refine r_aload_n (pc' := 33) dX3_suspectedPair_32 rfl 2 rfl rfl ?_
      refine r_iload_n (pc' := 34) dX3_suspectedPair_33 rfl 1 rfl rfl ?_
      refine r_iload_n (pc' := 35) dX3_suspectedPair_34 rfl 0 rfl rfl ?_
      refine r_callV2 (pc' := 38) (k' := 0) (n' := 0) dX3_suspectedPair_35 mb_X3_exchangeExplainsCloth mi_X3_exchangeExplainsCloth hL.o (by decide) rfl lk_X3_170 rfl rfl rfl (Nat.le_of_ble_eq_true rfl) rfl (c_X3_exchangeExplainsCloth hL (cpI ?_))
      refine r_if_eq (tgt := 48) (pc' := 41) dX3_suspectedPair_38 rfl rfl (fun h38 => ?_) (fun h38 => ?_)
      · rw [spI, if_neg (by rw [zb0 h38]; decide)] at hs hn
        refine r_iinc (pc' := 51) (lv' := [(2, _), (1, _), (0, _)]) dX3_suspectedPair_48 0 rfl rfl (by decide) rfl rfl ?_
        refine r_goto (tgt := 24) dX3_suspectedPair_51 rfl ?_
        exact aa_lv (lv' := [(2, .int (nI (j + 1))), (1, .int (nI a)), (0, .ref L)]) (by rw [nI_inc]) (ih (j + 1) (by have := cl_b (I L 7); omega) (by omega) hs hn)
      · rw [spI, if_pos (zb1 h38)] at hs
        refine r_iload_n (pc' := 42) dX3_suspectedPair_41 rfl 1 rfl rfl ?_
        refine r_bipush (pc' := 44) (v := 12) dX3_suspectedPair_42 (by decide) rfl ?_
        refine r_imul (pc' := 45) dX3_suspectedPair_44 rfl ?_
        refine r_iload_n (pc' := 46) dX3_suspectedPair_45 rfl 0 rfl rfl ?_
        refine r_iadd (pc' := 47) dX3_suspectedPair_46 rfl ?_
        exact r_iret dX3_suspectedPair_47 rfl (by decide) (by decide) (hs _ rfl)
set_option maxHeartbeats 2000000 in
theorem l_X3_spO {Ω : JO} {I : JI} {S : JS} {Q : JQ} {L : Nat} (hL : Is3 S L) : ∀ (m : Nat) (j : Nat), j + m = (I L 7).toNatClampNeg → Q (.inl (some (.int (spO I L m j)))) I S → AA Ω m_X3_suspectedPair (FQ Ω m_X3_suspectedPair Q) 0 0 12 [(1, .int (nI j)), (0, .ref L)] [] I S := by
  intro m
  induction m with
  | zero =>
    intro j hj hQ
    refine r_iload_n (pc' := 13) dX3_suspectedPair_12 rfl 0 rfl rfl ?_
    refine r_aload_n (pc' := 14) dX3_suspectedPair_13 rfl 1 rfl rfl ?_
    refine r_getI (pc' := 17) dX3_suspectedPair_14 fa_X3_34 hL.o rfl rfl ?_
    refine r_icmp_ge (tgt := 60) (pc' := 20) dX3_suspectedPair_17 rfl rfl (fun h17 => ?_) (fun h17 => ?_)
    · refine r_iconst (pc' := 61) (v := -1) dX3_suspectedPair_60 (by decide) rfl ?_
      exact r_iret dX3_suspectedPair_61 rfl (by decide) (by decide) (hQ)
    · exact absurd ((cl_le2 (by have := cl_b (I L 7); omega)).mpr (by omega)) h17
  | succ m ih =>
    intro j hj hQ
    refine r_iload_n (pc' := 13) dX3_suspectedPair_12 rfl 0 rfl rfl ?_
    refine r_aload_n (pc' := 14) dX3_suspectedPair_13 rfl 1 rfl rfl ?_
    refine r_getI (pc' := 17) dX3_suspectedPair_14 fa_X3_34 hL.o rfl rfl ?_
    refine r_icmp_ge (tgt := 60) (pc' := 20) dX3_suspectedPair_17 rfl rfl (fun h17 => ?_) (fun h17 => ?_)
    · exact absurd ((cl_le2 (by have := cl_b (I L 7); omega)).mp h17) (by omega)
    · refine r_iload_n (pc' := 21) dX3_suspectedPair_20 rfl 0 rfl rfl ?_
      refine r_iconst (pc' := 22) (v := 1) dX3_suspectedPair_21 (by decide) rfl ?_
      refine r_iadd (pc' := 23) dX3_suspectedPair_22 rfl ?_
      refine r_istore_n (pc' := 24) (lv' := [(2, _), (1, _), (0, _)]) dX3_suspectedPair_23 rfl (by decide) rfl rfl ?_
      refine aa_lv (lv' := [(2, .int (nI (j + 1))), (1, .int (nI j)), (0, .ref L)]) (by rw [nI_succ]) (l_X3_spI (Ω := Ω) hL _ (j + 1) (by have := cl_b (I L 7); omega) rfl (fun v hv => ?_) (fun hv y => ?_))
      · rw [spO, hv] at hQ
        exact hQ
      · rw [spO, hv] at hQ
        refine r_iinc (pc' := 57) (lv' := [(1, _), (2, _), (0, _)]) dX3_suspectedPair_54 1 rfl rfl (by decide) rfl rfl ?_
        refine r_goto (tgt := 12) dX3_suspectedPair_57 rfl ?_
        refine aa_locs (ks := [0, 2]) (lv' := [(1, _), (0, _)]) rfl ?_
        exact aa_lv (lv' := [(1, .int (nI (j + 1))), (0, .ref L)]) (by rw [nI_inc]) (ih (j + 1) (by omega) hQ)
set_option maxHeartbeats 2000000 in
theorem c_X3_suspectedPair {Ω : JO} {I : JI} {S : JS} {Q : JQ} {L : Nat} (hL : Is3 S L) (hQ : Q (.inl (some (.int (x3_pair I L)))) (I) S) : Call Ω m_X3_suspectedPair [.ref L] I S Q := by
  refine call_of (by decide +kernel) rfl (Nat.le_of_ble_eq_true rfl) ?_
  change AA Ω m_X3_suspectedPair (FQ Ω m_X3_suspectedPair Q) 0 0 0 [(0, .ref L)] [] I S
  refine r_aload_n (pc' := 1) dX3_suspectedPair_0 rfl 0 rfl rfl ?_
  refine r_callV0 (pc' := 4) (k' := 0) (n' := 0) dX3_suspectedPair_1 mb_X3_firstWrong mi_X3_firstWrong hL.o (by decide) rfl lk_X3_166 rfl rfl rfl (Nat.le_of_ble_eq_true rfl) rfl (c_X3_firstWrong hL (cpI ?_))
  refine r_iconst (pc' := 5) (v := -1) dX3_suspectedPair_4 (by decide) rfl ?_
  refine r_icmp_ne (tgt := 10) (pc' := 8) dX3_suspectedPair_5 rfl rfl (fun h5 => ?_) (fun h5 => ?_)
  · rw [x3_pair, if_neg h5] at hQ
    refine r_iconst (pc' := 11) (v := 0) dX3_suspectedPair_10 (by decide) rfl ?_
    refine r_istore_n (pc' := 12) (lv' := [(1, _), (0, _)]) dX3_suspectedPair_11 rfl (by decide) rfl rfl ?_
    exact l_X3_spO (Ω := Ω) hL _ 0 (Nat.zero_add _) hQ
  · rw [x3_pair, if_pos h5] at hQ
    refine r_iconst (pc' := 9) (v := -1) dX3_suspectedPair_8 (by decide) rfl ?_
    exact r_iret dX3_suspectedPair_9 rfl (by decide) (by decide) (hQ)

def x3_ynd (I : JI) (L : Nat) (c : Int32) : Int32 := if 0 < I (L + 5) 3 then ynF I L c ((I (L + 10) 3).toNatClampNeg % (I (L + 5) 3).toNatClampNeg) ((I (L + 5) 3).toNatClampNeg - (I (L + 10) 3).toNatClampNeg % (I (L + 5) 3).toNatClampNeg) else 0

