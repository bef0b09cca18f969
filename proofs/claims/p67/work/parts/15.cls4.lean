/-! Loom, the rest -/
theorem nI_of0 {x : Int32} (h : 0 ≤ x) : x = nI x.toNatClampNeg := by
  obtain ⟨q, h1, h2⟩ := nI_of (Int32.not_lt.mpr h)
  rw [h2, nI_clamp h1]
set_option maxHeartbeats 2000000 in
theorem l_X3_break {Ω : JO} {I : JI} {S : JS} {Q : JQ} {L s r t : Nat} {z : Int32} (hL : Is3 S L) (hs : Is7 S s) (hr : I s 3 = nI r) (hb : r < 2 ^ 31) (ht : t ≤ r) (hk : AA Ω m_X3_breakWarps (FQ Ω m_X3_breakWarps Q) 0 0 68 [(3, .int (nI r)), (2, .int (brA (I (s + 5)) z (r - t) t)), (0, .ref L), (1, .ref s)] [] I S) : ∀ (m : Nat) (j : Nat), j + m = t → AA Ω m_X3_breakWarps (FQ Ω m_X3_breakWarps Q) 0 0 43 [(3, .int (nI (r - t + j))), (2, .int (brA (I (s + 5)) z (r - t) j)), (0, .ref L), (1, .ref s)] [] I S := by
  intro m
  induction m with
  | zero =>
    intro j hj
    refine r_iload_n (pc' := 44) dX3_breakWarps_43 rfl 0 rfl rfl ?_
    refine r_aload_n (pc' := 45) dX3_breakWarps_44 rfl 3 rfl rfl ?_
    refine r_getI (pc' := 48) dX3_breakWarps_45 fa_X3_85 hs.o rfl rfl ?_
    refine r_icmp_ge (tgt := 68) (pc' := 51) dX3_breakWarps_48 rfl rfl (fun h48 => ?_) (fun h48 => ?_)
    · have e : j = t := by omega
      subst e
      rw [show r - j + j = r by omega]
      exact hk
    · rw [hr] at h48
      exact absurd (nI_le (show r ≤ r - t + j by omega) (by omega)) h48
  | succ m ih =>
    intro j hj
    refine r_iload_n (pc' := 44) dX3_breakWarps_43 rfl 0 rfl rfl ?_
    refine r_aload_n (pc' := 45) dX3_breakWarps_44 rfl 3 rfl rfl ?_
    refine r_getI (pc' := 48) dX3_breakWarps_45 fa_X3_85 hs.o rfl rfl ?_
    refine r_icmp_ge (tgt := 68) (pc' := 51) dX3_breakWarps_48 rfl rfl (fun h48 => ?_) (fun h48 => ?_)
    · rw [hr] at h48
      exact absurd h48 (nI_ge (show r - t + j < r by omega) hb)
    · refine r_iload_n (pc' := 52) dX3_breakWarps_51 rfl 1 rfl rfl ?_
      refine r_aload_n (pc' := 53) dX3_breakWarps_52 rfl 3 rfl rfl ?_
      refine r_getO (pc' := 56) dX3_breakWarps_53 fa_X3_141 hs.o rfl hs.r10 rfl ?_
      refine r_iload_n (pc' := 57) dX3_breakWarps_56 rfl 0 rfl rfl ?_
      refine r_callSN2 (pc' := 60) (k' := 0) (n' := 0) dX3_breakWarps_57 mb_X8_at ms_X8_at ln_X3_74 rfl rfl rfl (Nat.le_of_ble_eq_true rfl) rfl (c_X8_at hs.c10 (by decide) (cpI ?_))
      refine r_iand (pc' := 61) dX3_breakWarps_60 rfl ?_
      refine r_istore_n (pc' := 62) (lv' := [(2, _), (3, _), (0, _), (1, _)]) dX3_breakWarps_61 rfl (by decide) rfl rfl ?_
      refine r_iinc (pc' := 65) (lv' := [(3, _), (2, _), (0, _), (1, _)]) dX3_breakWarps_62 1 rfl rfl (by decide) rfl rfl ?_
      refine r_goto (tgt := 43) dX3_breakWarps_65 rfl ?_
      exact aa_lv (lv' := [(3, .int (nI (r - t + (j + 1)))), (2, .int (brA (I (s + 5)) z (r - t) (j + 1))), (0, .ref L), (1, .ref s)]) (by rw [nI_inc]; rfl) (ih (j + 1) (by omega))
set_option maxHeartbeats 2000000 in
theorem c_X3_breakWarps {Ω : JO} {I : JI} {S : JS} {Q : JQ} {L : Nat} {s : Nat} (hL : Is3 S L) (hs : Is7 S s) (h2 : 0 ≤ I L 2) (h3 : 0 ≤ I s 3) (hQ : Q (.inl none) (x3_break I L s) S) : Call Ω m_X3_breakWarps [.ref L, .ref s] I S Q := by
  refine call_of (by decide +kernel) rfl (Nat.le_of_ble_eq_true rfl) ?_
  change AA Ω m_X3_breakWarps (FQ Ω m_X3_breakWarps Q) 0 0 0 [(0, .ref L), (1, .ref s)] [] I S
  refine r_aload_n (pc' := 1) dX3_breakWarps_0 rfl 0 rfl rfl ?_
  refine r_getI (pc' := 4) dX3_breakWarps_1 fa_X3_18 hL.o rfl rfl ?_
  refine r_if_eq (tgt := 18) (pc' := 7) dX3_breakWarps_4 rfl rfl (fun h4 => ?_) (fun h4 => ?_)
  · rw [x3_break, if_pos (Or.inl h4)] at hQ
    exact r_ret dX3_breakWarps_18 rfl (by decide) (by decide) (hQ)
  · refine r_aload_n (pc' := 8) dX3_breakWarps_7 rfl 1 rfl rfl ?_
    refine r_getI (pc' := 11) dX3_breakWarps_8 fa_X3_85 hs.o rfl rfl ?_
    refine r_aload_n (pc' := 12) dX3_breakWarps_11 rfl 0 rfl rfl ?_
    refine r_getI (pc' := 15) dX3_breakWarps_12 fa_X3_18 hL.o rfl rfl ?_
    refine r_icmp_ge (tgt := 19) (pc' := 18) dX3_breakWarps_15 rfl rfl (fun h15 => ?_) (fun h15 => ?_)
    · rw [x3_break, if_neg (fun q => q.elim h4 (fun q => absurd q (Int32.not_lt.mpr h15)))] at hQ
      refine r_aload_n (pc' := 20) dX3_breakWarps_19 rfl 1 rfl rfl ?_
      refine r_getO (pc' := 23) dX3_breakWarps_20 fa_X3_141 hs.o rfl hs.r10 rfl ?_
      refine r_aload_n (pc' := 24) dX3_breakWarps_23 rfl 1 rfl rfl ?_
      refine r_getI (pc' := 27) dX3_breakWarps_24 fa_X3_85 hs.o rfl rfl ?_
      refine r_iconst (pc' := 28) (v := 1) dX3_breakWarps_27 (by decide) rfl ?_
      refine r_isub (pc' := 29) dX3_breakWarps_28 rfl ?_
      refine r_callSN2 (pc' := 32) (k' := 0) (n' := 0) dX3_breakWarps_29 mb_X8_at ms_X8_at ln_X3_74 rfl rfl rfl (Nat.le_of_ble_eq_true rfl) rfl (c_X8_at hs.c10 (by decide) (cpI ?_))
      refine r_istore_n (pc' := 33) (lv' := [(2, _), (0, _), (1, _)]) dX3_breakWarps_32 rfl (by decide) rfl rfl ?_
      refine r_aload_n (pc' := 34) dX3_breakWarps_33 rfl 2 rfl rfl ?_
      refine r_getI (pc' := 37) dX3_breakWarps_34 fa_X3_85 hs.o rfl rfl ?_
      refine r_aload_n (pc' := 38) dX3_breakWarps_37 rfl 1 rfl rfl ?_
      refine r_getI (pc' := 41) dX3_breakWarps_38 fa_X3_18 hL.o rfl rfl ?_
      refine r_isub (pc' := 42) dX3_breakWarps_41 rfl ?_
      refine r_istore_n (pc' := 43) (lv' := [(3, _), (2, _), (0, _), (1, _)]) dX3_breakWarps_42 rfl (by decide) rfl rfl ?_
      have e2 := nI_of0 h2
      have e3 := nI_of0 h3
      have hle : (I L 2).toNatClampNeg ≤ (I s 3).toNatClampNeg := by
        rw [e2, e3] at h15
        exact (nI_leI (cl_b _) (cl_b _)).mp h15
      have e4 : I s 3 - I L 2 = nI ((I s 3).toNatClampNeg - (I L 2).toNatClampNeg) := by rw [← pk_sub hle, ← e2, ← e3]
      refine aa_lv (lv' := [(3, .int (nI ((I s 3).toNatClampNeg - (I L 2).toNatClampNeg + 0))), (2, .int (brA (I (s + 5)) (atF (I (s + 5)) 60 (I s 3 - 1)) ((I s 3).toNatClampNeg - (I L 2).toNatClampNeg) 0)), (0, .ref L), (1, .ref s)]) (by rw [e4]; rfl) ?_
      refine l_X3_break (Ω := Ω) (z := atF (I (s + 5)) 60 (I s 3 - 1)) hL hs e3 (cl_b _) hle ?_ _ 0 (Nat.zero_add _)
      change Q (.inl none) (if x3_strained I L s = 0 then I else stI (stI I s 2 (I s 2 ||| x3_strained I L s)) s 5 1) S at hQ
      change AA Ω m_X3_breakWarps (FQ Ω m_X3_breakWarps Q) 0 0 68 [(3, .int (nI (I s 3).toNatClampNeg)), (2, .int (x3_strained I L s)), (0, .ref L), (1, .ref s)] [] I S
      refine r_iload_n (pc' := 69) dX3_breakWarps_68 rfl 1 rfl rfl ?_
      refine r_if_eq (tgt := 87) (pc' := 72) dX3_breakWarps_69 rfl rfl (fun h69 => ?_) (fun h69 => ?_)
      · rw [if_pos h69] at hQ
        exact r_ret dX3_breakWarps_87 rfl (by decide) (by decide) (hQ)
      · rw [if_neg h69] at hQ
        refine r_aload_n (pc' := 73) dX3_breakWarps_72 rfl 3 rfl rfl ?_
        refine r_dup (pc' := 74) dX3_breakWarps_73 rfl rfl ?_
        refine r_getI (pc' := 77) dX3_breakWarps_74 fa_X3_122 hs.o rfl rfl ?_
        refine r_iload_n (pc' := 78) dX3_breakWarps_77 rfl 1 rfl rfl ?_
        refine r_ior (pc' := 79) dX3_breakWarps_78 rfl ?_
        refine r_putI (pc' := 82) dX3_breakWarps_79 fa_X3_122 hs.o rfl rfl ?_
        refine r_aload_n (pc' := 83) dX3_breakWarps_82 rfl 3 rfl rfl ?_
        refine r_iconst (pc' := 84) (v := 1) dX3_breakWarps_83 (by decide) rfl ?_
        refine r_putZ (pc' := 87) dX3_breakWarps_84 fa_X3_137 hs.o rfl (by decide) rfl ?_
        exact r_ret dX3_breakWarps_87 rfl (by decide) (by decide) (hQ)
    · rw [x3_break, if_pos (Or.inr (Int32.not_le.mp h15))] at hQ
      exact r_ret dX3_breakWarps_18 rfl (by decide) (by decide) (hQ)
/-- what weaving needs of the numbers that it reads as counts -/
def WvOk (I : JI) (L s : Nat) : Prop := 0 ≤ I L 0 ∧ 0 ≤ I L 2 ∧ ∃ r : Nat, r ≤ 60 ∧ I s 3 = nI r
theorem mvB_o {I : JI} {L s b : Nat} {mv : Int32} {j : Nat} (h1 : b ≠ s) (h2 : b ≠ s + 1) : mvB I L s mv j b = I b := by
  unfold mvB
  by_cases q : hasB mv (nI j) = true
  · rw [if_pos q]
    try dsimp only
    split
    · rw [stI_ne h1, stI_ne h1, ptI_ne h2]
    · rw [ptI_ne h2]
  · rw [if_neg q]
theorem mvI_o {L s b : Nat} {mv : Int32} (h1 : b ≠ s) (h2 : b ≠ s + 1) : ∀ (m j : Nat) (I : JI), mvI L s mv m j I b = I b
  | 0, _, _ => rfl
  | m + 1, j, I => by rw [mvI, mvI_o h1 h2 m (j + 1), mvB_o h1 h2]
theorem mvB_s {I : JI} {L s : Nat} {mv : Int32} {j k : Nat} (h1 : k ≠ 1) (h2 : k ≠ 5) : mvB I L s mv j s k = I s k := by
  unfold mvB
  by_cases q : hasB mv (nI j) = true
  · rw [if_pos q]
    try dsimp only
    split
    · simp only [stI, h1, h2, if_true, if_false]
      rw [ptI_ne (by omega)]
    · rw [ptI_ne (by omega)]
  · rw [if_neg q]
theorem mvI_s {L s : Nat} {mv : Int32} {k : Nat} (h1 : k ≠ 1) (h2 : k ≠ 5) : ∀ (m j : Nat) (I : JI), mvI L s mv m j I s k = I s k
  | 0, _, _ => rfl
  | m + 1, j, I => by rw [mvI, mvI_s h1 h2 m (j + 1), mvB_s h1 h2]
theorem x3_move_o {I : JI} {L s b : Nat} {l : Int32} (h1 : b ≠ s) (h2 : b ≠ s + 1) : x3_move I L s l b = I b := by
  unfold x3_move
  rw [mvI_o h1 h2, stI_ne h1]
theorem x3_break_o {I : JI} {L s b : Nat} (h1 : b ≠ s) : x3_break I L s b = I b := by
  unfold x3_break
  split
  · rfl
  · split
    · rfl
    · rw [stI_ne h1, stI_ne h1]
theorem x7_addYarn_o {I : JI} {s b : Nat} {c a : Int32} (h : b ≠ s + 2) : x7_addYarn I s c a b = I b := ptI_ne h
theorem x7_addRow_o {I : JI} {s b : Nat} {c a : Int32} (h1 : b ≠ s) (h2 : b ≠ s + 5) (h3 : b ≠ s + 6) : x7_addRow I s c a b = I b := by
  unfold x7_addRow
  try dsimp only
  rw [stI_ne h1, ptI_ne h3, ptI_ne h2]
theorem x3_weaveNext_o {I : JI} {L s b : Nat} (h : b < s ∨ s + 6 < b) : x3_weaveNext I L s b = I b := by
  unfold x3_weaveNext
  try dsimp only
  rw [x3_break_o (by omega), x7_addRow_o (by omega) (by omega) (by omega), x3_move_o (by omega) (by omega), x7_addYarn_o (by omega)]
theorem x3_break_3 {I : JI} {L s : Nat} : x3_break I L s s 3 = I s 3 := by
  unfold x3_break
  split
  · rfl
  · split
    · rfl
    · simp [stI]
theorem x7_addRow_3 {I : JI} {s : Nat} {c a : Int32} : x7_addRow I s c a s 3 = I s 3 + 1 := by
  unfold x7_addRow
  try dsimp only
  rw [show ∀ (J : JI) (v : Int32), stI J s 3 v s 3 = v from fun J v => by simp [stI], ptI_ne (by omega), ptI_ne (by omega)]
theorem x3_move_s {I : JI} {L s k : Nat} {l : Int32} (h0 : k ≠ 0) (h1 : k ≠ 1) (h5 : k ≠ 5) : x3_move I L s l s k = I s k := by
  unfold x3_move
  rw [mvI_s h1 h5]
  simp [stI, h0]
theorem x3_weaveNext_3 {I : JI} {L s : Nat} : x3_weaveNext I L s s 3 = I s 3 + 1 := by
  unfold x3_weaveNext
  try dsimp only
  rw [x3_break_3, x7_addRow_3, x3_move_s (by decide) (by decide) (by decide), x7_addYarn_o (by omega)]
theorem obst_rows {I : JI} {L s : Nat} (h : x3_obst I L s = 0) : ¬ 60 ≤ I s 3 := by
  intro q
  unfold x3_obst at h
  split at h
  · exact absurd h (by decide)
  · first | (rw [if_pos q] at h; exact absurd h (by decide)) | exact absurd h (by decide)
theorem WvOk.next {I : JI} {L s : Nat} (h : WvOk I L s) (hLs : L < s) (ho : x3_obst I L s = 0) : WvOk (x3_weaveNext I L s) L s := by
  obtain ⟨h1, h2, r, h3, h4⟩ := h
  refine ⟨by rw [x3_weaveNext_o (Or.inl hLs)]; exact h1, by rw [x3_weaveNext_o (Or.inl hLs)]; exact h2, r + 1, ?_, ?_⟩
  · have h5 := obst_rows ho
    rw [h4] at h5
    have : ¬ 60 ≤ r := fun q => h5 (nI_le (a := 60) q (by omega))
    omega
  · rw [x3_weaveNext_3, h4, nI_succ]
set_option maxHeartbeats 2000000 in
theorem c_X3_weaveNext {Ω : JO} {I : JI} {S : JS} {Q : JQ} {L : Nat} {s : Nat} (hL : Is3 S L) (hs : Is7 S s) (hLs : L < s) (hw : WvOk I L s) (hQ : Q (.inl none) (x3_weaveNext I L s) S) : Call Ω m_X3_weaveNext [.ref L, .ref s] I S Q := by
  refine call_of (by decide +kernel) rfl (Nat.le_of_ble_eq_true rfl) ?_
  change AA Ω m_X3_weaveNext (FQ Ω m_X3_weaveNext Q) 0 0 0 [(0, .ref L), (1, .ref s)] [] I S
  refine r_aload_n (pc' := 1) dX3_weaveNext_0 rfl 0 rfl rfl ?_
  refine r_getO (pc' := 4) dX3_weaveNext_1 fa_X3_46 hL.o rfl hL.r10 rfl ?_
  refine r_aload_n (pc' := 5) dX3_weaveNext_4 rfl 1 rfl rfl ?_
  refine r_getI (pc' := 8) dX3_weaveNext_5 fa_X3_85 hs.o rfl rfl ?_
  refine r_callV1 (pc' := 11) (k' := 0) (n' := 0) dX3_weaveNext_8 mb_X0_cardForRow mi_X0_cardForRow hL.c10.o (by decide) rfl lk_X3_88 rfl rfl rfl (Nat.le_of_ble_eq_true rfl) rfl (c_X0_cardForRow hL.c10 (cpI ?_))
  refine r_istore_n (pc' := 12) (lv' := [(2, _), (0, _), (1, _)]) dX3_weaveNext_11 rfl (by decide) rfl rfl ?_
  refine r_aload_n (pc' := 13) dX3_weaveNext_12 rfl 2 rfl rfl ?_
  refine r_getO (pc' := 16) dX3_weaveNext_13 fa_X3_71 hs.o rfl hs.r9 rfl ?_
  refine r_iload_n (pc' := 17) dX3_weaveNext_16 rfl 0 rfl rfl ?_
  refine r_callSN2 (pc' := 20) (k' := 0) (n' := 0) dX3_weaveNext_17 mb_X8_at ms_X8_at ln_X3_74 rfl rfl rfl (Nat.le_of_ble_eq_true rfl) rfl (c_X8_at hs.c9 (by decide) (cpI ?_))
  refine r_istore_n (pc' := 21) (lv' := [(3, _), (2, _), (0, _), (1, _)]) dX3_weaveNext_20 rfl (by decide) rfl rfl ?_
  refine r_aload_n (pc' := 22) dX3_weaveNext_21 rfl 3 rfl rfl ?_
  refine r_iload_n (pc' := 23) dX3_weaveNext_22 rfl 0 rfl rfl ?_
  refine r_aload_n (pc' := 24) dX3_weaveNext_23 rfl 2 rfl rfl ?_
  refine r_getI (pc' := 27) dX3_weaveNext_24 fa_X3_24 hL.o rfl rfl ?_
  refine r_ineg (pc' := 28) dX3_weaveNext_27 rfl ?_
  refine r_callV2 (pc' := 31) (k' := 0) (n' := 0) dX3_weaveNext_28 mb_X7_addYarn mi_X7_addYarn hs.o (by decide) rfl lk_X3_111 rfl rfl rfl (Nat.le_of_ble_eq_true rfl) rfl (c_X7_addYarn hs (cpV ?_))
  refine r_aload_n (pc' := 32) dX3_weaveNext_31 rfl 2 rfl rfl ?_
  refine r_aload_n (pc' := 33) dX3_weaveNext_32 rfl 3 rfl rfl ?_
  refine r_aload_n (pc' := 34) dX3_weaveNext_33 rfl 3 rfl rfl ?_
  refine r_getO (pc' := 37) dX3_weaveNext_34 fa_X3_68 hs.o rfl hs.r8 rfl ?_
  refine r_iload_n (pc' := 38) dX3_weaveNext_37 rfl 1 rfl rfl ?_
  refine r_callSN2 (pc' := 41) (k' := 0) (n' := 0) dX3_weaveNext_38 mb_X8_at ms_X8_at ln_X3_74 rfl rfl rfl (Nat.le_of_ble_eq_true rfl) rfl (c_X8_at hs.c8 (by decide) (cpI ?_))
  refine r_callV2 (pc' := 44) (k' := 0) (n' := 0) dX3_weaveNext_41 mb_X3_moveHarnesses mi_X3_moveHarnesses hL.o (by decide) rfl lk_X3_115 rfl rfl rfl (Nat.le_of_ble_eq_true rfl) rfl (c_X3_moveHarnesses hL hs hLs (by rw [x7_addYarn_o (by omega)]; exact hw.1) (cpV ?_))
  refine r_aload_n (pc' := 45) dX3_weaveNext_44 rfl 3 rfl rfl ?_
  refine r_aload_n (pc' := 46) dX3_weaveNext_45 rfl 2 rfl rfl ?_
  refine r_aload_n (pc' := 47) dX3_weaveNext_46 rfl 3 rfl rfl ?_
  refine r_getI (pc' := 50) dX3_weaveNext_47 fa_X3_119 hs.o rfl rfl ?_
  refine r_callV1 (pc' := 53) (k' := 0) (n' := 0) dX3_weaveNext_50 mb_X3_warpsOfHarnesses mi_X3_warpsOfHarnesses hL.o (by decide) rfl lk_X3_95 rfl rfl rfl (Nat.le_of_ble_eq_true rfl) rfl (c_X3_warpsOfHarnesses hL (cpI ?_))
  refine r_aload_n (pc' := 54) dX3_weaveNext_53 rfl 3 rfl rfl ?_
  refine r_getI (pc' := 57) dX3_weaveNext_54 fa_X3_122 hs.o rfl rfl ?_
  refine r_iconst (pc' := 58) (v := -1) dX3_weaveNext_57 (by decide) rfl ?_
  refine r_ixor (pc' := 59) dX3_weaveNext_58 rfl ?_
  refine r_iand (pc' := 60) dX3_weaveNext_59 rfl ?_
  refine r_iload_n (pc' := 61) dX3_weaveNext_60 rfl 0 rfl rfl ?_
  refine r_callV2 (pc' := 64) (k' := 0) (n' := 0) dX3_weaveNext_61 mb_X7_addRow mi_X7_addRow hs.o (by decide) rfl lk_X3_125 rfl rfl rfl (Nat.le_of_ble_eq_true rfl) rfl (c_X7_addRow hs (cpV ?_))
  refine r_aload_n (pc' := 65) dX3_weaveNext_64 rfl 2 rfl rfl ?_
  refine r_aload_n (pc' := 66) dX3_weaveNext_65 rfl 3 rfl rfl ?_
  refine r_callV1 (pc' := 69) (k' := 0) (n' := 0) dX3_weaveNext_66 mb_X3_breakWarps mi_X3_breakWarps hL.o (by decide) rfl lk_X3_128 rfl rfl rfl (Nat.le_of_ble_eq_true rfl) rfl (c_X3_breakWarps hL hs (by rw [x7_addRow_o (by omega) (by omega) (by omega), x3_move_o (by omega) (by omega), x7_addYarn_o (by omega)]; exact hw.2.1) (by rw [x7_addRow_3, x3_move_s (by decide) (by decide) (by decide), x7_addYarn_o (by omega)]; obtain ⟨-, -, r, hr, e⟩ := hw; rw [e, ← nI_succ]; exact nI_pos' (by omega)) (cpV ?_))
  exact r_ret dX3_weaveNext_69 rfl (by decide) (by decide) (hQ)
set_option maxHeartbeats 2000000 in
theorem l_X3_weaveUpTo {Ω : JO} {S : JS} {Q : JQ} {L s : Nat} {z : Int32} (hL : Is3 S L) (hs : Is7 S s) (hLs : L < s) : ∀ (m : Nat) (j : Nat) (I : JI), j + m = z.toNatClampNeg → WvOk I L s → Q (.inl (some (.int (nI (j + wuN L s m I))))) (wuI L s m I) S → AA Ω m_X3_weaveUpTo (FQ Ω m_X3_weaveUpTo Q) 0 0 2 [(3, .int (nI j)), (0, .ref L), (1, .ref s), (2, .int z)] [] I S := by
  intro m
  induction m with
  | zero =>
    intro j I hj hw hQ
    refine r_iload_n (pc' := 3) dX3_weaveUpTo_2 rfl 0 rfl rfl ?_
    refine r_iload_n (pc' := 4) dX3_weaveUpTo_3 rfl 3 rfl rfl ?_
    refine r_icmp_ge (tgt := 26) (pc' := 7) dX3_weaveUpTo_4 rfl rfl (fun h4 => ?_) (fun h4 => ?_)
    · refine r_iload_n (pc' := 27) dX3_weaveUpTo_26 rfl 0 rfl rfl ?_
      exact r_iret dX3_weaveUpTo_27 rfl (by decide) (by decide) (hQ)
    · exact absurd ((cl_le2 (by have := cl_b z; omega)).mpr (by omega)) h4
  | succ m ih =>
    intro j I hj hw hQ
    refine r_iload_n (pc' := 3) dX3_weaveUpTo_2 rfl 0 rfl rfl ?_
    refine r_iload_n (pc' := 4) dX3_weaveUpTo_3 rfl 3 rfl rfl ?_
    refine r_icmp_ge (tgt := 26) (pc' := 7) dX3_weaveUpTo_4 rfl rfl (fun h4 => ?_) (fun h4 => ?_)
    · exact absurd ((cl_le2 (by have := cl_b z; omega)).mp h4) (by omega)
    · refine r_aload_n (pc' := 8) dX3_weaveUpTo_7 rfl 1 rfl rfl ?_
      refine r_aload_n (pc' := 9) dX3_weaveUpTo_8 rfl 2 rfl rfl ?_
      refine r_callV1 (pc' := 12) (k' := 0) (n' := 0) dX3_weaveUpTo_9 mb_X3_obstacle mi_X3_obstacle hL.o (by decide) rfl lk_X3_103 rfl rfl rfl (Nat.le_of_ble_eq_true rfl) rfl (c_X3_obstacle hL hs (cpI ?_))
      refine r_if_ne (tgt := 26) (pc' := 15) dX3_weaveUpTo_12 rfl rfl (fun h12 => ?_) (fun h12 => ?_)
      · rw [wuN, wuI, if_neg h12, if_neg h12] at hQ
        refine r_iload_n (pc' := 27) dX3_weaveUpTo_26 rfl 0 rfl rfl ?_
        exact r_iret dX3_weaveUpTo_27 rfl (by decide) (by decide) (hQ)
      · rw [wuN, wuI, if_pos h12, if_pos h12] at hQ
        refine r_aload_n (pc' := 16) dX3_weaveUpTo_15 rfl 1 rfl rfl ?_
        refine r_aload_n (pc' := 17) dX3_weaveUpTo_16 rfl 2 rfl rfl ?_
        refine r_callV1 (pc' := 20) (k' := 0) (n' := 0) dX3_weaveUpTo_17 mb_X3_weaveNext mi_X3_weaveNext hL.o (by decide) rfl lk_X3_107 rfl rfl rfl (Nat.le_of_ble_eq_true rfl) rfl (c_X3_weaveNext hL hs hLs hw (cpV ?_))
        refine r_iinc (pc' := 23) (lv' := [(3, _), (0, _), (1, _), (2, _)]) dX3_weaveUpTo_20 0 rfl rfl (by decide) rfl rfl ?_
        refine r_goto (tgt := 2) dX3_weaveUpTo_23 rfl ?_
        exact aa_lv (lv' := [(3, .int (nI (j + 1))), (0, .ref L), (1, .ref s), (2, .int z)]) (by rw [nI_inc]) (ih (j + 1) _ (by omega) (hw.next hLs h12) (by rw [show j + 1 + wuN L s m (x3_weaveNext I L s) = j + (wuN L s m (x3_weaveNext I L s) + 1) by omega]; exact hQ))
set_option maxHeartbeats 2000000 in
theorem c_X3_weaveUpTo {Ω : JO} {I : JI} {S : JS} {Q : JQ} {L : Nat} {s : Nat} {z : Int32} (hL : Is3 S L) (hs : Is7 S s) (hLs : L < s) (hw : WvOk I L s) (hQ : Q (.inl (some (.int (nI (wuN L s z.toNatClampNeg I))))) (wuI L s z.toNatClampNeg I) S) : Call Ω m_X3_weaveUpTo [.ref L, .ref s, .int z] I S Q := by
  refine call_of (by decide +kernel) rfl (Nat.le_of_ble_eq_true rfl) ?_
  change AA Ω m_X3_weaveUpTo (FQ Ω m_X3_weaveUpTo Q) 0 0 0 [(0, .ref L), (1, .ref s), (2, .int z)] [] I S
  refine r_iconst (pc' := 1) (v := 0) dX3_weaveUpTo_0 (by decide) rfl ?_
  refine r_istore_n (pc' := 2) (lv' := [(3, _), (0, _), (1, _), (2, _)]) dX3_weaveUpTo_1 rfl (by decide) rfl rfl ?_
  exact l_X3_weaveUpTo (Ω := Ω) hL hs hLs _ 0 I (Nat.zero_add _) hw (by rw [Nat.zero_add]; exact hQ)
set_option maxHeartbeats 2000000 in
theorem l_X3_removeRows {Ω : JO} {S : JS} {Q : JQ} {L : Nat} {z : Int32} (hL : Is3 S L) : ∀ (m : Nat) (j : Nat) (I : JI), j + m = z.toNatClampNeg → Q (.inl none) (rmI L m I) S → AA Ω m_X3_removeRows (FQ Ω m_X3_removeRows Q) 0 0 2 [(2, .int (nI j)), (0, .ref L), (1, .int z)] [] I S := by
  intro m
  induction m with
  | zero =>
    intro j I hj hQ
    refine r_iload_n (pc' := 3) dX3_removeRows_2 rfl 0 rfl rfl ?_
    refine r_iload_n (pc' := 4) dX3_removeRows_3 rfl 2 rfl rfl ?_
    refine r_icmp_ge (tgt := 64) (pc' := 7) dX3_removeRows_4 rfl rfl (fun h4 => ?_) (fun h4 => ?_)
    · exact r_ret dX3_removeRows_64 rfl (by decide) (by decide) (hQ)
    · exact absurd ((cl_le2 (by have := cl_b z; omega)).mpr (by omega)) h4
  | succ m ih =>
    intro j I hj hQ
    refine r_iload_n (pc' := 3) dX3_removeRows_2 rfl 0 rfl rfl ?_
    refine r_iload_n (pc' := 4) dX3_removeRows_3 rfl 2 rfl rfl ?_
    refine r_icmp_ge (tgt := 64) (pc' := 7) dX3_removeRows_4 rfl rfl (fun h4 => ?_) (fun h4 => ?_)
    · exact absurd ((cl_le2 (by have := cl_b z; omega)).mp h4) (by omega)
    · refine r_aload_n (pc' := 8) dX3_removeRows_7 rfl 1 rfl rfl ?_
      refine r_getO (pc' := 11) dX3_removeRows_8 fa_X3_53 hL.o rfl hL.r11 rfl ?_
      refine r_getI (pc' := 14) dX3_removeRows_11 fa_X3_85 hL.c11.o rfl rfl ?_
      refine r_if_le (tgt := 64) (pc' := 17) dX3_removeRows_14 rfl rfl (fun h14 => ?_) (fun h14 => ?_)
      · rw [rmI, if_neg (Int32.not_lt.mpr h14)] at hQ
        exact r_ret dX3_removeRows_64 rfl (by decide) (by decide) (hQ)
      · rw [rmI, if_pos (Int32.not_le.mp h14)] at hQ
        refine r_aload_n (pc' := 18) dX3_removeRows_17 rfl 1 rfl rfl ?_
        refine r_getO (pc' := 21) dX3_removeRows_18 fa_X3_53 hL.o rfl hL.r11 rfl ?_
        refine r_dup (pc' := 22) dX3_removeRows_21 rfl rfl ?_
        refine r_getI (pc' := 25) dX3_removeRows_22 fa_X3_85 hL.c11.o rfl rfl ?_
        refine r_iconst (pc' := 26) (v := 1) dX3_removeRows_25 (by decide) rfl ?_
        refine r_isub (pc' := 27) dX3_removeRows_26 rfl ?_
        refine r_putI (pc' := 30) dX3_removeRows_27 fa_X3_85 hL.c11.o rfl rfl ?_
        refine r_aload_n (pc' := 31) dX3_removeRows_30 rfl 1 rfl rfl ?_
        refine r_getO (pc' := 34) dX3_removeRows_31 fa_X3_53 hL.o rfl hL.r11 rfl ?_
        refine r_aload_n (pc' := 35) dX3_removeRows_34 rfl 1 rfl rfl ?_
        refine r_getO (pc' := 38) dX3_removeRows_35 fa_X3_53 hL.o rfl hL.r11 rfl ?_
        refine r_getO (pc' := 41) dX3_removeRows_38 fa_X3_144 hL.c11.o rfl hL.c11.r11 rfl ?_
        refine r_aload_n (pc' := 42) dX3_removeRows_41 rfl 1 rfl rfl ?_
        refine r_getO (pc' := 45) dX3_removeRows_42 fa_X3_53 hL.o rfl hL.r11 rfl ?_
        refine r_getI (pc' := 48) dX3_removeRows_45 fa_X3_85 hL.c11.o rfl rfl ?_
        refine r_callSN2 (pc' := 51) (k' := 0) (n' := 0) dX3_removeRows_48 mb_X8_at ms_X8_at ln_X3_74 rfl rfl rfl (Nat.le_of_ble_eq_true rfl) rfl (c_X8_at hL.c11.c11 (by decide) (cpI ?_))
        refine r_aload_n (pc' := 52) dX3_removeRows_51 rfl 1 rfl rfl ?_
        refine r_getI (pc' := 55) dX3_removeRows_52 fa_X3_24 hL.o rfl rfl ?_
        refine r_callV2 (pc' := 58) (k' := 0) (n' := 0) dX3_removeRows_55 mb_X7_addYarn mi_X7_addYarn hL.c11.o (by decide) rfl lk_X3_111 rfl rfl rfl (Nat.le_of_ble_eq_true rfl) rfl (c_X7_addYarn hL.c11 (cpV ?_))
        refine r_iinc (pc' := 61) (lv' := [(2, _), (0, _), (1, _)]) dX3_removeRows_58 0 rfl rfl (by decide) rfl rfl ?_
        refine r_goto (tgt := 2) dX3_removeRows_61 rfl ?_
        exact aa_lv (lv' := [(2, .int (nI (j + 1))), (0, .ref L), (1, .int z)]) (by rw [nI_inc]) (ih (j + 1) _ (by omega) hQ)
set_option maxHeartbeats 2000000 in
theorem c_X3_removeRows {Ω : JO} {I : JI} {S : JS} {Q : JQ} {L : Nat} {z : Int32} (hL : Is3 S L) (hQ : Q (.inl none) (rmI L z.toNatClampNeg I) S) : Call Ω m_X3_removeRows [.ref L, .int z] I S Q := by
  refine call_of (by decide +kernel) rfl (Nat.le_of_ble_eq_true rfl) ?_
  change AA Ω m_X3_removeRows (FQ Ω m_X3_removeRows Q) 0 0 0 [(0, .ref L), (1, .int z)] [] I S
  refine r_iconst (pc' := 1) (v := 0) dX3_removeRows_0 (by decide) rfl ?_
  refine r_istore_n (pc' := 2) (lv' := [(2, _), (0, _), (1, _)]) dX3_removeRows_1 rfl (by decide) rfl rfl ?_
  exact l_X3_removeRows (Ω := Ω) hL _ 0 I (Nat.zero_add _) hQ
set_option maxHeartbeats 2000000 in
theorem c_X3_cellCount {Ω : JO} {I : JI} {S : JS} {Q : JQ} {L : Nat} (hL : Is3 S L) (hQ : Q (.inl (some (.int (I (L + 10) 3 * I L 4)))) (I) S) : Call Ω m_X3_cellCount [.ref L] I S Q := by
  refine call_of (by decide +kernel) rfl (Nat.le_of_ble_eq_true rfl) ?_
  change AA Ω m_X3_cellCount (FQ Ω m_X3_cellCount Q) 0 0 0 [(0, .ref L)] [] I S
  refine r_aload_n (pc' := 1) dX3_cellCount_0 rfl 0 rfl rfl ?_
  refine r_getO (pc' := 4) dX3_cellCount_1 fa_X3_53 hL.o rfl hL.r11 rfl ?_
  refine r_getI (pc' := 7) dX3_cellCount_4 fa_X3_85 hL.c11.o rfl rfl ?_
  refine r_aload_n (pc' := 8) dX3_cellCount_7 rfl 0 rfl rfl ?_
  refine r_getI (pc' := 11) dX3_cellCount_8 fa_X3_24 hL.o rfl rfl ?_
  refine r_imul (pc' := 12) dX3_cellCount_11 rfl ?_
  exact r_iret dX3_cellCount_12 rfl (by decide) (by decide) (hQ)
set_option maxHeartbeats 2000000 in
theorem c_X3_colourOfCell {Ω : JO} {I : JI} {S : JS} {Q : JQ} {L : Nat} {r v : Int32} (hL : Is3 S L) (hQ : Q (.inl (some (.int (x3_cell I L r v)))) (I) S) : Call Ω m_X3_colourOfCell [.ref L, .int r, .int v] I S Q := by
  refine call_of (by decide +kernel) rfl (Nat.le_of_ble_eq_true rfl) ?_
  change AA Ω m_X3_colourOfCell (FQ Ω m_X3_colourOfCell Q) 0 0 0 [(0, .ref L), (1, .int r), (2, .int v)] [] I S
  refine r_aload_n (pc' := 1) dX3_colourOfCell_0 rfl 0 rfl rfl ?_
  refine r_getO (pc' := 4) dX3_colourOfCell_1 fa_X3_53 hL.o rfl hL.r11 rfl ?_
  refine r_getO (pc' := 7) dX3_colourOfCell_4 fa_X3_141 hL.c11.o rfl hL.c11.r10 rfl ?_
  refine r_iload_n (pc' := 8) dX3_colourOfCell_7 rfl 1 rfl rfl ?_
  refine r_callSN2 (pc' := 11) (k' := 0) (n' := 0) dX3_colourOfCell_8 mb_X8_at ms_X8_at ln_X3_74 rfl rfl rfl (Nat.le_of_ble_eq_true rfl) rfl (c_X8_at hL.c11.c10 (by decide) (cpI ?_))
  refine r_iload_n (pc' := 12) dX3_colourOfCell_11 rfl 2 rfl rfl ?_
  refine r_callSN2 (pc' := 15) (k' := 0) (n' := 0) dX3_colourOfCell_12 mb_X8_has ms_X8_has ln_X3_78 rfl rfl rfl (Nat.le_of_ble_eq_true rfl) rfl (c_X8_has (cpI ?_))
  refine r_if_eq (tgt := 29) (pc' := 18) dX3_colourOfCell_15 rfl rfl (fun h15 => ?_) (fun h15 => ?_)
  · rw [x3_cell, if_neg (by rw [zb0 h15]; decide)] at hQ
    refine r_aload_n (pc' := 30) dX3_colourOfCell_29 rfl 0 rfl rfl ?_
    refine r_getO (pc' := 33) dX3_colourOfCell_30 fa_X3_53 hL.o rfl hL.r11 rfl ?_
    refine r_getO (pc' := 36) dX3_colourOfCell_33 fa_X3_144 hL.c11.o rfl hL.c11.r11 rfl ?_
    refine r_iload_n (pc' := 37) dX3_colourOfCell_36 rfl 1 rfl rfl ?_
    refine r_callSN2 (pc' := 40) (k' := 0) (n' := 0) dX3_colourOfCell_37 mb_X8_at ms_X8_at ln_X3_74 rfl rfl rfl (Nat.le_of_ble_eq_true rfl) rfl (c_X8_at hL.c11.c11 (by decide) (cpI ?_))
    exact r_iret dX3_colourOfCell_40 rfl (by decide) (by decide) (hQ)
  · rw [x3_cell, if_pos (zb1 h15)] at hQ
    refine r_aload_n (pc' := 19) dX3_colourOfCell_18 rfl 0 rfl rfl ?_
    refine r_getO (pc' := 22) dX3_colourOfCell_19 fa_X3_31 hL.o rfl hL.r6 rfl ?_
    refine r_iload_n (pc' := 23) dX3_colourOfCell_22 rfl 2 rfl rfl ?_
    refine r_callSN2 (pc' := 26) (k' := 0) (n' := 0) dX3_colourOfCell_23 mb_X8_at ms_X8_at ln_X3_74 rfl rfl rfl (Nat.le_of_ble_eq_true rfl) rfl (c_X8_at hL.c6 (by decide) (cpI ?_))
    refine r_goto (tgt := 40) dX3_colourOfCell_26 rfl ?_
    exact r_iret dX3_colourOfCell_40 rfl (by decide) (by decide) (hQ)


set_option maxHeartbeats 2000000 in
theorem l_X3_countCellsW {Ω : JO} {I : JI} {S : JS} {Q : JQ} {L : Nat} {c r z : Int32} (hL : Is3 S L) (hk : AA Ω m_X3_countCells (FQ Ω m_X3_countCells Q) 0 0 47 [(4, .int (nI (I L 4).toNatClampNeg)), (2, .int (ccW I L c r z (I L 4).toNatClampNeg)), (3, .int r), (0, .ref L), (1, .int c)] [] I S) : ∀ (m : Nat) (j : Nat), j + m = (I L 4).toNatClampNeg → AA Ω m_X3_countCells (FQ Ω m_X3_countCells Q) 0 0 18 [(4, .int (nI j)), (2, .int (ccW I L c r z j)), (3, .int r), (0, .ref L), (1, .int c)] [] I S := by
  intro m
  induction m with
  | zero =>
    intro j hj
    refine r_iload (pc' := 20) dX3_countCells_18 0 rfl rfl ?_
    refine r_aload_n (pc' := 21) dX3_countCells_20 rfl 3 rfl rfl ?_
    refine r_getI (pc' := 24) dX3_countCells_21 fa_X3_24 hL.o rfl rfl ?_
    refine r_icmp_ge (tgt := 47) (pc' := 27) dX3_countCells_24 rfl rfl (fun h24 => ?_) (fun h24 => ?_)
    · have e : j = (I L 4).toNatClampNeg := by omega
      rw [e]
      exact hk
    · exact absurd ((cl_le2 (by have := cl_b (I L 4); omega)).mpr (by omega)) h24
  | succ m ih =>
    intro j hj
    refine r_iload (pc' := 20) dX3_countCells_18 0 rfl rfl ?_
    refine r_aload_n (pc' := 21) dX3_countCells_20 rfl 3 rfl rfl ?_
    refine r_getI (pc' := 24) dX3_countCells_21 fa_X3_24 hL.o rfl rfl ?_
    refine r_icmp_ge (tgt := 47) (pc' := 27) dX3_countCells_24 rfl rfl (fun h24 => ?_) (fun h24 => ?_)
    · exact absurd ((cl_le2 (by have := cl_b (I L 4); omega)).mp h24) (by omega)
    · refine r_aload_n (pc' := 28) dX3_countCells_27 rfl 3 rfl rfl ?_
      refine r_iload_n (pc' := 29) dX3_countCells_28 rfl 2 rfl rfl ?_
      refine r_iload (pc' := 31) dX3_countCells_29 0 rfl rfl ?_
      refine r_callV2 (pc' := 34) (k' := 0) (n' := 0) dX3_countCells_31 mb_X3_colourOfCell mi_X3_colourOfCell hL.o (by decide) rfl lk_X3_147 rfl rfl rfl (Nat.le_of_ble_eq_true rfl) rfl (c_X3_colourOfCell hL (cpI ?_))
      refine r_iload_n (pc' := 35) dX3_countCells_34 rfl 4 rfl rfl ?_
      refine r_icmp_ne (tgt := 41) (pc' := 38) dX3_countCells_35 rfl rfl (fun h35 => ?_) (fun h35 => ?_)
      · refine r_iinc (pc' := 44) (lv' := [(4, _), (2, _), (3, _), (0, _), (1, _)]) dX3_countCells_41 0 rfl rfl (by decide) rfl rfl ?_
        refine r_goto (tgt := 18) dX3_countCells_44 rfl ?_
        exact aa_lv (lv' := [(4, .int (nI (j + 1))), (2, .int (ccW I L c r z (j + 1))), (3, .int r), (0, .ref L), (1, .int c)]) (by first | simp [nI_1, nI_inc, ccW, h35]) (ih (j + 1) (by omega))
      · refine r_iinc (pc' := 41) (lv' := [(2, _), (4, _), (3, _), (0, _), (1, _)]) dX3_countCells_38 1 rfl rfl (by decide) rfl rfl ?_
        refine r_iinc (pc' := 44) (lv' := [(4, _), (2, _), (3, _), (0, _), (1, _)]) dX3_countCells_41 1 rfl rfl (by decide) rfl rfl ?_
        refine r_goto (tgt := 18) dX3_countCells_44 rfl ?_
        exact aa_lv (lv' := [(4, .int (nI (j + 1))), (2, .int (ccW I L c r z (j + 1))), (3, .int r), (0, .ref L), (1, .int c)]) (by first | simp [nI_1, nI_inc, ccW, h35]) (ih (j + 1) (by omega))
set_option maxHeartbeats 2000000 in
theorem l_X3_countCells {Ω : JO} {I : JI} {S : JS} {Q : JQ} {L : Nat} {c : Int32} (hL : Is3 S L) (hQ : Q (.inl (some (.int (ccR I L c (I (L + 10) 3).toNatClampNeg)))) I S) : ∀ (m : Nat) (j : Nat), j + m = (I (L + 10) 3).toNatClampNeg → AA Ω m_X3_countCells (FQ Ω m_X3_countCells Q) 0 0 4 [(3, .int (nI j)), (2, .int (ccR I L c j)), (0, .ref L), (1, .int c)] [] I S := by
  intro m
  induction m with
  | zero =>
    intro j hj
    refine r_iload_n (pc' := 5) dX3_countCells_4 rfl 0 rfl rfl ?_
    refine r_aload_n (pc' := 6) dX3_countCells_5 rfl 2 rfl rfl ?_
    refine r_getO (pc' := 9) dX3_countCells_6 fa_X3_53 hL.o rfl hL.r11 rfl ?_
    refine r_getI (pc' := 12) dX3_countCells_9 fa_X3_85 hL.c11.o rfl rfl ?_
    refine r_icmp_ge (tgt := 53) (pc' := 15) dX3_countCells_12 rfl rfl (fun h12 => ?_) (fun h12 => ?_)
    · have e : j = (I (L + 10) 3).toNatClampNeg := by omega
      rw [← e] at hQ
      refine r_iload_n (pc' := 54) dX3_countCells_53 rfl 1 rfl rfl ?_
      exact r_iret dX3_countCells_54 rfl (by decide) (by decide) (hQ)
    · exact absurd ((cl_le2 (by have := cl_b (I (L + 10) 3); omega)).mpr (by omega)) h12
  | succ m ih =>
    intro j hj
    refine r_iload_n (pc' := 5) dX3_countCells_4 rfl 0 rfl rfl ?_
    refine r_aload_n (pc' := 6) dX3_countCells_5 rfl 2 rfl rfl ?_
    refine r_getO (pc' := 9) dX3_countCells_6 fa_X3_53 hL.o rfl hL.r11 rfl ?_
    refine r_getI (pc' := 12) dX3_countCells_9 fa_X3_85 hL.c11.o rfl rfl ?_
    refine r_icmp_ge (tgt := 53) (pc' := 15) dX3_countCells_12 rfl rfl (fun h12 => ?_) (fun h12 => ?_)
    · exact absurd ((cl_le2 (by have := cl_b (I (L + 10) 3); omega)).mp h12) (by omega)
    · refine r_iconst (pc' := 16) (v := 0) dX3_countCells_15 (by decide) rfl ?_
      refine r_istore (pc' := 18) (lv' := [(4, _), (3, _), (2, _), (0, _), (1, _)]) dX3_countCells_16 (by decide) rfl rfl ?_
      refine aa_locs (ks := [0, 2, 1, 3, 4]) (lv' := [(4, _), (2, _), (3, _), (0, _), (1, _)]) rfl ?_
      refine l_X3_countCellsW (Ω := Ω) (z := ccR I L c j) (r := nI j) hL ?_ _ 0 (Nat.zero_add _)
      refine r_iinc (pc' := 50) (lv' := [(3, _), (4, _), (2, _), (0, _), (1, _)]) dX3_countCells_47 2 rfl rfl (by decide) rfl rfl ?_
      refine r_goto (tgt := 4) dX3_countCells_50 rfl ?_
      refine aa_locs (ks := [0, 2, 3, 4]) (lv' := [(3, _), (2, _), (0, _), (1, _)]) rfl ?_
      exact aa_lv (lv' := [(3, .int (nI (j + 1))), (2, .int (ccR I L c (j + 1))), (0, .ref L), (1, .int c)]) (by rw [nI_inc]; rfl) (ih (j + 1) (by omega))
set_option maxHeartbeats 2000000 in
theorem c_X3_countCells {Ω : JO} {I : JI} {S : JS} {Q : JQ} {L : Nat} {c : Int32} (hL : Is3 S L) (hQ : Q (.inl (some (.int (ccR I L c (I (L + 10) 3).toNatClampNeg)))) (I) S) : Call Ω m_X3_countCells [.ref L, .int c] I S Q := by
  refine call_of (by decide +kernel) rfl (Nat.le_of_ble_eq_true rfl) ?_
  change AA Ω m_X3_countCells (FQ Ω m_X3_countCells Q) 0 0 0 [(0, .ref L), (1, .int c)] [] I S
  refine r_iconst (pc' := 1) (v := 0) dX3_countCells_0 (by decide) rfl ?_
  refine r_istore_n (pc' := 2) (lv' := [(2, _), (0, _), (1, _)]) dX3_countCells_1 rfl (by decide) rfl rfl ?_
  refine r_iconst (pc' := 3) (v := 0) dX3_countCells_2 (by decide) rfl ?_
  refine r_istore_n (pc' := 4) (lv' := [(3, _), (2, _), (0, _), (1, _)]) dX3_countCells_3 rfl (by decide) rfl rfl ?_
  exact l_X3_countCells (Ω := Ω) hL hQ _ 0 (Nat.zero_add _)
