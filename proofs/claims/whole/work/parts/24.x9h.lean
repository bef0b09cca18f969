noncomputable def s_X9_writeDeck_L16 (m : Nat) : Nat → Int32 → JI → Option (Int32 × JI)
  | 0, _, _ => none
  | f + 1, w1, I => gd (vp_in 6 2030) <| if (I (m + 1) (Int32.toNatClampNeg 6)) ≤ w1 then (some (w1, I)) else (bd (s_X9_isApart I m w1) fun z7 => if z7 = true then (bd (s_X9_writesByte I m 32) fun I11 => gd (vp_in (1764 + w1) 2030) <| bd (s_X9_writesPart I11 m (I11 (m + 1) (Int32.toNatClampNeg (1764 + w1)))) fun I13 => s_X9_writeDeck_L16 m f (w1 + 1) I13) else (gd (vp_in (1764 + w1) 2030) <| bd (s_X9_writesPart I m (I (m + 1) (Int32.toNatClampNeg (1764 + w1)))) fun I10 => s_X9_writeDeck_L16 m f (w1 + 1) I10))
noncomputable def s_X9_writeDeck (I : JI) (m : Nat) : Option (Int32 × JI) :=
  bd2 (s_X9_mayLook I m) fun z2 I1 => if z2 = true then (lx (stI I1 m 22 0) fun I4 => bd (s_X9_writeDeck_L16 m lf 0 I4) fun (y14, I15) => if (I15 m 22) = 0 then (bd (s_X9_writesByte I15 m 45) fun I18 => some ((I18 m 22), I18)) else (some ((I15 m 22), I15))) else (some (0, I1))
set_option maxHeartbeats 4000000 in
theorem l_X9_writeDeck_L16 {Ω : JO} {S : JS} {Q : JQ} {m : Nat} (hm : Is9 S m) : ∀ (f : Nat) (w1 : Int32) (I : JI) (o : (Int32 × JI)), s_X9_writeDeck_L16 m f w1 I = some o → True → (∀ (y1 : Int32) (J : JI) , o = (y1, J) → AA Ω m_X9_writeDeck (FQ Ω m_X9_writeDeck Q) 0 0 61 [(1, .int y1), (0, .ref m)] [] J S) → AA Ω m_X9_writeDeck (FQ Ω m_X9_writeDeck Q) 0 0 16 [(1, .int w1), (0, .ref m)] [] I S := by
  intro f
  induction f with
  | zero =>
    intro w1 I o h hR hE
    rw [s_X9_writeDeck_L16] at h
    cases h
  | succ f ih =>
    intro w1 I o h hR hE
    rw [s_X9_writeDeck_L16] at h
    refine r_iload_n (pc' := 17) dX9_writeDeck_16 rfl 0 rfl rfl ?_
    refine r_aload_n (pc' := 18) dX9_writeDeck_17 rfl 1 rfl rfl ?_
    refine r_getO (pc' := 21) dX9_writeDeck_18 fa_X9_9 hm.o rfl hm.r1 rfl ?_
    refine r_bipush (pc' := 23) (v := 6) dX9_writeDeck_21 (by decide) rfl ?_
    obtain ⟨g5, h⟩ := gd_e h
    refine r_iaload (pc' := 24) dX9_writeDeck_23 hm.c1 g5 rfl ?_
    refine r_icmp_ge (tgt := 61) (pc' := 27) dX9_writeDeck_24 rfl rfl (fun h6 => ?_) (fun h6 => ?_)
    · have h := ifp h6 h
      cases h
      exact hE _ _ rfl
    · have h := ifn h6 h
      refine r_aload_n (pc' := 28) dX9_writeDeck_27 rfl 1 rfl rfl ?_
      refine r_iload_n (pc' := 29) dX9_writeDeck_28 rfl 0 rfl rfl ?_
      obtain ⟨z7, ez7, h⟩ := bd_e h
      refine r_callV1 (pc' := 32) (k' := 0) (n' := 0) dX9_writeDeck_29 mb_X9_isApart mi_X9_isApart hm.o (by decide) rfl lk_X9_475 rfl rfl rfl (Nat.le_of_ble_eq_true rfl) rfl (c_X9_isApart hm ez7 (cpI ?_))
      refine r_if_eq (tgt := 41) (pc' := 35) dX9_writeDeck_32 rfl rfl (fun h8 => ?_) (fun h8 => ?_)
      · have h := ifn (zb_n0 h8) h
        refine r_aload_n (pc' := 42) dX9_writeDeck_41 rfl 1 rfl rfl ?_
        refine r_aload_n (pc' := 43) dX9_writeDeck_42 rfl 1 rfl rfl ?_
        refine r_getO (pc' := 46) dX9_writeDeck_43 fa_X9_9 hm.o rfl hm.r1 rfl ?_
        refine r_sipush (pc' := 49) (v := 1764) dX9_writeDeck_46 (by decide) rfl ?_
        refine r_iload_n (pc' := 50) dX9_writeDeck_49 rfl 0 rfl rfl ?_
        refine r_iadd (pc' := 51) dX9_writeDeck_50 rfl ?_
        obtain ⟨g9, h⟩ := gd_e h
        refine r_iaload (pc' := 52) dX9_writeDeck_51 hm.c1 g9 rfl ?_
        obtain ⟨I10, eI10, h⟩ := bd_e h
        refine r_callV1 (pc' := 55) (k' := 0) (n' := 0) dX9_writeDeck_52 mb_X9_writesPart mi_X9_writesPart hm.o (by decide) rfl lk_X9_478 rfl rfl rfl (Nat.le_of_ble_eq_true rfl) rfl (c_X9_writesPart hm eI10 (cpV ?_))
        refine r_iinc (pc' := 58) (v := _ + 1) (lv' := [(1, _), (0, _)]) dX9_writeDeck_55 0 rfl rfl (by decide) rfl rfl ?_
        refine r_goto (tgt := 16) dX9_writeDeck_58 rfl ?_
        exact ih _ _ _ h hR hE
      · have h := ifp (zb_p0 h8) h
        refine r_aload_n (pc' := 36) dX9_writeDeck_35 rfl 1 rfl rfl ?_
        refine r_bipush (pc' := 38) (v := 32) dX9_writeDeck_36 (by decide) rfl ?_
        obtain ⟨I11, eI11, h⟩ := bd_e h
        refine r_callV1 (pc' := 41) (k' := 0) (n' := 0) dX9_writeDeck_38 mb_X9_writesByte mi_X9_writesByte hm.o (by decide) rfl lk_X9_469 rfl rfl rfl (Nat.le_of_ble_eq_true rfl) rfl (c_X9_writesByte hm eI11 (cpV ?_))
        refine r_aload_n (pc' := 42) dX9_writeDeck_41 rfl 1 rfl rfl ?_
        refine r_aload_n (pc' := 43) dX9_writeDeck_42 rfl 1 rfl rfl ?_
        refine r_getO (pc' := 46) dX9_writeDeck_43 fa_X9_9 hm.o rfl hm.r1 rfl ?_
        refine r_sipush (pc' := 49) (v := 1764) dX9_writeDeck_46 (by decide) rfl ?_
        refine r_iload_n (pc' := 50) dX9_writeDeck_49 rfl 0 rfl rfl ?_
        refine r_iadd (pc' := 51) dX9_writeDeck_50 rfl ?_
        obtain ⟨g12, h⟩ := gd_e h
        refine r_iaload (pc' := 52) dX9_writeDeck_51 hm.c1 g12 rfl ?_
        obtain ⟨I13, eI13, h⟩ := bd_e h
        refine r_callV1 (pc' := 55) (k' := 0) (n' := 0) dX9_writeDeck_52 mb_X9_writesPart mi_X9_writesPart hm.o (by decide) rfl lk_X9_478 rfl rfl rfl (Nat.le_of_ble_eq_true rfl) rfl (c_X9_writesPart hm eI13 (cpV ?_))
        refine r_iinc (pc' := 58) (v := _ + 1) (lv' := [(1, _), (0, _)]) dX9_writeDeck_55 0 rfl rfl (by decide) rfl rfl ?_
        refine r_goto (tgt := 16) dX9_writeDeck_58 rfl ?_
        exact ih _ _ _ h hR hE
set_option maxHeartbeats 4000000 in
theorem c_X9_writeDeck {Ω : JO} {I : JI} {S : JS} {Q : JQ} {m : Nat} {r : Int32} {J : JI} (hm : Is9 S m) (h : s_X9_writeDeck I m = some (r, J)) (hQ : Q (.inl (some (.int r))) J S) : Call Ω m_X9_writeDeck [.ref m] I S Q := by
  refine call_of (by decide +kernel) rfl (Nat.le_of_ble_eq_true rfl) ?_
  change AA Ω m_X9_writeDeck (FQ Ω m_X9_writeDeck Q) 0 0 0 [(0, .ref m)] [] I S
  unfold s_X9_writeDeck at h
  refine r_aload_n (pc' := 1) dX9_writeDeck_0 rfl 0 rfl rfl ?_
  obtain ⟨z2, I1, ez2, h⟩ := bd2_e h
  refine r_callV0 (pc' := 4) (k' := 0) (n' := 0) dX9_writeDeck_1 mb_X9_mayLook mi_X9_mayLook hm.o (by decide) rfl lk_X9_409 rfl rfl rfl (Nat.le_of_ble_eq_true rfl) rfl (c_X9_mayLook hm ez2 (cpI ?_))
  refine r_if_ne (tgt := 9) (pc' := 7) dX9_writeDeck_4 rfl rfl (fun h3 => ?_) (fun h3 => ?_)
  · have h := ifp (zb_p0 h3) h
    refine r_aload_n (pc' := 10) dX9_writeDeck_9 rfl 0 rfl rfl ?_
    refine r_iconst (pc' := 11) (v := 0) dX9_writeDeck_10 (by decide) rfl ?_
    refine r_putI (pc' := 14) dX9_writeDeck_11 fa_X9_466 hm.o rfl rfl ?_
    have h := lx_e h
    refine r_iconst (pc' := 15) (v := 0) dX9_writeDeck_14 (by decide) rfl ?_
    refine r_istore_n (pc' := 16) (lv' := [(1, _), (0, _)]) dX9_writeDeck_15 rfl (by decide) rfl rfl ?_
    obtain ⟨o16, eo16, h⟩ := bd_e h
    refine l_X9_writeDeck_L16 (Ω := Ω) hm _ _ _ _ eo16 trivial (fun y14 I15 q => ?_)
    subst q
    refine r_aload_n (pc' := 62) dX9_writeDeck_61 rfl 1 rfl rfl ?_
    refine r_getI (pc' := 65) dX9_writeDeck_62 fa_X9_466 hm.o rfl rfl ?_
    refine r_if_ne (tgt := 74) (pc' := 68) dX9_writeDeck_65 rfl rfl (fun h17 => ?_) (fun h17 => ?_)
    · have h := ifn h17 h
      refine r_aload_n (pc' := 75) dX9_writeDeck_74 rfl 1 rfl rfl ?_
      refine r_getI (pc' := 78) dX9_writeDeck_75 fa_X9_466 hm.o rfl rfl ?_
      cases h
      exact r_iret dX9_writeDeck_78 rfl (by decide) (by decide) hQ
    · have h := ifp h17 h
      refine r_aload_n (pc' := 69) dX9_writeDeck_68 rfl 1 rfl rfl ?_
      refine r_bipush (pc' := 71) (v := 45) dX9_writeDeck_69 (by decide) rfl ?_
      obtain ⟨I18, eI18, h⟩ := bd_e h
      refine r_callV1 (pc' := 74) (k' := 0) (n' := 0) dX9_writeDeck_71 mb_X9_writesByte mi_X9_writesByte hm.o (by decide) rfl lk_X9_469 rfl rfl rfl (Nat.le_of_ble_eq_true rfl) rfl (c_X9_writesByte hm eI18 (cpV ?_))
      refine r_aload_n (pc' := 75) dX9_writeDeck_74 rfl 1 rfl rfl ?_
      refine r_getI (pc' := 78) dX9_writeDeck_75 fa_X9_466 hm.o rfl rfl ?_
      cases h
      exact r_iret dX9_writeDeck_78 rfl (by decide) (by decide) hQ
  · have h := ifn (zb_n0 h3) h
    refine r_iconst (pc' := 8) (v := 0) dX9_writeDeck_7 (by decide) rfl ?_
    cases h
    exact r_iret dX9_writeDeck_8 rfl (by decide) (by decide) hQ
theorem frl_X9_writeDeck_L16 {m : Nat} {z : Nat} (hzm : z < m ∨ m + 11 ≤ z) : ∀ (f : Nat) (w1 : Int32) (I : JI) (o : (Int32 × JI)), s_X9_writeDeck_L16 m f w1 I = some o → (∀ (y1 : Int32) (J : JI), o = (y1, J) → J z = I z) := by
  intro f
  induction f with
  | zero =>
    intro w1 I o h
    rw [s_X9_writeDeck_L16] at h
    cases h
  | succ f ih =>
    intro w1 I o h
    rw [s_X9_writeDeck_L16] at h
    obtain ⟨g1, h⟩ := gd_e h
    rcases if_e h with h | h
    · cases h
      intro _ _ q
      cases q
      exact rfl
    · obtain ⟨o2, e2, h⟩ := bd_e h
      rcases if_e h with h | h
      · obtain ⟨I11, e3, h⟩ := bd_e h
        obtain ⟨g4, h⟩ := gd_e h
        obtain ⟨I13, e5, h⟩ := bd_e h
        intro _ _ q
        exact ((ih _ _ _ h) _ _ q).trans ((fr_X9_writesPart e5 (by omega)).trans ((fr_X9_writesByte e3 (by omega)).trans rfl))
      · obtain ⟨g6, h⟩ := gd_e h
        obtain ⟨I10, e7, h⟩ := bd_e h
        intro _ _ q
        exact ((ih _ _ _ h) _ _ q).trans ((fr_X9_writesPart e7 (by omega)).trans rfl)
set_option maxHeartbeats 4000000 in
theorem fr_X9_writeDeck {I : JI} {m : Nat} {r : Int32} {J : JI} {z : Nat} (h : s_X9_writeDeck I m = some (r, J)) (hzm : z < m ∨ m + 11 ≤ z) : J z = I z := by
  unfold s_X9_writeDeck at h
  obtain ⟨z2, I1, e1, h⟩ := bd2_e h
  rcases if_e h with h | h
  · have h := lx_e h
    obtain ⟨o2, e2, h⟩ := bd_e h
    obtain ⟨y14, I15⟩ := o2
    rcases if_e h with h | h
    · obtain ⟨I18, e3, h⟩ := bd_e h
      cases h
      exact ((fr_X9_writesByte e3 (by omega)).trans (((frl_X9_writeDeck_L16 hzm _ _ _ _ e2) _ _ rfl).trans ((fr_stI (by omega)).trans ((fr_X9_mayLook e1 (by omega)).trans rfl))))
    · cases h
      exact (((frl_X9_writeDeck_L16 hzm _ _ _ _ e2) _ _ rfl).trans ((fr_stI (by omega)).trans ((fr_X9_mayLook e1 (by omega)).trans rfl)))
  · cases h
    exact ((fr_X9_mayLook e1 (by omega)).trans rfl)
noncomputable def s_X9_outputByte (I : JI) (m : Nat) (x1 : Int32) : Option (Int32 × JI) :=
  bd2 (s_X9_may I m (s_X9_in x1 0 ((I m 22) - 1)) true true) fun z2 I1 => if z2 = true then (gd (vp_in x1 1000) <| some ((I1 (m + 10) (Int32.toNatClampNeg x1)), I1)) else (some (0, I1))
set_option maxHeartbeats 4000000 in
theorem c_X9_outputByte {Ω : JO} {I : JI} {S : JS} {Q : JQ} {m : Nat} {x1 : Int32} {r : Int32} {J : JI} (hm : Is9 S m) (h : s_X9_outputByte I m x1 = some (r, J)) (hQ : Q (.inl (some (.int r))) J S) : Call Ω m_X9_outputByte [.ref m, .int x1] I S Q := by
  refine call_of (by decide +kernel) rfl (Nat.le_of_ble_eq_true rfl) ?_
  change AA Ω m_X9_outputByte (FQ Ω m_X9_outputByte Q) 0 0 0 [(0, .ref m), (1, .int x1)] [] I S
  unfold s_X9_outputByte at h
  refine r_aload_n (pc' := 1) dX9_outputByte_0 rfl 0 rfl rfl ?_
  refine r_iload_n (pc' := 2) dX9_outputByte_1 rfl 1 rfl rfl ?_
  refine r_iconst (pc' := 3) (v := 0) dX9_outputByte_2 (by decide) rfl ?_
  refine r_aload_n (pc' := 4) dX9_outputByte_3 rfl 0 rfl rfl ?_
  refine r_getI (pc' := 7) dX9_outputByte_4 fa_X9_466 hm.o rfl rfl ?_
  refine r_iconst (pc' := 8) (v := 1) dX9_outputByte_7 (by decide) rfl ?_
  refine r_isub (pc' := 9) dX9_outputByte_8 rfl ?_
  refine r_callS3 (pc' := 12) (k' := 0) (n' := 0) dX9_outputByte_9 mb_X9_in ms_X9_in lk_X9_78 rfl rfl rfl (Nat.le_of_ble_eq_true rfl) rfl (c_X9_in rfl (cpI ?_))
  refine r_iconst (pc' := 13) (v := 1) dX9_outputByte_12 (by decide) rfl ?_
  refine r_iconst (pc' := 14) (v := 1) dX9_outputByte_13 (by decide) rfl ?_
  obtain ⟨z2, I1, ez2, h⟩ := bd2_e h
  refine r_callV3 (pc' := 17) (k' := 0) (n' := 0) dX9_outputByte_14 mb_X9_may mi_X9_may hm.o (by decide) rfl lk_X9_49 rfl rfl rfl (Nat.le_of_ble_eq_true rfl) rfl (c_X9_may (b2 := true) (b3 := true) hm ez2 (cpI ?_))
  refine r_if_eq (tgt := 29) (pc' := 20) dX9_outputByte_17 rfl rfl (fun h3 => ?_) (fun h3 => ?_)
  · have h := ifn (zb_n0 h3) h
    refine r_iconst (pc' := 30) (v := 0) dX9_outputByte_29 (by decide) rfl ?_
    cases h
    exact r_iret dX9_outputByte_30 rfl (by decide) (by decide) hQ
  · have h := ifp (zb_p0 h3) h
    refine r_aload_n (pc' := 21) dX9_outputByte_20 rfl 0 rfl rfl ?_
    refine r_getO (pc' := 24) dX9_outputByte_21 fa_X9_43 hm.o rfl hm.r21 rfl ?_
    refine r_iload_n (pc' := 25) dX9_outputByte_24 rfl 1 rfl rfl ?_
    obtain ⟨g4, h⟩ := gd_e h
    refine r_baload (pc' := 26) dX9_outputByte_25 hm.c21 g4 rfl ?_
    refine r_goto (tgt := 30) dX9_outputByte_26 rfl ?_
    cases h
    exact r_iret dX9_outputByte_30 rfl (by decide) (by decide) hQ
set_option maxHeartbeats 4000000 in
theorem fr_X9_outputByte {I : JI} {m : Nat} {x1 : Int32} {r : Int32} {J : JI} {z : Nat} (h : s_X9_outputByte I m x1 = some (r, J)) (hzm : z < m ∨ m + 11 ≤ z) : J z = I z := by
  unfold s_X9_outputByte at h
  obtain ⟨z2, I1, e1, h⟩ := bd2_e h
  rcases if_e h with h | h
  · obtain ⟨g2, h⟩ := gd_e h
    cases h
    exact ((fr_X9_may e1 (by omega)).trans rfl)
  · cases h
    exact ((fr_X9_may e1 (by omega)).trans rfl)
noncomputable def s_X9_remembers_L11 (m : Nat) : Nat → Int32 → JI → Option (Int32 × JI)
  | 0, _, _ => none
  | f + 1, w1, I => if 14210 ≤ w1 then (some (w1, I)) else (gd (vp_in (w1 + 2030) 16240) <| gd (vp_in w1 16240) <| lx (stI I (m + 3) (Int32.toNatClampNeg w1) (I (m + 3) (Int32.toNatClampNeg (w1 + 2030)))) fun I7 => s_X9_remembers_L11 m f (w1 + 1) I7)
noncomputable def s_X9_remembers (I : JI) (m : Nat) : Option (JI) :=
  if (I m 7) = 8 then (bd (s_X9_remembers_L11 m lf 0 I) fun (y8, I9) => lx (stI I9 m 7 ((I9 m 7) - 1)) fun I11 => bd (s_X9_lays I11 (m + 1) (m + 3) 2030 0 16240 ((I11 m 7) * 2030)) fun I12 => lx (stI I12 m 7 ((I12 m 7) + 1)) fun I13 => some I13) else (bd (s_X9_lays I (m + 1) (m + 3) 2030 0 16240 ((I m 7) * 2030)) fun I2 => lx (stI I2 m 7 ((I2 m 7) + 1)) fun I3 => some I3)
set_option maxHeartbeats 4000000 in
theorem l_X9_remembers_L11 {Ω : JO} {S : JS} {Q : JQ} {m : Nat} (hm : Is9 S m) : ∀ (f : Nat) (w1 : Int32) (I : JI) (o : (Int32 × JI)), s_X9_remembers_L11 m f w1 I = some o → True → (∀ (y1 : Int32) (J : JI) , o = (y1, J) → AA Ω m_X9_remembers (FQ Ω m_X9_remembers Q) 0 0 40 [(1, .int y1), (0, .ref m)] [] J S) → AA Ω m_X9_remembers (FQ Ω m_X9_remembers Q) 0 0 11 [(1, .int w1), (0, .ref m)] [] I S := by
  intro f
  induction f with
  | zero =>
    intro w1 I o h hR hE
    rw [s_X9_remembers_L11] at h
    cases h
  | succ f ih =>
    intro w1 I o h hR hE
    rw [s_X9_remembers_L11] at h
    refine r_iload_n (pc' := 12) dX9_remembers_11 rfl 0 rfl rfl ?_
    refine r_sipush (pc' := 15) (v := 14210) dX9_remembers_12 (by decide) rfl ?_
    refine r_icmp_ge (tgt := 40) (pc' := 18) dX9_remembers_15 rfl rfl (fun h4 => ?_) (fun h4 => ?_)
    · have h := ifp h4 h
      cases h
      exact hE _ _ rfl
    · have h := ifn h4 h
      refine r_aload_n (pc' := 19) dX9_remembers_18 rfl 1 rfl rfl ?_
      refine r_getO (pc' := 22) dX9_remembers_19 fa_X9_16 hm.o rfl hm.r3 rfl ?_
      refine r_iload_n (pc' := 23) dX9_remembers_22 rfl 0 rfl rfl ?_
      refine r_aload_n (pc' := 24) dX9_remembers_23 rfl 1 rfl rfl ?_
      refine r_getO (pc' := 27) dX9_remembers_24 fa_X9_16 hm.o rfl hm.r3 rfl ?_
      refine r_iload_n (pc' := 28) dX9_remembers_27 rfl 0 rfl rfl ?_
      refine r_sipush (pc' := 31) (v := 2030) dX9_remembers_28 (by decide) rfl ?_
      refine r_iadd (pc' := 32) dX9_remembers_31 rfl ?_
      obtain ⟨g5, h⟩ := gd_e h
      refine r_iaload (pc' := 33) dX9_remembers_32 hm.c3 g5 rfl ?_
      obtain ⟨g6, h⟩ := gd_e h
      refine r_iastore (pc' := 34) dX9_remembers_33 hm.c3 g6 rfl ?_
      have h := lx_e h
      refine r_iinc (pc' := 37) (v := _ + 1) (lv' := [(1, _), (0, _)]) dX9_remembers_34 0 rfl rfl (by decide) rfl rfl ?_
      refine r_goto (tgt := 11) dX9_remembers_37 rfl ?_
      exact ih _ _ _ h hR hE
set_option maxHeartbeats 4000000 in
theorem c_X9_remembers {Ω : JO} {I : JI} {S : JS} {Q : JQ} {m : Nat} {J : JI} (hm : Is9 S m) (h : s_X9_remembers I m = some J) (hQ : Q (.inl none) J S) : Call Ω m_X9_remembers [.ref m] I S Q := by
  refine call_of (by decide +kernel) rfl (Nat.le_of_ble_eq_true rfl) ?_
  change AA Ω m_X9_remembers (FQ Ω m_X9_remembers Q) 0 0 0 [(0, .ref m)] [] I S
  unfold s_X9_remembers at h
  refine r_aload_n (pc' := 1) dX9_remembers_0 rfl 0 rfl rfl ?_
  refine r_getI (pc' := 4) dX9_remembers_1 fa_X9_321 hm.o rfl rfl ?_
  refine r_bipush (pc' := 6) (v := 8) dX9_remembers_4 (by decide) rfl ?_
  refine r_icmp_ne (tgt := 50) (pc' := 9) dX9_remembers_6 rfl rfl (fun h1 => ?_) (fun h1 => ?_)
  · have h := ifn h1 h
    refine r_aload_n (pc' := 51) dX9_remembers_50 rfl 0 rfl rfl ?_
    refine r_getO (pc' := 54) dX9_remembers_51 fa_X9_9 hm.o rfl hm.r1 rfl ?_
    refine r_iconst (pc' := 55) (v := 0) dX9_remembers_54 (by decide) rfl ?_
    refine r_aload_n (pc' := 56) dX9_remembers_55 rfl 0 rfl rfl ?_
    refine r_getO (pc' := 59) dX9_remembers_56 fa_X9_16 hm.o rfl hm.r3 rfl ?_
    refine r_aload_n (pc' := 60) dX9_remembers_59 rfl 0 rfl rfl ?_
    refine r_getI (pc' := 63) dX9_remembers_60 fa_X9_321 hm.o rfl rfl ?_
    refine r_sipush (pc' := 66) (v := 2030) dX9_remembers_63 (by decide) rfl ?_
    refine r_imul (pc' := 67) dX9_remembers_66 rfl ?_
    obtain ⟨I2, eI2, h⟩ := bd_e h
    refine r_callS4 (pc' := 70) (k' := 0) (n' := 0) dX9_remembers_67 mb_X9_lays ms_X9_lays lk_X9_57 rfl rfl rfl (Nat.le_of_ble_eq_true rfl) rfl (c_X9_lays hm.c1 (by decide) hm.c3 (by decide) eI2 (cpV ?_))
    refine r_aload_n (pc' := 71) dX9_remembers_70 rfl 0 rfl rfl ?_
    refine r_dup (pc' := 72) dX9_remembers_71 rfl rfl ?_
    refine r_getI (pc' := 75) dX9_remembers_72 fa_X9_321 hm.o rfl rfl ?_
    refine r_iconst (pc' := 76) (v := 1) dX9_remembers_75 (by decide) rfl ?_
    refine r_iadd (pc' := 77) dX9_remembers_76 rfl ?_
    refine r_putI (pc' := 80) dX9_remembers_77 fa_X9_321 hm.o rfl rfl ?_
    have h := lx_e h
    cases h
    exact r_ret dX9_remembers_80 rfl (by decide) (by decide) hQ
  · have h := ifp h1 h
    refine r_iconst (pc' := 10) (v := 0) dX9_remembers_9 (by decide) rfl ?_
    refine r_istore_n (pc' := 11) (lv' := [(1, _), (0, _)]) dX9_remembers_10 rfl (by decide) rfl rfl ?_
    obtain ⟨o10, eo10, h⟩ := bd_e h
    refine l_X9_remembers_L11 (Ω := Ω) hm _ _ _ _ eo10 trivial (fun y8 I9 q => ?_)
    subst q
    refine r_aload_n (pc' := 41) dX9_remembers_40 rfl 1 rfl rfl ?_
    refine r_dup (pc' := 42) dX9_remembers_41 rfl rfl ?_
    refine r_getI (pc' := 45) dX9_remembers_42 fa_X9_321 hm.o rfl rfl ?_
    refine r_iconst (pc' := 46) (v := 1) dX9_remembers_45 (by decide) rfl ?_
    refine r_isub (pc' := 47) dX9_remembers_46 rfl ?_
    refine r_putI (pc' := 50) dX9_remembers_47 fa_X9_321 hm.o rfl rfl ?_
    have h := lx_e h
    refine r_aload_n (pc' := 51) dX9_remembers_50 rfl 1 rfl rfl ?_
    refine r_getO (pc' := 54) dX9_remembers_51 fa_X9_9 hm.o rfl hm.r1 rfl ?_
    refine r_iconst (pc' := 55) (v := 0) dX9_remembers_54 (by decide) rfl ?_
    refine r_aload_n (pc' := 56) dX9_remembers_55 rfl 1 rfl rfl ?_
    refine r_getO (pc' := 59) dX9_remembers_56 fa_X9_16 hm.o rfl hm.r3 rfl ?_
    refine r_aload_n (pc' := 60) dX9_remembers_59 rfl 1 rfl rfl ?_
    refine r_getI (pc' := 63) dX9_remembers_60 fa_X9_321 hm.o rfl rfl ?_
    refine r_sipush (pc' := 66) (v := 2030) dX9_remembers_63 (by decide) rfl ?_
    refine r_imul (pc' := 67) dX9_remembers_66 rfl ?_
    obtain ⟨I12, eI12, h⟩ := bd_e h
    refine r_callS4 (pc' := 70) (k' := 0) (n' := 0) dX9_remembers_67 mb_X9_lays ms_X9_lays lk_X9_57 rfl rfl rfl (Nat.le_of_ble_eq_true rfl) rfl (c_X9_lays hm.c1 (by decide) hm.c3 (by decide) eI12 (cpV ?_))
    refine r_aload_n (pc' := 71) dX9_remembers_70 rfl 1 rfl rfl ?_
    refine r_dup (pc' := 72) dX9_remembers_71 rfl rfl ?_
    refine r_getI (pc' := 75) dX9_remembers_72 fa_X9_321 hm.o rfl rfl ?_
    refine r_iconst (pc' := 76) (v := 1) dX9_remembers_75 (by decide) rfl ?_
    refine r_iadd (pc' := 77) dX9_remembers_76 rfl ?_
    refine r_putI (pc' := 80) dX9_remembers_77 fa_X9_321 hm.o rfl rfl ?_
    have h := lx_e h
    cases h
    exact r_ret dX9_remembers_80 rfl (by decide) (by decide) hQ
theorem frl_X9_remembers_L11 {m : Nat} {z : Nat} (hzm : z < m ∨ m + 11 ≤ z) : ∀ (f : Nat) (w1 : Int32) (I : JI) (o : (Int32 × JI)), s_X9_remembers_L11 m f w1 I = some o → (∀ (y1 : Int32) (J : JI), o = (y1, J) → J z = I z) := by
  intro f
  induction f with
  | zero =>
    intro w1 I o h
    rw [s_X9_remembers_L11] at h
    cases h
  | succ f ih =>
    intro w1 I o h
    rw [s_X9_remembers_L11] at h
    rcases if_e h with h | h
    · cases h
      intro _ _ q
      cases q
      exact rfl
    · obtain ⟨g1, h⟩ := gd_e h
      obtain ⟨g2, h⟩ := gd_e h
      have h := lx_e h
      intro _ _ q
      exact ((ih _ _ _ h) _ _ q).trans ((fr_stI (by omega)).trans rfl)
set_option maxHeartbeats 4000000 in
theorem fr_X9_remembers {I : JI} {m : Nat} {J : JI} {z : Nat} (h : s_X9_remembers I m = some J) (hzm : z < m ∨ m + 11 ≤ z) : J z = I z := by
  unfold s_X9_remembers at h
  rcases if_e h with h | h
  · obtain ⟨o1, e1, h⟩ := bd_e h
    obtain ⟨y8, I9⟩ := o1
    have h := lx_e h
    obtain ⟨I12, e2, h⟩ := bd_e h
    have h := lx_e h
    cases h
    exact ((fr_stI (by omega)).trans ((fr_X9_lays e2 (by omega) (by omega)).trans ((fr_stI (by omega)).trans (((frl_X9_remembers_L11 hzm _ _ _ _ e1) _ _ rfl).trans rfl))))
  · obtain ⟨I2, e3, h⟩ := bd_e h
    have h := lx_e h
    cases h
    exact ((fr_stI (by omega)).trans ((fr_X9_lays e3 (by omega) (by omega)).trans rfl))
noncomputable def s_X9_weave (I : JI) (m : Nat) (x1 : Int32) : Option (Int32 × JI) :=
  gd ((I m 6) = 0 ∨ (I m 6) = 1) <| bd2 (s_X9_mayTwo I m (nz (I m 6)) (s_X9_in x1 1 60)) fun z3 I2 => if z3 = true then (bd (s_X9_remembers I2 m) fun I5 => bd2 (s_X9_weaves I5 m x1) fun v7 I6 => some (v7, I6)) else (some (0, I2))
set_option maxHeartbeats 4000000 in
theorem c_X9_weave {Ω : JO} {I : JI} {S : JS} {Q : JQ} {m : Nat} {x1 : Int32} {r : Int32} {J : JI} (hm : Is9 S m) (h : s_X9_weave I m x1 = some (r, J)) (hQ : Q (.inl (some (.int r))) J S) : Call Ω m_X9_weave [.ref m, .int x1] I S Q := by
  refine call_of (by decide +kernel) rfl (Nat.le_of_ble_eq_true rfl) ?_
  change AA Ω m_X9_weave (FQ Ω m_X9_weave Q) 0 0 0 [(0, .ref m), (1, .int x1)] [] I S
  unfold s_X9_weave at h
  refine r_aload_n (pc' := 1) dX9_weave_0 rfl 0 rfl rfl ?_
  refine r_aload_n (pc' := 2) dX9_weave_1 rfl 0 rfl rfl ?_
  obtain ⟨g1, h⟩ := gd_e h
  refine r_getZ (pc' := 5) dX9_weave_2 fa_X9_53 hm.o rfl g1 rfl ?_
  refine r_iload_n (pc' := 6) dX9_weave_5 rfl 1 rfl rfl ?_
  refine r_iconst (pc' := 7) (v := 1) dX9_weave_6 (by decide) rfl ?_
  refine r_bipush (pc' := 9) (v := 60) dX9_weave_7 (by decide) rfl ?_
  refine r_callS3 (pc' := 12) (k' := 0) (n' := 0) dX9_weave_9 mb_X9_in ms_X9_in lk_X9_78 rfl rfl rfl (Nat.le_of_ble_eq_true rfl) rfl (c_X9_in rfl (cpI ?_))
  obtain ⟨z3, I2, ez3, h⟩ := bd2_e h
  refine r_callV2 (pc' := 15) (k' := 0) (n' := 0) dX9_weave_12 mb_X9_mayTwo mi_X9_mayTwo hm.o (by decide) rfl lk_X9_393 rfl rfl rfl (Nat.le_of_ble_eq_true rfl) rfl (c_X9_mayTwo hm ez3 (cpI ?_))
  refine r_if_ne (tgt := 20) (pc' := 18) dX9_weave_15 rfl rfl (fun h4 => ?_) (fun h4 => ?_)
  · have h := ifp (zb_p0 h4) h
    refine r_aload_n (pc' := 21) dX9_weave_20 rfl 0 rfl rfl ?_
    obtain ⟨I5, eI5, h⟩ := bd_e h
    refine r_callV0 (pc' := 24) (k' := 0) (n' := 0) dX9_weave_21 mb_X9_remembers mi_X9_remembers hm.o (by decide) rfl lk_X9_481 rfl rfl rfl (Nat.le_of_ble_eq_true rfl) rfl (c_X9_remembers hm eI5 (cpV ?_))
    refine r_aload_n (pc' := 25) dX9_weave_24 rfl 0 rfl rfl ?_
    refine r_iload_n (pc' := 26) dX9_weave_25 rfl 1 rfl rfl ?_
    obtain ⟨v7, I6, ev7, h⟩ := bd2_e h
    refine r_callV1 (pc' := 29) (k' := 0) (n' := 0) dX9_weave_26 mb_X9_weaves mi_X9_weaves hm.o (by decide) rfl lk_X9_211 rfl rfl rfl (Nat.le_of_ble_eq_true rfl) rfl (c_X9_weaves hm ev7 (cpI ?_))
    cases h
    exact r_iret dX9_weave_29 rfl (by decide) (by decide) hQ
  · have h := ifn (zb_n0 h4) h
    refine r_iconst (pc' := 19) (v := 0) dX9_weave_18 (by decide) rfl ?_
    cases h
    exact r_iret dX9_weave_19 rfl (by decide) (by decide) hQ
set_option maxHeartbeats 4000000 in
theorem fr_X9_weave {I : JI} {m : Nat} {x1 : Int32} {r : Int32} {J : JI} {z : Nat} (h : s_X9_weave I m x1 = some (r, J)) (hzm : z < m ∨ m + 11 ≤ z) : J z = I z := by
  unfold s_X9_weave at h
  obtain ⟨g1, h⟩ := gd_e h
  obtain ⟨z3, I2, e2, h⟩ := bd2_e h
  rcases if_e h with h | h
  · obtain ⟨I5, e3, h⟩ := bd_e h
    obtain ⟨v7, I6, e4, h⟩ := bd2_e h
    cases h
    exact ((fr_X9_weaves e4 (by omega)).trans ((fr_X9_remembers e3 (by omega)).trans ((fr_X9_mayTwo e2 (by omega)).trans rfl)))
  · cases h
    exact ((fr_X9_mayTwo e2 (by omega)).trans rfl)
noncomputable def s_X9_unweave (I : JI) (m : Nat) (x1 : Int32) : Option (Int32 × JI) :=
  gd ((I m 6) = 0 ∨ (I m 6) = 1) <| gd ((I m 6) = 0 ∨ (I m 6) = 1) <| if (nz (I m 6)) = true then (gd (vp_in 5 2030) <| if (s_X9_in x1 1 (I (m + 1) (Int32.toNatClampNeg 5))) = true then (bd2 (s_X9_mayTwo I m (nz (I m 6)) true) fun z19 I18 => if z19 = true then (bd (s_X9_remembers I18 m) fun I21 => bd (s_X9_removes I21 m x1) fun I22 => gd (vp_in 5 2030) <| some ((I22 (m + 1) (Int32.toNatClampNeg 5)), I22)) else (some (0, I18))) else (bd2 (s_X9_mayTwo I m (nz (I m 6)) false) fun z13 I12 => if z13 = true then (bd (s_X9_remembers I12 m) fun I15 => bd (s_X9_removes I15 m x1) fun I16 => gd (vp_in 5 2030) <| some ((I16 (m + 1) (Int32.toNatClampNeg 5)), I16)) else (some (0, I12)))) else (bd2 (s_X9_mayTwo I m (nz (I m 6)) false) fun z5 I4 => if z5 = true then (bd (s_X9_remembers I4 m) fun I7 => bd (s_X9_removes I7 m x1) fun I8 => gd (vp_in 5 2030) <| some ((I8 (m + 1) (Int32.toNatClampNeg 5)), I8)) else (some (0, I4)))
set_option maxHeartbeats 4000000 in
theorem c_X9_unweave {Ω : JO} {I : JI} {S : JS} {Q : JQ} {m : Nat} {x1 : Int32} {r : Int32} {J : JI} (hm : Is9 S m) (h : s_X9_unweave I m x1 = some (r, J)) (hQ : Q (.inl (some (.int r))) J S) : Call Ω m_X9_unweave [.ref m, .int x1] I S Q := by
  refine call_of (by decide +kernel) rfl (Nat.le_of_ble_eq_true rfl) ?_
  change AA Ω m_X9_unweave (FQ Ω m_X9_unweave Q) 0 0 0 [(0, .ref m), (1, .int x1)] [] I S
  unfold s_X9_unweave at h
  refine r_aload_n (pc' := 1) dX9_unweave_0 rfl 0 rfl rfl ?_
  refine r_aload_n (pc' := 2) dX9_unweave_1 rfl 0 rfl rfl ?_
  obtain ⟨g1, h⟩ := gd_e h
  refine r_getZ (pc' := 5) dX9_unweave_2 fa_X9_53 hm.o rfl g1 rfl ?_
  refine r_aload_n (pc' := 6) dX9_unweave_5 rfl 0 rfl rfl ?_
  obtain ⟨g2, h⟩ := gd_e h
  refine r_getZ (pc' := 9) dX9_unweave_6 fa_X9_53 hm.o rfl g2 rfl ?_
  refine r_if_eq (tgt := 30) (pc' := 12) dX9_unweave_9 rfl rfl (fun h3 => ?_) (fun h3 => ?_)
  · have h := ifn (zb_n0 h3) h
    refine r_iconst (pc' := 31) (v := 0) dX9_unweave_30 (by decide) rfl ?_
    obtain ⟨z5, I4, ez5, h⟩ := bd2_e h
    refine r_callV2 (pc' := 34) (k' := 0) (n' := 0) dX9_unweave_31 mb_X9_mayTwo mi_X9_mayTwo hm.o (by decide) rfl lk_X9_393 rfl rfl rfl (Nat.le_of_ble_eq_true rfl) rfl (c_X9_mayTwo (b2 := false) hm ez5 (cpI ?_))
    refine r_if_ne (tgt := 39) (pc' := 37) dX9_unweave_34 rfl rfl (fun h6 => ?_) (fun h6 => ?_)
    · have h := ifp (zb_p0 h6) h
      refine r_aload_n (pc' := 40) dX9_unweave_39 rfl 0 rfl rfl ?_
      obtain ⟨I7, eI7, h⟩ := bd_e h
      refine r_callV0 (pc' := 43) (k' := 0) (n' := 0) dX9_unweave_40 mb_X9_remembers mi_X9_remembers hm.o (by decide) rfl lk_X9_481 rfl rfl rfl (Nat.le_of_ble_eq_true rfl) rfl (c_X9_remembers hm eI7 (cpV ?_))
      refine r_aload_n (pc' := 44) dX9_unweave_43 rfl 0 rfl rfl ?_
      refine r_iload_n (pc' := 45) dX9_unweave_44 rfl 1 rfl rfl ?_
      obtain ⟨I8, eI8, h⟩ := bd_e h
      refine r_callV1 (pc' := 48) (k' := 0) (n' := 0) dX9_unweave_45 mb_X9_removes mi_X9_removes hm.o (by decide) rfl lk_X9_214 rfl rfl rfl (Nat.le_of_ble_eq_true rfl) rfl (c_X9_removes hm eI8 (cpV ?_))
      refine r_aload_n (pc' := 49) dX9_unweave_48 rfl 0 rfl rfl ?_
      refine r_getO (pc' := 52) dX9_unweave_49 fa_X9_9 hm.o rfl hm.r1 rfl ?_
      refine r_iconst (pc' := 53) (v := 5) dX9_unweave_52 (by decide) rfl ?_
      obtain ⟨g9, h⟩ := gd_e h
      refine r_iaload (pc' := 54) dX9_unweave_53 hm.c1 g9 rfl ?_
      cases h
      exact r_iret dX9_unweave_54 rfl (by decide) (by decide) hQ
    · have h := ifn (zb_n0 h6) h
      refine r_iconst (pc' := 38) (v := 0) dX9_unweave_37 (by decide) rfl ?_
      cases h
      exact r_iret dX9_unweave_38 rfl (by decide) (by decide) hQ
  · have h := ifp (zb_p0 h3) h
    refine r_iload_n (pc' := 13) dX9_unweave_12 rfl 1 rfl rfl ?_
    refine r_iconst (pc' := 14) (v := 1) dX9_unweave_13 (by decide) rfl ?_
    refine r_aload_n (pc' := 15) dX9_unweave_14 rfl 0 rfl rfl ?_
    refine r_getO (pc' := 18) dX9_unweave_15 fa_X9_9 hm.o rfl hm.r1 rfl ?_
    refine r_iconst (pc' := 19) (v := 5) dX9_unweave_18 (by decide) rfl ?_
    obtain ⟨g10, h⟩ := gd_e h
    refine r_iaload (pc' := 20) dX9_unweave_19 hm.c1 g10 rfl ?_
    refine r_callS3 (pc' := 23) (k' := 0) (n' := 0) dX9_unweave_20 mb_X9_in ms_X9_in lk_X9_78 rfl rfl rfl (Nat.le_of_ble_eq_true rfl) rfl (c_X9_in rfl (cpI ?_))
    refine r_if_eq (tgt := 30) (pc' := 26) dX9_unweave_23 rfl rfl (fun h11 => ?_) (fun h11 => ?_)
    · have h := ifn (zb_n0 h11) h
      refine r_iconst (pc' := 31) (v := 0) dX9_unweave_30 (by decide) rfl ?_
      obtain ⟨z13, I12, ez13, h⟩ := bd2_e h
      refine r_callV2 (pc' := 34) (k' := 0) (n' := 0) dX9_unweave_31 mb_X9_mayTwo mi_X9_mayTwo hm.o (by decide) rfl lk_X9_393 rfl rfl rfl (Nat.le_of_ble_eq_true rfl) rfl (c_X9_mayTwo (b2 := false) hm ez13 (cpI ?_))
      refine r_if_ne (tgt := 39) (pc' := 37) dX9_unweave_34 rfl rfl (fun h14 => ?_) (fun h14 => ?_)
      · have h := ifp (zb_p0 h14) h
        refine r_aload_n (pc' := 40) dX9_unweave_39 rfl 0 rfl rfl ?_
        obtain ⟨I15, eI15, h⟩ := bd_e h
        refine r_callV0 (pc' := 43) (k' := 0) (n' := 0) dX9_unweave_40 mb_X9_remembers mi_X9_remembers hm.o (by decide) rfl lk_X9_481 rfl rfl rfl (Nat.le_of_ble_eq_true rfl) rfl (c_X9_remembers hm eI15 (cpV ?_))
        refine r_aload_n (pc' := 44) dX9_unweave_43 rfl 0 rfl rfl ?_
        refine r_iload_n (pc' := 45) dX9_unweave_44 rfl 1 rfl rfl ?_
        obtain ⟨I16, eI16, h⟩ := bd_e h
        refine r_callV1 (pc' := 48) (k' := 0) (n' := 0) dX9_unweave_45 mb_X9_removes mi_X9_removes hm.o (by decide) rfl lk_X9_214 rfl rfl rfl (Nat.le_of_ble_eq_true rfl) rfl (c_X9_removes hm eI16 (cpV ?_))
        refine r_aload_n (pc' := 49) dX9_unweave_48 rfl 0 rfl rfl ?_
        refine r_getO (pc' := 52) dX9_unweave_49 fa_X9_9 hm.o rfl hm.r1 rfl ?_
        refine r_iconst (pc' := 53) (v := 5) dX9_unweave_52 (by decide) rfl ?_
        obtain ⟨g17, h⟩ := gd_e h
        refine r_iaload (pc' := 54) dX9_unweave_53 hm.c1 g17 rfl ?_
        cases h
        exact r_iret dX9_unweave_54 rfl (by decide) (by decide) hQ
      · have h := ifn (zb_n0 h14) h
        refine r_iconst (pc' := 38) (v := 0) dX9_unweave_37 (by decide) rfl ?_
        cases h
        exact r_iret dX9_unweave_38 rfl (by decide) (by decide) hQ
    · have h := ifp (zb_p0 h11) h
      refine r_iconst (pc' := 27) (v := 1) dX9_unweave_26 (by decide) rfl ?_
      refine r_goto (tgt := 31) dX9_unweave_27 rfl ?_
      obtain ⟨z19, I18, ez19, h⟩ := bd2_e h
      refine r_callV2 (pc' := 34) (k' := 0) (n' := 0) dX9_unweave_31 mb_X9_mayTwo mi_X9_mayTwo hm.o (by decide) rfl lk_X9_393 rfl rfl rfl (Nat.le_of_ble_eq_true rfl) rfl (c_X9_mayTwo (b2 := true) hm ez19 (cpI ?_))
      refine r_if_ne (tgt := 39) (pc' := 37) dX9_unweave_34 rfl rfl (fun h20 => ?_) (fun h20 => ?_)
      · have h := ifp (zb_p0 h20) h
        refine r_aload_n (pc' := 40) dX9_unweave_39 rfl 0 rfl rfl ?_
        obtain ⟨I21, eI21, h⟩ := bd_e h
        refine r_callV0 (pc' := 43) (k' := 0) (n' := 0) dX9_unweave_40 mb_X9_remembers mi_X9_remembers hm.o (by decide) rfl lk_X9_481 rfl rfl rfl (Nat.le_of_ble_eq_true rfl) rfl (c_X9_remembers hm eI21 (cpV ?_))
        refine r_aload_n (pc' := 44) dX9_unweave_43 rfl 0 rfl rfl ?_
        refine r_iload_n (pc' := 45) dX9_unweave_44 rfl 1 rfl rfl ?_
        obtain ⟨I22, eI22, h⟩ := bd_e h
        refine r_callV1 (pc' := 48) (k' := 0) (n' := 0) dX9_unweave_45 mb_X9_removes mi_X9_removes hm.o (by decide) rfl lk_X9_214 rfl rfl rfl (Nat.le_of_ble_eq_true rfl) rfl (c_X9_removes hm eI22 (cpV ?_))
        refine r_aload_n (pc' := 49) dX9_unweave_48 rfl 0 rfl rfl ?_
        refine r_getO (pc' := 52) dX9_unweave_49 fa_X9_9 hm.o rfl hm.r1 rfl ?_
        refine r_iconst (pc' := 53) (v := 5) dX9_unweave_52 (by decide) rfl ?_
        obtain ⟨g23, h⟩ := gd_e h
        refine r_iaload (pc' := 54) dX9_unweave_53 hm.c1 g23 rfl ?_
        cases h
        exact r_iret dX9_unweave_54 rfl (by decide) (by decide) hQ
      · have h := ifn (zb_n0 h20) h
        refine r_iconst (pc' := 38) (v := 0) dX9_unweave_37 (by decide) rfl ?_
        cases h
        exact r_iret dX9_unweave_38 rfl (by decide) (by decide) hQ
set_option maxHeartbeats 4000000 in
theorem fr_X9_unweave {I : JI} {m : Nat} {x1 : Int32} {r : Int32} {J : JI} {z : Nat} (h : s_X9_unweave I m x1 = some (r, J)) (hzm : z < m ∨ m + 11 ≤ z) : J z = I z := by
  unfold s_X9_unweave at h
  obtain ⟨g1, h⟩ := gd_e h
  obtain ⟨g2, h⟩ := gd_e h
  rcases if_e h with h | h
  · obtain ⟨g3, h⟩ := gd_e h
    rcases if_e h with h | h
    · obtain ⟨z19, I18, e4, h⟩ := bd2_e h
      rcases if_e h with h | h
      · obtain ⟨I21, e5, h⟩ := bd_e h
        obtain ⟨I22, e6, h⟩ := bd_e h
        obtain ⟨g7, h⟩ := gd_e h
        cases h
        exact ((fr_X9_removes e6 (by omega)).trans ((fr_X9_remembers e5 (by omega)).trans ((fr_X9_mayTwo e4 (by omega)).trans rfl)))
      · cases h
        exact ((fr_X9_mayTwo e4 (by omega)).trans rfl)
    · obtain ⟨z13, I12, e8, h⟩ := bd2_e h
      rcases if_e h with h | h
      · obtain ⟨I15, e9, h⟩ := bd_e h
        obtain ⟨I16, e10, h⟩ := bd_e h
        obtain ⟨g11, h⟩ := gd_e h
        cases h
        exact ((fr_X9_removes e10 (by omega)).trans ((fr_X9_remembers e9 (by omega)).trans ((fr_X9_mayTwo e8 (by omega)).trans rfl)))
      · cases h
        exact ((fr_X9_mayTwo e8 (by omega)).trans rfl)
  · obtain ⟨z5, I4, e12, h⟩ := bd2_e h
    rcases if_e h with h | h
    · obtain ⟨I7, e13, h⟩ := bd_e h
      obtain ⟨I8, e14, h⟩ := bd_e h
      obtain ⟨g15, h⟩ := gd_e h
      cases h
      exact ((fr_X9_removes e14 (by omega)).trans ((fr_X9_remembers e13 (by omega)).trans ((fr_X9_mayTwo e12 (by omega)).trans rfl)))
    · cases h
      exact ((fr_X9_mayTwo e12 (by omega)).trans rfl)
noncomputable def s_X9_swapCards (I : JI) (m : Nat) (x1 : Int32) (x2 : Int32) : Option (Int32 × JI) :=
  bd2 (s_X9_mayCards I m x1 x2) fun z2 I1 => if z2 = true then (bd (s_X9_remembers I1 m) fun I4 => bd (s_X9_swaps I4 m x1 x2) fun I5 => bd (s_X9_usesOf I5 m x1 x2) fun v6 => some (v6, I5)) else (some (0, I1))
set_option maxHeartbeats 4000000 in
theorem c_X9_swapCards {Ω : JO} {I : JI} {S : JS} {Q : JQ} {m : Nat} {x1 : Int32} {x2 : Int32} {r : Int32} {J : JI} (hm : Is9 S m) (h : s_X9_swapCards I m x1 x2 = some (r, J)) (hQ : Q (.inl (some (.int r))) J S) : Call Ω m_X9_swapCards [.ref m, .int x1, .int x2] I S Q := by
  refine call_of (by decide +kernel) rfl (Nat.le_of_ble_eq_true rfl) ?_
  change AA Ω m_X9_swapCards (FQ Ω m_X9_swapCards Q) 0 0 0 [(0, .ref m), (1, .int x1), (2, .int x2)] [] I S
  unfold s_X9_swapCards at h
  refine r_aload_n (pc' := 1) dX9_swapCards_0 rfl 0 rfl rfl ?_
  refine r_iload_n (pc' := 2) dX9_swapCards_1 rfl 1 rfl rfl ?_
  refine r_iload_n (pc' := 3) dX9_swapCards_2 rfl 2 rfl rfl ?_
  obtain ⟨z2, I1, ez2, h⟩ := bd2_e h
  refine r_callV2 (pc' := 6) (k' := 0) (n' := 0) dX9_swapCards_3 mb_X9_mayCards mi_X9_mayCards hm.o (by decide) rfl lk_X9_427 rfl rfl rfl (Nat.le_of_ble_eq_true rfl) rfl (c_X9_mayCards hm ez2 (cpI ?_))
  refine r_if_ne (tgt := 11) (pc' := 9) dX9_swapCards_6 rfl rfl (fun h3 => ?_) (fun h3 => ?_)
  · have h := ifp (zb_p0 h3) h
    refine r_aload_n (pc' := 12) dX9_swapCards_11 rfl 0 rfl rfl ?_
    obtain ⟨I4, eI4, h⟩ := bd_e h
    refine r_callV0 (pc' := 15) (k' := 0) (n' := 0) dX9_swapCards_12 mb_X9_remembers mi_X9_remembers hm.o (by decide) rfl lk_X9_481 rfl rfl rfl (Nat.le_of_ble_eq_true rfl) rfl (c_X9_remembers hm eI4 (cpV ?_))
    refine r_aload_n (pc' := 16) dX9_swapCards_15 rfl 0 rfl rfl ?_
    refine r_iload_n (pc' := 17) dX9_swapCards_16 rfl 1 rfl rfl ?_
    refine r_iload_n (pc' := 18) dX9_swapCards_17 rfl 2 rfl rfl ?_
    obtain ⟨I5, eI5, h⟩ := bd_e h
    refine r_callV2 (pc' := 21) (k' := 0) (n' := 0) dX9_swapCards_18 mb_X9_swaps mi_X9_swaps hm.o (by decide) rfl lk_X9_220 rfl rfl rfl (Nat.le_of_ble_eq_true rfl) rfl (c_X9_swaps hm eI5 (cpV ?_))
    refine r_aload_n (pc' := 22) dX9_swapCards_21 rfl 0 rfl rfl ?_
    refine r_iload_n (pc' := 23) dX9_swapCards_22 rfl 1 rfl rfl ?_
    refine r_iload_n (pc' := 24) dX9_swapCards_23 rfl 2 rfl rfl ?_
    obtain ⟨v6, ev6, h⟩ := bd_e h
    refine r_callV2 (pc' := 27) (k' := 0) (n' := 0) dX9_swapCards_24 mb_X9_usesOf mi_X9_usesOf hm.o (by decide) rfl lk_X9_433 rfl rfl rfl (Nat.le_of_ble_eq_true rfl) rfl (c_X9_usesOf hm ev6 (cpI ?_))
    cases h
    exact r_iret dX9_swapCards_27 rfl (by decide) (by decide) hQ
  · have h := ifn (zb_n0 h3) h
    refine r_iconst (pc' := 10) (v := 0) dX9_swapCards_9 (by decide) rfl ?_
    cases h
    exact r_iret dX9_swapCards_10 rfl (by decide) (by decide) hQ
set_option maxHeartbeats 4000000 in
theorem fr_X9_swapCards {I : JI} {m : Nat} {x1 : Int32} {x2 : Int32} {r : Int32} {J : JI} {z : Nat} (h : s_X9_swapCards I m x1 x2 = some (r, J)) (hzm : z < m ∨ m + 11 ≤ z) : J z = I z := by
  unfold s_X9_swapCards at h
  obtain ⟨z2, I1, e1, h⟩ := bd2_e h
  rcases if_e h with h | h
  · obtain ⟨I4, e2, h⟩ := bd_e h
    obtain ⟨I5, e3, h⟩ := bd_e h
    obtain ⟨o4, e4, h⟩ := bd_e h
    cases h
    exact ((fr_X9_swaps e3 (by omega)).trans ((fr_X9_remembers e2 (by omega)).trans ((fr_X9_mayCards e1 (by omega)).trans rfl)))
  · cases h
    exact ((fr_X9_mayCards e1 (by omega)).trans rfl)
noncomputable def s_X9_punch (I : JI) (m : Nat) (x1 : Int32) (x2 : Int32) : Option (Bool × JI) :=
  gd ((I m 6) = 0 ∨ (I m 6) = 1) <| bd (s_X9_isCard I m x1) fun z2 => if z2 = true then (bd (s_X9_isHarness I m x2) fun z10 => if z10 = true then (bd2 (s_X9_mayTwo I m (nz (I m 6)) true) fun z19 I18 => if z19 = true then (bd (s_X9_remembers I18 m) fun I21 => bd (s_X9_punches I21 m x1 x2) fun I22 => bd (s_X9_ofCard I22 m x1 0) fun v23 => some ((s_X9_has v23 x2), I22)) else (some (false, I18))) else (bd2 (s_X9_mayTwo I m (nz (I m 6)) false) fun z13 I12 => if z13 = true then (bd (s_X9_remembers I12 m) fun I15 => bd (s_X9_punches I15 m x1 x2) fun I16 => bd (s_X9_ofCard I16 m x1 0) fun v17 => some ((s_X9_has v17 x2), I16)) else (some (false, I12)))) else (bd2 (s_X9_mayTwo I m (nz (I m 6)) false) fun z5 I4 => if z5 = true then (bd (s_X9_remembers I4 m) fun I7 => bd (s_X9_punches I7 m x1 x2) fun I8 => bd (s_X9_ofCard I8 m x1 0) fun v9 => some ((s_X9_has v9 x2), I8)) else (some (false, I4)))
set_option maxHeartbeats 4000000 in
theorem c_X9_punch {Ω : JO} {I : JI} {S : JS} {Q : JQ} {m : Nat} {x1 : Int32} {x2 : Int32} {r : Bool} {J : JI} (hm : Is9 S m) (h : s_X9_punch I m x1 x2 = some (r, J)) (hQ : Q (.inl (some (.int (zb r)))) J S) : Call Ω m_X9_punch [.ref m, .int x1, .int x2] I S Q := by
  refine call_of (by decide +kernel) rfl (Nat.le_of_ble_eq_true rfl) ?_
  change AA Ω m_X9_punch (FQ Ω m_X9_punch Q) 0 0 0 [(0, .ref m), (1, .int x1), (2, .int x2)] [] I S
  unfold s_X9_punch at h
  refine r_aload_n (pc' := 1) dX9_punch_0 rfl 0 rfl rfl ?_
  refine r_aload_n (pc' := 2) dX9_punch_1 rfl 0 rfl rfl ?_
  obtain ⟨g1, h⟩ := gd_e h
  refine r_getZ (pc' := 5) dX9_punch_2 fa_X9_53 hm.o rfl g1 rfl ?_
  refine r_aload_n (pc' := 6) dX9_punch_5 rfl 0 rfl rfl ?_
  refine r_iload_n (pc' := 7) dX9_punch_6 rfl 1 rfl rfl ?_
  obtain ⟨z2, ez2, h⟩ := bd_e h
  refine r_callV1 (pc' := 10) (k' := 0) (n' := 0) dX9_punch_7 mb_X9_isCard mi_X9_isCard hm.o (by decide) rfl lk_X9_400 rfl rfl rfl (Nat.le_of_ble_eq_true rfl) rfl (c_X9_isCard hm ez2 (cpI ?_))
  refine r_if_eq (tgt := 25) (pc' := 13) dX9_punch_10 rfl rfl (fun h3 => ?_) (fun h3 => ?_)
  · have h := ifn (zb_n0 h3) h
    refine r_iconst (pc' := 26) (v := 0) dX9_punch_25 (by decide) rfl ?_
    obtain ⟨z5, I4, ez5, h⟩ := bd2_e h
    refine r_callV2 (pc' := 29) (k' := 0) (n' := 0) dX9_punch_26 mb_X9_mayTwo mi_X9_mayTwo hm.o (by decide) rfl lk_X9_393 rfl rfl rfl (Nat.le_of_ble_eq_true rfl) rfl (c_X9_mayTwo (b2 := false) hm ez5 (cpI ?_))
    refine r_if_ne (tgt := 34) (pc' := 32) dX9_punch_29 rfl rfl (fun h6 => ?_) (fun h6 => ?_)
    · have h := ifp (zb_p0 h6) h
      refine r_aload_n (pc' := 35) dX9_punch_34 rfl 0 rfl rfl ?_
      obtain ⟨I7, eI7, h⟩ := bd_e h
      refine r_callV0 (pc' := 38) (k' := 0) (n' := 0) dX9_punch_35 mb_X9_remembers mi_X9_remembers hm.o (by decide) rfl lk_X9_481 rfl rfl rfl (Nat.le_of_ble_eq_true rfl) rfl (c_X9_remembers hm eI7 (cpV ?_))
      refine r_aload_n (pc' := 39) dX9_punch_38 rfl 0 rfl rfl ?_
      refine r_iload_n (pc' := 40) dX9_punch_39 rfl 1 rfl rfl ?_
      refine r_iload_n (pc' := 41) dX9_punch_40 rfl 2 rfl rfl ?_
      obtain ⟨I8, eI8, h⟩ := bd_e h
      refine r_callV2 (pc' := 44) (k' := 0) (n' := 0) dX9_punch_41 mb_X9_punches mi_X9_punches hm.o (by decide) rfl lk_X9_223 rfl rfl rfl (Nat.le_of_ble_eq_true rfl) rfl (c_X9_punches hm eI8 (cpV ?_))
      refine r_aload_n (pc' := 45) dX9_punch_44 rfl 0 rfl rfl ?_
      refine r_iload_n (pc' := 46) dX9_punch_45 rfl 1 rfl rfl ?_
      refine r_iconst (pc' := 47) (v := 0) dX9_punch_46 (by decide) rfl ?_
      obtain ⟨v9, ev9, h⟩ := bd_e h
      refine r_callV2 (pc' := 50) (k' := 0) (n' := 0) dX9_punch_47 mb_X9_ofCard mi_X9_ofCard hm.o (by decide) rfl lk_X9_232 rfl rfl rfl (Nat.le_of_ble_eq_true rfl) rfl (c_X9_ofCard hm ev9 (cpI ?_))
      refine r_iload_n (pc' := 51) dX9_punch_50 rfl 2 rfl rfl ?_
      refine r_callS2 (pc' := 54) (k' := 0) (n' := 0) dX9_punch_51 mb_X9_has ms_X9_has lk_X9_147 rfl rfl rfl (Nat.le_of_ble_eq_true rfl) rfl (c_X9_has rfl (cpI ?_))
      cases h
      exact r_zret dX9_punch_54 rfl (zb01 _) (by decide) (by decide) hQ
    · have h := ifn (zb_n0 h6) h
      refine r_iconst (pc' := 33) (v := 0) dX9_punch_32 (by decide) rfl ?_
      cases h
      exact r_zret dX9_punch_33 rfl (by decide) (by decide) (by decide) hQ
  · have h := ifp (zb_p0 h3) h
    refine r_aload_n (pc' := 14) dX9_punch_13 rfl 0 rfl rfl ?_
    refine r_iload_n (pc' := 15) dX9_punch_14 rfl 2 rfl rfl ?_
    obtain ⟨z10, ez10, h⟩ := bd_e h
    refine r_callV1 (pc' := 18) (k' := 0) (n' := 0) dX9_punch_15 mb_X9_isHarness mi_X9_isHarness hm.o (by decide) rfl lk_X9_390 rfl rfl rfl (Nat.le_of_ble_eq_true rfl) rfl (c_X9_isHarness hm ez10 (cpI ?_))
    refine r_if_eq (tgt := 25) (pc' := 21) dX9_punch_18 rfl rfl (fun h11 => ?_) (fun h11 => ?_)
    · have h := ifn (zb_n0 h11) h
      refine r_iconst (pc' := 26) (v := 0) dX9_punch_25 (by decide) rfl ?_
      obtain ⟨z13, I12, ez13, h⟩ := bd2_e h
      refine r_callV2 (pc' := 29) (k' := 0) (n' := 0) dX9_punch_26 mb_X9_mayTwo mi_X9_mayTwo hm.o (by decide) rfl lk_X9_393 rfl rfl rfl (Nat.le_of_ble_eq_true rfl) rfl (c_X9_mayTwo (b2 := false) hm ez13 (cpI ?_))
      refine r_if_ne (tgt := 34) (pc' := 32) dX9_punch_29 rfl rfl (fun h14 => ?_) (fun h14 => ?_)
      · have h := ifp (zb_p0 h14) h
        refine r_aload_n (pc' := 35) dX9_punch_34 rfl 0 rfl rfl ?_
        obtain ⟨I15, eI15, h⟩ := bd_e h
        refine r_callV0 (pc' := 38) (k' := 0) (n' := 0) dX9_punch_35 mb_X9_remembers mi_X9_remembers hm.o (by decide) rfl lk_X9_481 rfl rfl rfl (Nat.le_of_ble_eq_true rfl) rfl (c_X9_remembers hm eI15 (cpV ?_))
        refine r_aload_n (pc' := 39) dX9_punch_38 rfl 0 rfl rfl ?_
        refine r_iload_n (pc' := 40) dX9_punch_39 rfl 1 rfl rfl ?_
        refine r_iload_n (pc' := 41) dX9_punch_40 rfl 2 rfl rfl ?_
        obtain ⟨I16, eI16, h⟩ := bd_e h
        refine r_callV2 (pc' := 44) (k' := 0) (n' := 0) dX9_punch_41 mb_X9_punches mi_X9_punches hm.o (by decide) rfl lk_X9_223 rfl rfl rfl (Nat.le_of_ble_eq_true rfl) rfl (c_X9_punches hm eI16 (cpV ?_))
        refine r_aload_n (pc' := 45) dX9_punch_44 rfl 0 rfl rfl ?_
        refine r_iload_n (pc' := 46) dX9_punch_45 rfl 1 rfl rfl ?_
        refine r_iconst (pc' := 47) (v := 0) dX9_punch_46 (by decide) rfl ?_
        obtain ⟨v17, ev17, h⟩ := bd_e h
        refine r_callV2 (pc' := 50) (k' := 0) (n' := 0) dX9_punch_47 mb_X9_ofCard mi_X9_ofCard hm.o (by decide) rfl lk_X9_232 rfl rfl rfl (Nat.le_of_ble_eq_true rfl) rfl (c_X9_ofCard hm ev17 (cpI ?_))
        refine r_iload_n (pc' := 51) dX9_punch_50 rfl 2 rfl rfl ?_
        refine r_callS2 (pc' := 54) (k' := 0) (n' := 0) dX9_punch_51 mb_X9_has ms_X9_has lk_X9_147 rfl rfl rfl (Nat.le_of_ble_eq_true rfl) rfl (c_X9_has rfl (cpI ?_))
        cases h
        exact r_zret dX9_punch_54 rfl (zb01 _) (by decide) (by decide) hQ
      · have h := ifn (zb_n0 h14) h
        refine r_iconst (pc' := 33) (v := 0) dX9_punch_32 (by decide) rfl ?_
        cases h
        exact r_zret dX9_punch_33 rfl (by decide) (by decide) (by decide) hQ
    · have h := ifp (zb_p0 h11) h
      refine r_iconst (pc' := 22) (v := 1) dX9_punch_21 (by decide) rfl ?_
      refine r_goto (tgt := 26) dX9_punch_22 rfl ?_
      obtain ⟨z19, I18, ez19, h⟩ := bd2_e h
      refine r_callV2 (pc' := 29) (k' := 0) (n' := 0) dX9_punch_26 mb_X9_mayTwo mi_X9_mayTwo hm.o (by decide) rfl lk_X9_393 rfl rfl rfl (Nat.le_of_ble_eq_true rfl) rfl (c_X9_mayTwo (b2 := true) hm ez19 (cpI ?_))
      refine r_if_ne (tgt := 34) (pc' := 32) dX9_punch_29 rfl rfl (fun h20 => ?_) (fun h20 => ?_)
      · have h := ifp (zb_p0 h20) h
        refine r_aload_n (pc' := 35) dX9_punch_34 rfl 0 rfl rfl ?_
        obtain ⟨I21, eI21, h⟩ := bd_e h
        refine r_callV0 (pc' := 38) (k' := 0) (n' := 0) dX9_punch_35 mb_X9_remembers mi_X9_remembers hm.o (by decide) rfl lk_X9_481 rfl rfl rfl (Nat.le_of_ble_eq_true rfl) rfl (c_X9_remembers hm eI21 (cpV ?_))
        refine r_aload_n (pc' := 39) dX9_punch_38 rfl 0 rfl rfl ?_
        refine r_iload_n (pc' := 40) dX9_punch_39 rfl 1 rfl rfl ?_
        refine r_iload_n (pc' := 41) dX9_punch_40 rfl 2 rfl rfl ?_
        obtain ⟨I22, eI22, h⟩ := bd_e h
        refine r_callV2 (pc' := 44) (k' := 0) (n' := 0) dX9_punch_41 mb_X9_punches mi_X9_punches hm.o (by decide) rfl lk_X9_223 rfl rfl rfl (Nat.le_of_ble_eq_true rfl) rfl (c_X9_punches hm eI22 (cpV ?_))
        refine r_aload_n (pc' := 45) dX9_punch_44 rfl 0 rfl rfl ?_
        refine r_iload_n (pc' := 46) dX9_punch_45 rfl 1 rfl rfl ?_
        refine r_iconst (pc' := 47) (v := 0) dX9_punch_46 (by decide) rfl ?_
        obtain ⟨v23, ev23, h⟩ := bd_e h
        refine r_callV2 (pc' := 50) (k' := 0) (n' := 0) dX9_punch_47 mb_X9_ofCard mi_X9_ofCard hm.o (by decide) rfl lk_X9_232 rfl rfl rfl (Nat.le_of_ble_eq_true rfl) rfl (c_X9_ofCard hm ev23 (cpI ?_))
        refine r_iload_n (pc' := 51) dX9_punch_50 rfl 2 rfl rfl ?_
        refine r_callS2 (pc' := 54) (k' := 0) (n' := 0) dX9_punch_51 mb_X9_has ms_X9_has lk_X9_147 rfl rfl rfl (Nat.le_of_ble_eq_true rfl) rfl (c_X9_has rfl (cpI ?_))
        cases h
        exact r_zret dX9_punch_54 rfl (zb01 _) (by decide) (by decide) hQ
      · have h := ifn (zb_n0 h20) h
        refine r_iconst (pc' := 33) (v := 0) dX9_punch_32 (by decide) rfl ?_
        cases h
        exact r_zret dX9_punch_33 rfl (by decide) (by decide) (by decide) hQ
set_option maxHeartbeats 4000000 in
theorem fr_X9_punch {I : JI} {m : Nat} {x1 : Int32} {x2 : Int32} {r : Bool} {J : JI} {z : Nat} (h : s_X9_punch I m x1 x2 = some (r, J)) (hzm : z < m ∨ m + 11 ≤ z) : J z = I z := by
  unfold s_X9_punch at h
  obtain ⟨g1, h⟩ := gd_e h
  obtain ⟨o2, e2, h⟩ := bd_e h
  rcases if_e h with h | h
  · obtain ⟨o3, e3, h⟩ := bd_e h
    rcases if_e h with h | h
    · obtain ⟨z19, I18, e4, h⟩ := bd2_e h
      rcases if_e h with h | h
      · obtain ⟨I21, e5, h⟩ := bd_e h
        obtain ⟨I22, e6, h⟩ := bd_e h
        obtain ⟨o7, e7, h⟩ := bd_e h
        cases h
        exact ((fr_X9_punches e6 (by omega)).trans ((fr_X9_remembers e5 (by omega)).trans ((fr_X9_mayTwo e4 (by omega)).trans rfl)))
      · cases h
        exact ((fr_X9_mayTwo e4 (by omega)).trans rfl)
    · obtain ⟨z13, I12, e8, h⟩ := bd2_e h
      rcases if_e h with h | h
      · obtain ⟨I15, e9, h⟩ := bd_e h
        obtain ⟨I16, e10, h⟩ := bd_e h
        obtain ⟨o11, e11, h⟩ := bd_e h
        cases h
        exact ((fr_X9_punches e10 (by omega)).trans ((fr_X9_remembers e9 (by omega)).trans ((fr_X9_mayTwo e8 (by omega)).trans rfl)))
      · cases h
        exact ((fr_X9_mayTwo e8 (by omega)).trans rfl)
  · obtain ⟨z5, I4, e12, h⟩ := bd2_e h
    rcases if_e h with h | h
    · obtain ⟨I7, e13, h⟩ := bd_e h
      obtain ⟨I8, e14, h⟩ := bd_e h
      obtain ⟨o15, e15, h⟩ := bd_e h
      cases h
      exact ((fr_X9_punches e14 (by omega)).trans ((fr_X9_remembers e13 (by omega)).trans ((fr_X9_mayTwo e12 (by omega)).trans rfl)))
    · cases h
      exact ((fr_X9_mayTwo e12 (by omega)).trans rfl)
noncomputable def s_X9_setCardColour (I : JI) (m : Nat) (x1 : Int32) (x2 : Int32) : Option (Int32 × JI) :=
  gd ((I m 6) = 0 ∨ (I m 6) = 1) <| bd (s_X9_isCard I m x1) fun z2 => bd2 (s_X9_may I m (nz (I m 6)) z2 (s_X9_isColour x2)) fun z4 I3 => if z4 = true then (bd (s_X9_remembers I3 m) fun I6 => bd (s_X9_ofCard I6 m x1 1) fun v7 => bd (s_X9_dyes I6 m x1 x2) fun I8 => some (v7, I8)) else (some (0, I3))
set_option maxHeartbeats 4000000 in
theorem c_X9_setCardColour {Ω : JO} {I : JI} {S : JS} {Q : JQ} {m : Nat} {x1 : Int32} {x2 : Int32} {r : Int32} {J : JI} (hm : Is9 S m) (h : s_X9_setCardColour I m x1 x2 = some (r, J)) (hQ : Q (.inl (some (.int r))) J S) : Call Ω m_X9_setCardColour [.ref m, .int x1, .int x2] I S Q := by
  refine call_of (by decide +kernel) rfl (Nat.le_of_ble_eq_true rfl) ?_
  change AA Ω m_X9_setCardColour (FQ Ω m_X9_setCardColour Q) 0 0 0 [(0, .ref m), (1, .int x1), (2, .int x2)] [] I S
  unfold s_X9_setCardColour at h
  refine r_aload_n (pc' := 1) dX9_setCardColour_0 rfl 0 rfl rfl ?_
  refine r_aload_n (pc' := 2) dX9_setCardColour_1 rfl 0 rfl rfl ?_
  obtain ⟨g1, h⟩ := gd_e h
  refine r_getZ (pc' := 5) dX9_setCardColour_2 fa_X9_53 hm.o rfl g1 rfl ?_
  refine r_aload_n (pc' := 6) dX9_setCardColour_5 rfl 0 rfl rfl ?_
  refine r_iload_n (pc' := 7) dX9_setCardColour_6 rfl 1 rfl rfl ?_
  obtain ⟨z2, ez2, h⟩ := bd_e h
  refine r_callV1 (pc' := 10) (k' := 0) (n' := 0) dX9_setCardColour_7 mb_X9_isCard mi_X9_isCard hm.o (by decide) rfl lk_X9_400 rfl rfl rfl (Nat.le_of_ble_eq_true rfl) rfl (c_X9_isCard hm ez2 (cpI ?_))
  refine r_iload_n (pc' := 11) dX9_setCardColour_10 rfl 2 rfl rfl ?_
  refine r_callS1 (pc' := 14) (k' := 0) (n' := 0) dX9_setCardColour_11 mb_X9_isColour ms_X9_isColour lk_X9_406 rfl rfl rfl (Nat.le_of_ble_eq_true rfl) rfl (c_X9_isColour rfl (cpI ?_))
  obtain ⟨z4, I3, ez4, h⟩ := bd2_e h
  refine r_callV3 (pc' := 17) (k' := 0) (n' := 0) dX9_setCardColour_14 mb_X9_may mi_X9_may hm.o (by decide) rfl lk_X9_49 rfl rfl rfl (Nat.le_of_ble_eq_true rfl) rfl (c_X9_may hm ez4 (cpI ?_))
  refine r_if_ne (tgt := 22) (pc' := 20) dX9_setCardColour_17 rfl rfl (fun h5 => ?_) (fun h5 => ?_)
  · have h := ifp (zb_p0 h5) h
    refine r_aload_n (pc' := 23) dX9_setCardColour_22 rfl 0 rfl rfl ?_
    obtain ⟨I6, eI6, h⟩ := bd_e h
    refine r_callV0 (pc' := 26) (k' := 0) (n' := 0) dX9_setCardColour_23 mb_X9_remembers mi_X9_remembers hm.o (by decide) rfl lk_X9_481 rfl rfl rfl (Nat.le_of_ble_eq_true rfl) rfl (c_X9_remembers hm eI6 (cpV ?_))
    refine r_aload_n (pc' := 27) dX9_setCardColour_26 rfl 0 rfl rfl ?_
    refine r_iload_n (pc' := 28) dX9_setCardColour_27 rfl 1 rfl rfl ?_
    refine r_iconst (pc' := 29) (v := 1) dX9_setCardColour_28 (by decide) rfl ?_
    obtain ⟨v7, ev7, h⟩ := bd_e h
    refine r_callV2 (pc' := 32) (k' := 0) (n' := 0) dX9_setCardColour_29 mb_X9_ofCard mi_X9_ofCard hm.o (by decide) rfl lk_X9_232 rfl rfl rfl (Nat.le_of_ble_eq_true rfl) rfl (c_X9_ofCard hm ev7 (cpI ?_))
    refine r_istore_n (pc' := 33) (lv' := [(3, _), (0, _), (1, _), (2, _)]) dX9_setCardColour_32 rfl (by decide) rfl rfl ?_
    refine r_aload_n (pc' := 34) dX9_setCardColour_33 rfl 1 rfl rfl ?_
    refine r_iload_n (pc' := 35) dX9_setCardColour_34 rfl 2 rfl rfl ?_
    refine r_iload_n (pc' := 36) dX9_setCardColour_35 rfl 3 rfl rfl ?_
    obtain ⟨I8, eI8, h⟩ := bd_e h
    refine r_callV2 (pc' := 39) (k' := 0) (n' := 0) dX9_setCardColour_36 mb_X9_dyes mi_X9_dyes hm.o (by decide) rfl lk_X9_226 rfl rfl rfl (Nat.le_of_ble_eq_true rfl) rfl (c_X9_dyes hm eI8 (cpV ?_))
    refine r_iload_n (pc' := 40) dX9_setCardColour_39 rfl 0 rfl rfl ?_
    cases h
    exact r_iret dX9_setCardColour_40 rfl (by decide) (by decide) hQ
  · have h := ifn (zb_n0 h5) h
    refine r_iconst (pc' := 21) (v := 0) dX9_setCardColour_20 (by decide) rfl ?_
    cases h
    exact r_iret dX9_setCardColour_21 rfl (by decide) (by decide) hQ
set_option maxHeartbeats 4000000 in
theorem fr_X9_setCardColour {I : JI} {m : Nat} {x1 : Int32} {x2 : Int32} {r : Int32} {J : JI} {z : Nat} (h : s_X9_setCardColour I m x1 x2 = some (r, J)) (hzm : z < m ∨ m + 11 ≤ z) : J z = I z := by
  unfold s_X9_setCardColour at h
  obtain ⟨g1, h⟩ := gd_e h
  obtain ⟨o2, e2, h⟩ := bd_e h
  obtain ⟨z4, I3, e3, h⟩ := bd2_e h
  rcases if_e h with h | h
  · obtain ⟨I6, e4, h⟩ := bd_e h
    obtain ⟨o5, e5, h⟩ := bd_e h
    obtain ⟨I8, e6, h⟩ := bd_e h
    cases h
    exact ((fr_X9_dyes e6 (by omega)).trans ((fr_X9_remembers e4 (by omega)).trans ((fr_X9_may e3 (by omega)).trans rfl)))
  · cases h
    exact ((fr_X9_may e3 (by omega)).trans rfl)
noncomputable def s_X9_bringYarn (I : JI) (m : Nat) (x1 : Int32) (x2 : Int32) : Option (Int32 × JI) :=
  gd ((I m 6) = 0 ∨ (I m 6) = 1) <| if (s_X9_isColour x1) = true then (if (s_X9_in x2 1 999) = true then (bd2 (s_X9_mayTwo I m (nz (I m 6)) true) fun z17 I16 => if z17 = true then (bd (s_X9_remembers I16 m) fun I19 => bd (s_X9_brings I19 m x1 x2) fun I20 => gd (vp_in (110 + x1) 2030) <| some ((I20 (m + 1) (Int32.toNatClampNeg (110 + x1))), I20)) else (some (0, I16))) else (bd2 (s_X9_mayTwo I m (nz (I m 6)) false) fun z11 I10 => if z11 = true then (bd (s_X9_remembers I10 m) fun I13 => bd (s_X9_brings I13 m x1 x2) fun I14 => gd (vp_in (110 + x1) 2030) <| some ((I14 (m + 1) (Int32.toNatClampNeg (110 + x1))), I14)) else (some (0, I10)))) else (bd2 (s_X9_mayTwo I m (nz (I m 6)) false) fun z4 I3 => if z4 = true then (bd (s_X9_remembers I3 m) fun I6 => bd (s_X9_brings I6 m x1 x2) fun I7 => gd (vp_in (110 + x1) 2030) <| some ((I7 (m + 1) (Int32.toNatClampNeg (110 + x1))), I7)) else (some (0, I3)))
set_option maxHeartbeats 4000000 in
theorem c_X9_bringYarn {Ω : JO} {I : JI} {S : JS} {Q : JQ} {m : Nat} {x1 : Int32} {x2 : Int32} {r : Int32} {J : JI} (hm : Is9 S m) (h : s_X9_bringYarn I m x1 x2 = some (r, J)) (hQ : Q (.inl (some (.int r))) J S) : Call Ω m_X9_bringYarn [.ref m, .int x1, .int x2] I S Q := by
  refine call_of (by decide +kernel) rfl (Nat.le_of_ble_eq_true rfl) ?_
  change AA Ω m_X9_bringYarn (FQ Ω m_X9_bringYarn Q) 0 0 0 [(0, .ref m), (1, .int x1), (2, .int x2)] [] I S
  unfold s_X9_bringYarn at h
  refine r_aload_n (pc' := 1) dX9_bringYarn_0 rfl 0 rfl rfl ?_
  refine r_aload_n (pc' := 2) dX9_bringYarn_1 rfl 0 rfl rfl ?_
  obtain ⟨g1, h⟩ := gd_e h
  refine r_getZ (pc' := 5) dX9_bringYarn_2 fa_X9_53 hm.o rfl g1 rfl ?_
  refine r_iload_n (pc' := 6) dX9_bringYarn_5 rfl 1 rfl rfl ?_
  refine r_callS1 (pc' := 9) (k' := 0) (n' := 0) dX9_bringYarn_6 mb_X9_isColour ms_X9_isColour lk_X9_406 rfl rfl rfl (Nat.le_of_ble_eq_true rfl) rfl (c_X9_isColour rfl (cpI ?_))
  refine r_if_eq (tgt := 27) (pc' := 12) dX9_bringYarn_9 rfl rfl (fun h2 => ?_) (fun h2 => ?_)
  · have h := ifn (zb_n0 h2) h
    refine r_iconst (pc' := 28) (v := 0) dX9_bringYarn_27 (by decide) rfl ?_
    obtain ⟨z4, I3, ez4, h⟩ := bd2_e h
    refine r_callV2 (pc' := 31) (k' := 0) (n' := 0) dX9_bringYarn_28 mb_X9_mayTwo mi_X9_mayTwo hm.o (by decide) rfl lk_X9_393 rfl rfl rfl (Nat.le_of_ble_eq_true rfl) rfl (c_X9_mayTwo (b2 := false) hm ez4 (cpI ?_))
    refine r_if_ne (tgt := 36) (pc' := 34) dX9_bringYarn_31 rfl rfl (fun h5 => ?_) (fun h5 => ?_)
    · have h := ifp (zb_p0 h5) h
      refine r_aload_n (pc' := 37) dX9_bringYarn_36 rfl 0 rfl rfl ?_
      obtain ⟨I6, eI6, h⟩ := bd_e h
      refine r_callV0 (pc' := 40) (k' := 0) (n' := 0) dX9_bringYarn_37 mb_X9_remembers mi_X9_remembers hm.o (by decide) rfl lk_X9_481 rfl rfl rfl (Nat.le_of_ble_eq_true rfl) rfl (c_X9_remembers hm eI6 (cpV ?_))
      refine r_aload_n (pc' := 41) dX9_bringYarn_40 rfl 0 rfl rfl ?_
      refine r_iload_n (pc' := 42) dX9_bringYarn_41 rfl 1 rfl rfl ?_
      refine r_iload_n (pc' := 43) dX9_bringYarn_42 rfl 2 rfl rfl ?_
      obtain ⟨I7, eI7, h⟩ := bd_e h
      refine r_callV2 (pc' := 46) (k' := 0) (n' := 0) dX9_bringYarn_43 mb_X9_brings mi_X9_brings hm.o (by decide) rfl lk_X9_208 rfl rfl rfl (Nat.le_of_ble_eq_true rfl) rfl (c_X9_brings hm eI7 (cpV ?_))
      refine r_aload_n (pc' := 47) dX9_bringYarn_46 rfl 0 rfl rfl ?_
      refine r_getO (pc' := 50) dX9_bringYarn_47 fa_X9_9 hm.o rfl hm.r1 rfl ?_
      refine r_bipush (pc' := 52) (v := 110) dX9_bringYarn_50 (by decide) rfl ?_
      refine r_iload_n (pc' := 53) dX9_bringYarn_52 rfl 1 rfl rfl ?_
      refine r_iadd (pc' := 54) dX9_bringYarn_53 rfl ?_
      obtain ⟨g8, h⟩ := gd_e h
      refine r_iaload (pc' := 55) dX9_bringYarn_54 hm.c1 g8 rfl ?_
      cases h
      exact r_iret dX9_bringYarn_55 rfl (by decide) (by decide) hQ
    · have h := ifn (zb_n0 h5) h
      refine r_iconst (pc' := 35) (v := 0) dX9_bringYarn_34 (by decide) rfl ?_
      cases h
      exact r_iret dX9_bringYarn_35 rfl (by decide) (by decide) hQ
  · have h := ifp (zb_p0 h2) h
    refine r_iload_n (pc' := 13) dX9_bringYarn_12 rfl 2 rfl rfl ?_
    refine r_iconst (pc' := 14) (v := 1) dX9_bringYarn_13 (by decide) rfl ?_
    refine r_sipush (pc' := 17) (v := 999) dX9_bringYarn_14 (by decide) rfl ?_
    refine r_callS3 (pc' := 20) (k' := 0) (n' := 0) dX9_bringYarn_17 mb_X9_in ms_X9_in lk_X9_78 rfl rfl rfl (Nat.le_of_ble_eq_true rfl) rfl (c_X9_in rfl (cpI ?_))
    refine r_if_eq (tgt := 27) (pc' := 23) dX9_bringYarn_20 rfl rfl (fun h9 => ?_) (fun h9 => ?_)
    · have h := ifn (zb_n0 h9) h
      refine r_iconst (pc' := 28) (v := 0) dX9_bringYarn_27 (by decide) rfl ?_
      obtain ⟨z11, I10, ez11, h⟩ := bd2_e h
      refine r_callV2 (pc' := 31) (k' := 0) (n' := 0) dX9_bringYarn_28 mb_X9_mayTwo mi_X9_mayTwo hm.o (by decide) rfl lk_X9_393 rfl rfl rfl (Nat.le_of_ble_eq_true rfl) rfl (c_X9_mayTwo (b2 := false) hm ez11 (cpI ?_))
      refine r_if_ne (tgt := 36) (pc' := 34) dX9_bringYarn_31 rfl rfl (fun h12 => ?_) (fun h12 => ?_)
      · have h := ifp (zb_p0 h12) h
        refine r_aload_n (pc' := 37) dX9_bringYarn_36 rfl 0 rfl rfl ?_
        obtain ⟨I13, eI13, h⟩ := bd_e h
        refine r_callV0 (pc' := 40) (k' := 0) (n' := 0) dX9_bringYarn_37 mb_X9_remembers mi_X9_remembers hm.o (by decide) rfl lk_X9_481 rfl rfl rfl (Nat.le_of_ble_eq_true rfl) rfl (c_X9_remembers hm eI13 (cpV ?_))
        refine r_aload_n (pc' := 41) dX9_bringYarn_40 rfl 0 rfl rfl ?_
        refine r_iload_n (pc' := 42) dX9_bringYarn_41 rfl 1 rfl rfl ?_
        refine r_iload_n (pc' := 43) dX9_bringYarn_42 rfl 2 rfl rfl ?_
        obtain ⟨I14, eI14, h⟩ := bd_e h
        refine r_callV2 (pc' := 46) (k' := 0) (n' := 0) dX9_bringYarn_43 mb_X9_brings mi_X9_brings hm.o (by decide) rfl lk_X9_208 rfl rfl rfl (Nat.le_of_ble_eq_true rfl) rfl (c_X9_brings hm eI14 (cpV ?_))
        refine r_aload_n (pc' := 47) dX9_bringYarn_46 rfl 0 rfl rfl ?_
        refine r_getO (pc' := 50) dX9_bringYarn_47 fa_X9_9 hm.o rfl hm.r1 rfl ?_
        refine r_bipush (pc' := 52) (v := 110) dX9_bringYarn_50 (by decide) rfl ?_
        refine r_iload_n (pc' := 53) dX9_bringYarn_52 rfl 1 rfl rfl ?_
        refine r_iadd (pc' := 54) dX9_bringYarn_53 rfl ?_
        obtain ⟨g15, h⟩ := gd_e h
        refine r_iaload (pc' := 55) dX9_bringYarn_54 hm.c1 g15 rfl ?_
        cases h
        exact r_iret dX9_bringYarn_55 rfl (by decide) (by decide) hQ
      · have h := ifn (zb_n0 h12) h
        refine r_iconst (pc' := 35) (v := 0) dX9_bringYarn_34 (by decide) rfl ?_
        cases h
        exact r_iret dX9_bringYarn_35 rfl (by decide) (by decide) hQ
    · have h := ifp (zb_p0 h9) h
      refine r_iconst (pc' := 24) (v := 1) dX9_bringYarn_23 (by decide) rfl ?_
      refine r_goto (tgt := 28) dX9_bringYarn_24 rfl ?_
      obtain ⟨z17, I16, ez17, h⟩ := bd2_e h
      refine r_callV2 (pc' := 31) (k' := 0) (n' := 0) dX9_bringYarn_28 mb_X9_mayTwo mi_X9_mayTwo hm.o (by decide) rfl lk_X9_393 rfl rfl rfl (Nat.le_of_ble_eq_true rfl) rfl (c_X9_mayTwo (b2 := true) hm ez17 (cpI ?_))
      refine r_if_ne (tgt := 36) (pc' := 34) dX9_bringYarn_31 rfl rfl (fun h18 => ?_) (fun h18 => ?_)
      · have h := ifp (zb_p0 h18) h
        refine r_aload_n (pc' := 37) dX9_bringYarn_36 rfl 0 rfl rfl ?_
        obtain ⟨I19, eI19, h⟩ := bd_e h
        refine r_callV0 (pc' := 40) (k' := 0) (n' := 0) dX9_bringYarn_37 mb_X9_remembers mi_X9_remembers hm.o (by decide) rfl lk_X9_481 rfl rfl rfl (Nat.le_of_ble_eq_true rfl) rfl (c_X9_remembers hm eI19 (cpV ?_))
        refine r_aload_n (pc' := 41) dX9_bringYarn_40 rfl 0 rfl rfl ?_
        refine r_iload_n (pc' := 42) dX9_bringYarn_41 rfl 1 rfl rfl ?_
        refine r_iload_n (pc' := 43) dX9_bringYarn_42 rfl 2 rfl rfl ?_
        obtain ⟨I20, eI20, h⟩ := bd_e h
        refine r_callV2 (pc' := 46) (k' := 0) (n' := 0) dX9_bringYarn_43 mb_X9_brings mi_X9_brings hm.o (by decide) rfl lk_X9_208 rfl rfl rfl (Nat.le_of_ble_eq_true rfl) rfl (c_X9_brings hm eI20 (cpV ?_))
        refine r_aload_n (pc' := 47) dX9_bringYarn_46 rfl 0 rfl rfl ?_
        refine r_getO (pc' := 50) dX9_bringYarn_47 fa_X9_9 hm.o rfl hm.r1 rfl ?_
        refine r_bipush (pc' := 52) (v := 110) dX9_bringYarn_50 (by decide) rfl ?_
        refine r_iload_n (pc' := 53) dX9_bringYarn_52 rfl 1 rfl rfl ?_
        refine r_iadd (pc' := 54) dX9_bringYarn_53 rfl ?_
        obtain ⟨g21, h⟩ := gd_e h
        refine r_iaload (pc' := 55) dX9_bringYarn_54 hm.c1 g21 rfl ?_
        cases h
        exact r_iret dX9_bringYarn_55 rfl (by decide) (by decide) hQ
      · have h := ifn (zb_n0 h18) h
        refine r_iconst (pc' := 35) (v := 0) dX9_bringYarn_34 (by decide) rfl ?_
        cases h
        exact r_iret dX9_bringYarn_35 rfl (by decide) (by decide) hQ
set_option maxHeartbeats 4000000 in
theorem fr_X9_bringYarn {I : JI} {m : Nat} {x1 : Int32} {x2 : Int32} {r : Int32} {J : JI} {z : Nat} (h : s_X9_bringYarn I m x1 x2 = some (r, J)) (hzm : z < m ∨ m + 11 ≤ z) : J z = I z := by
  unfold s_X9_bringYarn at h
  obtain ⟨g1, h⟩ := gd_e h
  rcases if_e h with h | h
  · rcases if_e h with h | h
    · obtain ⟨z17, I16, e2, h⟩ := bd2_e h
      rcases if_e h with h | h
      · obtain ⟨I19, e3, h⟩ := bd_e h
        obtain ⟨I20, e4, h⟩ := bd_e h
        obtain ⟨g5, h⟩ := gd_e h
        cases h
        exact ((fr_X9_brings e4 (by omega)).trans ((fr_X9_remembers e3 (by omega)).trans ((fr_X9_mayTwo e2 (by omega)).trans rfl)))
      · cases h
        exact ((fr_X9_mayTwo e2 (by omega)).trans rfl)
    · obtain ⟨z11, I10, e6, h⟩ := bd2_e h
      rcases if_e h with h | h
      · obtain ⟨I13, e7, h⟩ := bd_e h
        obtain ⟨I14, e8, h⟩ := bd_e h
        obtain ⟨g9, h⟩ := gd_e h
        cases h
        exact ((fr_X9_brings e8 (by omega)).trans ((fr_X9_remembers e7 (by omega)).trans ((fr_X9_mayTwo e6 (by omega)).trans rfl)))
      · cases h
        exact ((fr_X9_mayTwo e6 (by omega)).trans rfl)
  · obtain ⟨z4, I3, e10, h⟩ := bd2_e h
    rcases if_e h with h | h
    · obtain ⟨I6, e11, h⟩ := bd_e h
      obtain ⟨I7, e12, h⟩ := bd_e h
      obtain ⟨g13, h⟩ := gd_e h
      cases h
      exact ((fr_X9_brings e12 (by omega)).trans ((fr_X9_remembers e11 (by omega)).trans ((fr_X9_mayTwo e10 (by omega)).trans rfl)))
    · cases h
      exact ((fr_X9_mayTwo e10 (by omega)).trans rfl)
noncomputable def s_X9_oil (I : JI) (m : Nat) (x1 : Int32) : Option (Int32 × JI) :=
  bd2 (s_X9_mayHarness I m x1) fun z2 I1 => if z2 = true then (bd (s_X9_remembers I1 m) fun I4 => bd (s_X9_ofHarness I4 m x1 1) fun v5 => bd (s_X9_oils I4 m x1) fun I6 => some (v5, I6)) else (some (0, I1))
set_option maxHeartbeats 4000000 in
theorem c_X9_oil {Ω : JO} {I : JI} {S : JS} {Q : JQ} {m : Nat} {x1 : Int32} {r : Int32} {J : JI} (hm : Is9 S m) (h : s_X9_oil I m x1 = some (r, J)) (hQ : Q (.inl (some (.int r))) J S) : Call Ω m_X9_oil [.ref m, .int x1] I S Q := by
  refine call_of (by decide +kernel) rfl (Nat.le_of_ble_eq_true rfl) ?_
  change AA Ω m_X9_oil (FQ Ω m_X9_oil Q) 0 0 0 [(0, .ref m), (1, .int x1)] [] I S
  unfold s_X9_oil at h
  refine r_aload_n (pc' := 1) dX9_oil_0 rfl 0 rfl rfl ?_
  refine r_iload_n (pc' := 2) dX9_oil_1 rfl 1 rfl rfl ?_
  obtain ⟨z2, I1, ez2, h⟩ := bd2_e h
  refine r_callV1 (pc' := 5) (k' := 0) (n' := 0) dX9_oil_2 mb_X9_mayHarness mi_X9_mayHarness hm.o (by decide) rfl lk_X9_418 rfl rfl rfl (Nat.le_of_ble_eq_true rfl) rfl (c_X9_mayHarness hm ez2 (cpI ?_))
  refine r_if_ne (tgt := 10) (pc' := 8) dX9_oil_5 rfl rfl (fun h3 => ?_) (fun h3 => ?_)
  · have h := ifp (zb_p0 h3) h
    refine r_aload_n (pc' := 11) dX9_oil_10 rfl 0 rfl rfl ?_
    obtain ⟨I4, eI4, h⟩ := bd_e h
    refine r_callV0 (pc' := 14) (k' := 0) (n' := 0) dX9_oil_11 mb_X9_remembers mi_X9_remembers hm.o (by decide) rfl lk_X9_481 rfl rfl rfl (Nat.le_of_ble_eq_true rfl) rfl (c_X9_remembers hm eI4 (cpV ?_))
    refine r_aload_n (pc' := 15) dX9_oil_14 rfl 0 rfl rfl ?_
    refine r_iload_n (pc' := 16) dX9_oil_15 rfl 1 rfl rfl ?_
    refine r_iconst (pc' := 17) (v := 1) dX9_oil_16 (by decide) rfl ?_
    obtain ⟨v5, ev5, h⟩ := bd_e h
    refine r_callV2 (pc' := 20) (k' := 0) (n' := 0) dX9_oil_17 mb_X9_ofHarness mi_X9_ofHarness hm.o (by decide) rfl lk_X9_346 rfl rfl rfl (Nat.le_of_ble_eq_true rfl) rfl (c_X9_ofHarness hm ev5 (cpI ?_))
    refine r_istore_n (pc' := 21) (lv' := [(2, _), (0, _), (1, _)]) dX9_oil_20 rfl (by decide) rfl rfl ?_
    refine r_aload_n (pc' := 22) dX9_oil_21 rfl 1 rfl rfl ?_
    refine r_iload_n (pc' := 23) dX9_oil_22 rfl 2 rfl rfl ?_
    obtain ⟨I6, eI6, h⟩ := bd_e h
    refine r_callV1 (pc' := 26) (k' := 0) (n' := 0) dX9_oil_23 mb_X9_oils mi_X9_oils hm.o (by decide) rfl lk_X9_229 rfl rfl rfl (Nat.le_of_ble_eq_true rfl) rfl (c_X9_oils hm eI6 (cpV ?_))
    refine r_iload_n (pc' := 27) dX9_oil_26 rfl 0 rfl rfl ?_
    cases h
    exact r_iret dX9_oil_27 rfl (by decide) (by decide) hQ
  · have h := ifn (zb_n0 h3) h
    refine r_iconst (pc' := 9) (v := 0) dX9_oil_8 (by decide) rfl ?_
    cases h
    exact r_iret dX9_oil_9 rfl (by decide) (by decide) hQ
set_option maxHeartbeats 4000000 in
theorem fr_X9_oil {I : JI} {m : Nat} {x1 : Int32} {r : Int32} {J : JI} {z : Nat} (h : s_X9_oil I m x1 = some (r, J)) (hzm : z < m ∨ m + 11 ≤ z) : J z = I z := by
  unfold s_X9_oil at h
  obtain ⟨z2, I1, e1, h⟩ := bd2_e h
  rcases if_e h with h | h
  · obtain ⟨I4, e2, h⟩ := bd_e h
    obtain ⟨o3, e3, h⟩ := bd_e h
    obtain ⟨I6, e4, h⟩ := bd_e h
    cases h
    exact ((fr_X9_oils e4 (by omega)).trans ((fr_X9_remembers e2 (by omega)).trans ((fr_X9_mayHarness e1 (by omega)).trans rfl)))
  · cases h
    exact ((fr_X9_mayHarness e1 (by omega)).trans rfl)
noncomputable def s_X9_mend (I : JI) (m : Nat) (x1 : Int32) : Option (Int32 × JI) :=
  bd (s_X9_isWarp I m x1) fun z1 => gd ((I m 6) = 0 ∨ (I m 6) = 1) <| if z1 = true then (bd (s_X9_breaks I m x1) fun z10 => if z10 = true then (bd2 (s_X9_may I m (nz (I m 6)) z1 true) fun z19 I18 => if z19 = true then (bd (s_X9_remembers I18 m) fun I21 => bd (s_X9_putsWarp I21 m x1 2 0) fun I22 => bd (s_X9_brokenOnes I22 m) fun v23 => some (v23, I22)) else (some (0, I18))) else (bd2 (s_X9_may I m (nz (I m 6)) z1 false) fun z13 I12 => if z13 = true then (bd (s_X9_remembers I12 m) fun I15 => bd (s_X9_putsWarp I15 m x1 2 0) fun I16 => bd (s_X9_brokenOnes I16 m) fun v17 => some (v17, I16)) else (some (0, I12)))) else (bd2 (s_X9_may I m (nz (I m 6)) z1 false) fun z5 I4 => if z5 = true then (bd (s_X9_remembers I4 m) fun I7 => bd (s_X9_putsWarp I7 m x1 2 0) fun I8 => bd (s_X9_brokenOnes I8 m) fun v9 => some (v9, I8)) else (some (0, I4)))
set_option maxHeartbeats 4000000 in
theorem c_X9_mend {Ω : JO} {I : JI} {S : JS} {Q : JQ} {m : Nat} {x1 : Int32} {r : Int32} {J : JI} (hm : Is9 S m) (h : s_X9_mend I m x1 = some (r, J)) (hQ : Q (.inl (some (.int r))) J S) : Call Ω m_X9_mend [.ref m, .int x1] I S Q := by
  refine call_of (by decide +kernel) rfl (Nat.le_of_ble_eq_true rfl) ?_
  change AA Ω m_X9_mend (FQ Ω m_X9_mend Q) 0 0 0 [(0, .ref m), (1, .int x1)] [] I S
  unfold s_X9_mend at h
  refine r_aload_n (pc' := 1) dX9_mend_0 rfl 0 rfl rfl ?_
  refine r_iload_n (pc' := 2) dX9_mend_1 rfl 1 rfl rfl ?_
  obtain ⟨z1, ez1, h⟩ := bd_e h
  refine r_callV1 (pc' := 5) (k' := 0) (n' := 0) dX9_mend_2 mb_X9_isWarp mi_X9_isWarp hm.o (by decide) rfl lk_X9_397 rfl rfl rfl (Nat.le_of_ble_eq_true rfl) rfl (c_X9_isWarp hm ez1 (cpI ?_))
  refine r_istore_n (pc' := 6) (lv' := [(2, _), (0, _), (1, _)]) dX9_mend_5 rfl (by decide) rfl rfl ?_
  refine r_aload_n (pc' := 7) dX9_mend_6 rfl 1 rfl rfl ?_
  refine r_aload_n (pc' := 8) dX9_mend_7 rfl 1 rfl rfl ?_
  obtain ⟨g2, h⟩ := gd_e h
  refine r_getZ (pc' := 11) dX9_mend_8 fa_X9_53 hm.o rfl g2 rfl ?_
  refine r_iload_n (pc' := 12) dX9_mend_11 rfl 0 rfl rfl ?_
  refine r_iload_n (pc' := 13) dX9_mend_12 rfl 0 rfl rfl ?_
  refine r_if_eq (tgt := 28) (pc' := 16) dX9_mend_13 rfl rfl (fun h3 => ?_) (fun h3 => ?_)
  · have h := ifn (zb_n0 h3) h
    refine r_iconst (pc' := 29) (v := 0) dX9_mend_28 (by decide) rfl ?_
    obtain ⟨z5, I4, ez5, h⟩ := bd2_e h
    refine r_callV3 (pc' := 32) (k' := 0) (n' := 0) dX9_mend_29 mb_X9_may mi_X9_may hm.o (by decide) rfl lk_X9_49 rfl rfl rfl (Nat.le_of_ble_eq_true rfl) rfl (c_X9_may (b3 := false) hm ez5 (cpI ?_))
    refine r_if_ne (tgt := 37) (pc' := 35) dX9_mend_32 rfl rfl (fun h6 => ?_) (fun h6 => ?_)
    · have h := ifp (zb_p0 h6) h
      refine r_aload_n (pc' := 38) dX9_mend_37 rfl 1 rfl rfl ?_
      obtain ⟨I7, eI7, h⟩ := bd_e h
      refine r_callV0 (pc' := 41) (k' := 0) (n' := 0) dX9_mend_38 mb_X9_remembers mi_X9_remembers hm.o (by decide) rfl lk_X9_481 rfl rfl rfl (Nat.le_of_ble_eq_true rfl) rfl (c_X9_remembers hm eI7 (cpV ?_))
      refine r_aload_n (pc' := 42) dX9_mend_41 rfl 1 rfl rfl ?_
      refine r_iload_n (pc' := 43) dX9_mend_42 rfl 2 rfl rfl ?_
      refine r_iconst (pc' := 44) (v := 2) dX9_mend_43 (by decide) rfl ?_
      refine r_iconst (pc' := 45) (v := 0) dX9_mend_44 (by decide) rfl ?_
      obtain ⟨I8, eI8, h⟩ := bd_e h
      refine r_callV3 (pc' := 48) (k' := 0) (n' := 0) dX9_mend_45 mb_X9_putsWarp mi_X9_putsWarp hm.o (by decide) rfl lk_X9_134 rfl rfl rfl (Nat.le_of_ble_eq_true rfl) rfl (c_X9_putsWarp hm eI8 (cpV ?_))
      refine r_aload_n (pc' := 49) dX9_mend_48 rfl 1 rfl rfl ?_
      obtain ⟨v9, ev9, h⟩ := bd_e h
      refine r_callV0 (pc' := 52) (k' := 0) (n' := 0) dX9_mend_49 mb_X9_brokenOnes mi_X9_brokenOnes hm.o (by decide) rfl lk_X9_421 rfl rfl rfl (Nat.le_of_ble_eq_true rfl) rfl (c_X9_brokenOnes hm ev9 (cpI ?_))
      cases h
      exact r_iret dX9_mend_52 rfl (by decide) (by decide) hQ
    · have h := ifn (zb_n0 h6) h
      refine r_iconst (pc' := 36) (v := 0) dX9_mend_35 (by decide) rfl ?_
      cases h
      exact r_iret dX9_mend_36 rfl (by decide) (by decide) hQ
  · have h := ifp (zb_p0 h3) h
    refine r_aload_n (pc' := 17) dX9_mend_16 rfl 1 rfl rfl ?_
    refine r_iload_n (pc' := 18) dX9_mend_17 rfl 2 rfl rfl ?_
    obtain ⟨z10, ez10, h⟩ := bd_e h
    refine r_callV1 (pc' := 21) (k' := 0) (n' := 0) dX9_mend_18 mb_X9_breaks mi_X9_breaks hm.o (by decide) rfl lk_X9_235 rfl rfl rfl (Nat.le_of_ble_eq_true rfl) rfl (c_X9_breaks hm ez10 (cpI ?_))
    refine r_if_eq (tgt := 28) (pc' := 24) dX9_mend_21 rfl rfl (fun h11 => ?_) (fun h11 => ?_)
    · have h := ifn (zb_n0 h11) h
      refine r_iconst (pc' := 29) (v := 0) dX9_mend_28 (by decide) rfl ?_
      obtain ⟨z13, I12, ez13, h⟩ := bd2_e h
      refine r_callV3 (pc' := 32) (k' := 0) (n' := 0) dX9_mend_29 mb_X9_may mi_X9_may hm.o (by decide) rfl lk_X9_49 rfl rfl rfl (Nat.le_of_ble_eq_true rfl) rfl (c_X9_may (b3 := false) hm ez13 (cpI ?_))
      refine r_if_ne (tgt := 37) (pc' := 35) dX9_mend_32 rfl rfl (fun h14 => ?_) (fun h14 => ?_)
      · have h := ifp (zb_p0 h14) h
        refine r_aload_n (pc' := 38) dX9_mend_37 rfl 1 rfl rfl ?_
        obtain ⟨I15, eI15, h⟩ := bd_e h
        refine r_callV0 (pc' := 41) (k' := 0) (n' := 0) dX9_mend_38 mb_X9_remembers mi_X9_remembers hm.o (by decide) rfl lk_X9_481 rfl rfl rfl (Nat.le_of_ble_eq_true rfl) rfl (c_X9_remembers hm eI15 (cpV ?_))
        refine r_aload_n (pc' := 42) dX9_mend_41 rfl 1 rfl rfl ?_
        refine r_iload_n (pc' := 43) dX9_mend_42 rfl 2 rfl rfl ?_
        refine r_iconst (pc' := 44) (v := 2) dX9_mend_43 (by decide) rfl ?_
        refine r_iconst (pc' := 45) (v := 0) dX9_mend_44 (by decide) rfl ?_
        obtain ⟨I16, eI16, h⟩ := bd_e h
        refine r_callV3 (pc' := 48) (k' := 0) (n' := 0) dX9_mend_45 mb_X9_putsWarp mi_X9_putsWarp hm.o (by decide) rfl lk_X9_134 rfl rfl rfl (Nat.le_of_ble_eq_true rfl) rfl (c_X9_putsWarp hm eI16 (cpV ?_))
        refine r_aload_n (pc' := 49) dX9_mend_48 rfl 1 rfl rfl ?_
        obtain ⟨v17, ev17, h⟩ := bd_e h
        refine r_callV0 (pc' := 52) (k' := 0) (n' := 0) dX9_mend_49 mb_X9_brokenOnes mi_X9_brokenOnes hm.o (by decide) rfl lk_X9_421 rfl rfl rfl (Nat.le_of_ble_eq_true rfl) rfl (c_X9_brokenOnes hm ev17 (cpI ?_))
        cases h
        exact r_iret dX9_mend_52 rfl (by decide) (by decide) hQ
      · have h := ifn (zb_n0 h14) h
        refine r_iconst (pc' := 36) (v := 0) dX9_mend_35 (by decide) rfl ?_
        cases h
        exact r_iret dX9_mend_36 rfl (by decide) (by decide) hQ
    · have h := ifp (zb_p0 h11) h
      refine r_iconst (pc' := 25) (v := 1) dX9_mend_24 (by decide) rfl ?_
      refine r_goto (tgt := 29) dX9_mend_25 rfl ?_
      obtain ⟨z19, I18, ez19, h⟩ := bd2_e h
      refine r_callV3 (pc' := 32) (k' := 0) (n' := 0) dX9_mend_29 mb_X9_may mi_X9_may hm.o (by decide) rfl lk_X9_49 rfl rfl rfl (Nat.le_of_ble_eq_true rfl) rfl (c_X9_may (b3 := true) hm ez19 (cpI ?_))
      refine r_if_ne (tgt := 37) (pc' := 35) dX9_mend_32 rfl rfl (fun h20 => ?_) (fun h20 => ?_)
      · have h := ifp (zb_p0 h20) h
        refine r_aload_n (pc' := 38) dX9_mend_37 rfl 1 rfl rfl ?_
        obtain ⟨I21, eI21, h⟩ := bd_e h
        refine r_callV0 (pc' := 41) (k' := 0) (n' := 0) dX9_mend_38 mb_X9_remembers mi_X9_remembers hm.o (by decide) rfl lk_X9_481 rfl rfl rfl (Nat.le_of_ble_eq_true rfl) rfl (c_X9_remembers hm eI21 (cpV ?_))
        refine r_aload_n (pc' := 42) dX9_mend_41 rfl 1 rfl rfl ?_
        refine r_iload_n (pc' := 43) dX9_mend_42 rfl 2 rfl rfl ?_
        refine r_iconst (pc' := 44) (v := 2) dX9_mend_43 (by decide) rfl ?_
        refine r_iconst (pc' := 45) (v := 0) dX9_mend_44 (by decide) rfl ?_
        obtain ⟨I22, eI22, h⟩ := bd_e h
        refine r_callV3 (pc' := 48) (k' := 0) (n' := 0) dX9_mend_45 mb_X9_putsWarp mi_X9_putsWarp hm.o (by decide) rfl lk_X9_134 rfl rfl rfl (Nat.le_of_ble_eq_true rfl) rfl (c_X9_putsWarp hm eI22 (cpV ?_))
        refine r_aload_n (pc' := 49) dX9_mend_48 rfl 1 rfl rfl ?_
        obtain ⟨v23, ev23, h⟩ := bd_e h
        refine r_callV0 (pc' := 52) (k' := 0) (n' := 0) dX9_mend_49 mb_X9_brokenOnes mi_X9_brokenOnes hm.o (by decide) rfl lk_X9_421 rfl rfl rfl (Nat.le_of_ble_eq_true rfl) rfl (c_X9_brokenOnes hm ev23 (cpI ?_))
        cases h
        exact r_iret dX9_mend_52 rfl (by decide) (by decide) hQ
      · have h := ifn (zb_n0 h20) h
        refine r_iconst (pc' := 36) (v := 0) dX9_mend_35 (by decide) rfl ?_
        cases h
        exact r_iret dX9_mend_36 rfl (by decide) (by decide) hQ
set_option maxHeartbeats 4000000 in
theorem fr_X9_mend {I : JI} {m : Nat} {x1 : Int32} {r : Int32} {J : JI} {z : Nat} (h : s_X9_mend I m x1 = some (r, J)) (hzm : z < m ∨ m + 11 ≤ z) : J z = I z := by
  unfold s_X9_mend at h
  obtain ⟨o1, e1, h⟩ := bd_e h
  obtain ⟨g2, h⟩ := gd_e h
  rcases if_e h with h | h
  · obtain ⟨o3, e3, h⟩ := bd_e h
    rcases if_e h with h | h
    · obtain ⟨z19, I18, e4, h⟩ := bd2_e h
      rcases if_e h with h | h
      · obtain ⟨I21, e5, h⟩ := bd_e h
        obtain ⟨I22, e6, h⟩ := bd_e h
        obtain ⟨o7, e7, h⟩ := bd_e h
        cases h
        exact ((fr_X9_putsWarp e6 (by omega)).trans ((fr_X9_remembers e5 (by omega)).trans ((fr_X9_may e4 (by omega)).trans rfl)))
      · cases h
        exact ((fr_X9_may e4 (by omega)).trans rfl)
    · obtain ⟨z13, I12, e8, h⟩ := bd2_e h
      rcases if_e h with h | h
      · obtain ⟨I15, e9, h⟩ := bd_e h
        obtain ⟨I16, e10, h⟩ := bd_e h
        obtain ⟨o11, e11, h⟩ := bd_e h
        cases h
        exact ((fr_X9_putsWarp e10 (by omega)).trans ((fr_X9_remembers e9 (by omega)).trans ((fr_X9_may e8 (by omega)).trans rfl)))
      · cases h
        exact ((fr_X9_may e8 (by omega)).trans rfl)
  · obtain ⟨z5, I4, e12, h⟩ := bd2_e h
    rcases if_e h with h | h
    · obtain ⟨I7, e13, h⟩ := bd_e h
      obtain ⟨I8, e14, h⟩ := bd_e h
      obtain ⟨o15, e15, h⟩ := bd_e h
      cases h
      exact ((fr_X9_putsWarp e14 (by omega)).trans ((fr_X9_remembers e13 (by omega)).trans ((fr_X9_may e12 (by omega)).trans rfl)))
    · cases h
      exact ((fr_X9_may e12 (by omega)).trans rfl)
noncomputable def s_X9_undo (I : JI) (m : Nat) : Option (Int32 × JI) :=
  if (I m 7) ≤ 0 then (bd2 (s_X9_may I m false true true) fun z3 I2 => if z3 = true then (lx (stI I2 m 7 ((I2 m 7) - 1)) fun I5 => bd (s_X9_lays I5 (m + 3) (m + 1) 16240 ((I5 m 7) * 2030) 2030 0) fun I6 => some ((I6 m 7), I6)) else (some (0, I2))) else (bd2 (s_X9_may I m true true true) fun z8 I7 => if z8 = true then (lx (stI I7 m 7 ((I7 m 7) - 1)) fun I10 => bd (s_X9_lays I10 (m + 3) (m + 1) 16240 ((I10 m 7) * 2030) 2030 0) fun I11 => some ((I11 m 7), I11)) else (some (0, I7)))
set_option maxHeartbeats 4000000 in
theorem c_X9_undo {Ω : JO} {I : JI} {S : JS} {Q : JQ} {m : Nat} {r : Int32} {J : JI} (hm : Is9 S m) (h : s_X9_undo I m = some (r, J)) (hQ : Q (.inl (some (.int r))) J S) : Call Ω m_X9_undo [.ref m] I S Q := by
  refine call_of (by decide +kernel) rfl (Nat.le_of_ble_eq_true rfl) ?_
  change AA Ω m_X9_undo (FQ Ω m_X9_undo Q) 0 0 0 [(0, .ref m)] [] I S
  unfold s_X9_undo at h
  refine r_aload_n (pc' := 1) dX9_undo_0 rfl 0 rfl rfl ?_
  refine r_aload_n (pc' := 2) dX9_undo_1 rfl 0 rfl rfl ?_
  refine r_getI (pc' := 5) dX9_undo_2 fa_X9_321 hm.o rfl rfl ?_
  refine r_if_le (tgt := 12) (pc' := 8) dX9_undo_5 rfl rfl (fun h1 => ?_) (fun h1 => ?_)
  · have h := ifp h1 h
    refine r_iconst (pc' := 13) (v := 0) dX9_undo_12 (by decide) rfl ?_
    refine r_iconst (pc' := 14) (v := 1) dX9_undo_13 (by decide) rfl ?_
    refine r_iconst (pc' := 15) (v := 1) dX9_undo_14 (by decide) rfl ?_
    obtain ⟨z3, I2, ez3, h⟩ := bd2_e h
    refine r_callV3 (pc' := 18) (k' := 0) (n' := 0) dX9_undo_15 mb_X9_may mi_X9_may hm.o (by decide) rfl lk_X9_49 rfl rfl rfl (Nat.le_of_ble_eq_true rfl) rfl (c_X9_may (b1 := false) (b2 := true) (b3 := true) hm ez3 (cpI ?_))
    refine r_if_ne (tgt := 23) (pc' := 21) dX9_undo_18 rfl rfl (fun h4 => ?_) (fun h4 => ?_)
    · have h := ifp (zb_p0 h4) h
      refine r_aload_n (pc' := 24) dX9_undo_23 rfl 0 rfl rfl ?_
      refine r_dup (pc' := 25) dX9_undo_24 rfl rfl ?_
      refine r_getI (pc' := 28) dX9_undo_25 fa_X9_321 hm.o rfl rfl ?_
      refine r_iconst (pc' := 29) (v := 1) dX9_undo_28 (by decide) rfl ?_
      refine r_isub (pc' := 30) dX9_undo_29 rfl ?_
      refine r_putI (pc' := 33) dX9_undo_30 fa_X9_321 hm.o rfl rfl ?_
      have h := lx_e h
      refine r_aload_n (pc' := 34) dX9_undo_33 rfl 0 rfl rfl ?_
      refine r_getO (pc' := 37) dX9_undo_34 fa_X9_16 hm.o rfl hm.r3 rfl ?_
      refine r_aload_n (pc' := 38) dX9_undo_37 rfl 0 rfl rfl ?_
      refine r_getI (pc' := 41) dX9_undo_38 fa_X9_321 hm.o rfl rfl ?_
      refine r_sipush (pc' := 44) (v := 2030) dX9_undo_41 (by decide) rfl ?_
      refine r_imul (pc' := 45) dX9_undo_44 rfl ?_
      refine r_aload_n (pc' := 46) dX9_undo_45 rfl 0 rfl rfl ?_
      refine r_getO (pc' := 49) dX9_undo_46 fa_X9_9 hm.o rfl hm.r1 rfl ?_
      refine r_iconst (pc' := 50) (v := 0) dX9_undo_49 (by decide) rfl ?_
      obtain ⟨I6, eI6, h⟩ := bd_e h
      refine r_callS4 (pc' := 53) (k' := 0) (n' := 0) dX9_undo_50 mb_X9_lays ms_X9_lays lk_X9_57 rfl rfl rfl (Nat.le_of_ble_eq_true rfl) rfl (c_X9_lays hm.c3 (by decide) hm.c1 (by decide) eI6 (cpV ?_))
      refine r_aload_n (pc' := 54) dX9_undo_53 rfl 0 rfl rfl ?_
      refine r_getI (pc' := 57) dX9_undo_54 fa_X9_321 hm.o rfl rfl ?_
      cases h
      exact r_iret dX9_undo_57 rfl (by decide) (by decide) hQ
    · have h := ifn (zb_n0 h4) h
      refine r_iconst (pc' := 22) (v := 0) dX9_undo_21 (by decide) rfl ?_
      cases h
      exact r_iret dX9_undo_22 rfl (by decide) (by decide) hQ
  · have h := ifn h1 h
    refine r_iconst (pc' := 9) (v := 1) dX9_undo_8 (by decide) rfl ?_
    refine r_goto (tgt := 13) dX9_undo_9 rfl ?_
    refine r_iconst (pc' := 14) (v := 1) dX9_undo_13 (by decide) rfl ?_
    refine r_iconst (pc' := 15) (v := 1) dX9_undo_14 (by decide) rfl ?_
    obtain ⟨z8, I7, ez8, h⟩ := bd2_e h
    refine r_callV3 (pc' := 18) (k' := 0) (n' := 0) dX9_undo_15 mb_X9_may mi_X9_may hm.o (by decide) rfl lk_X9_49 rfl rfl rfl (Nat.le_of_ble_eq_true rfl) rfl (c_X9_may (b1 := true) (b2 := true) (b3 := true) hm ez8 (cpI ?_))
    refine r_if_ne (tgt := 23) (pc' := 21) dX9_undo_18 rfl rfl (fun h9 => ?_) (fun h9 => ?_)
    · have h := ifp (zb_p0 h9) h
      refine r_aload_n (pc' := 24) dX9_undo_23 rfl 0 rfl rfl ?_
      refine r_dup (pc' := 25) dX9_undo_24 rfl rfl ?_
      refine r_getI (pc' := 28) dX9_undo_25 fa_X9_321 hm.o rfl rfl ?_
      refine r_iconst (pc' := 29) (v := 1) dX9_undo_28 (by decide) rfl ?_
      refine r_isub (pc' := 30) dX9_undo_29 rfl ?_
      refine r_putI (pc' := 33) dX9_undo_30 fa_X9_321 hm.o rfl rfl ?_
      have h := lx_e h
      refine r_aload_n (pc' := 34) dX9_undo_33 rfl 0 rfl rfl ?_
      refine r_getO (pc' := 37) dX9_undo_34 fa_X9_16 hm.o rfl hm.r3 rfl ?_
      refine r_aload_n (pc' := 38) dX9_undo_37 rfl 0 rfl rfl ?_
      refine r_getI (pc' := 41) dX9_undo_38 fa_X9_321 hm.o rfl rfl ?_
      refine r_sipush (pc' := 44) (v := 2030) dX9_undo_41 (by decide) rfl ?_
      refine r_imul (pc' := 45) dX9_undo_44 rfl ?_
      refine r_aload_n (pc' := 46) dX9_undo_45 rfl 0 rfl rfl ?_
      refine r_getO (pc' := 49) dX9_undo_46 fa_X9_9 hm.o rfl hm.r1 rfl ?_
      refine r_iconst (pc' := 50) (v := 0) dX9_undo_49 (by decide) rfl ?_
      obtain ⟨I11, eI11, h⟩ := bd_e h
      refine r_callS4 (pc' := 53) (k' := 0) (n' := 0) dX9_undo_50 mb_X9_lays ms_X9_lays lk_X9_57 rfl rfl rfl (Nat.le_of_ble_eq_true rfl) rfl (c_X9_lays hm.c3 (by decide) hm.c1 (by decide) eI11 (cpV ?_))
      refine r_aload_n (pc' := 54) dX9_undo_53 rfl 0 rfl rfl ?_
      refine r_getI (pc' := 57) dX9_undo_54 fa_X9_321 hm.o rfl rfl ?_
      cases h
      exact r_iret dX9_undo_57 rfl (by decide) (by decide) hQ
    · have h := ifn (zb_n0 h9) h
      refine r_iconst (pc' := 22) (v := 0) dX9_undo_21 (by decide) rfl ?_
      cases h
      exact r_iret dX9_undo_22 rfl (by decide) (by decide) hQ
set_option maxHeartbeats 4000000 in
theorem fr_X9_undo {I : JI} {m : Nat} {r : Int32} {J : JI} {z : Nat} (h : s_X9_undo I m = some (r, J)) (hzm : z < m ∨ m + 11 ≤ z) : J z = I z := by
  unfold s_X9_undo at h
  rcases if_e h with h | h
  · obtain ⟨z3, I2, e1, h⟩ := bd2_e h
    rcases if_e h with h | h
    · have h := lx_e h
      obtain ⟨I6, e2, h⟩ := bd_e h
      cases h
      exact ((fr_X9_lays e2 (by omega) (by omega)).trans ((fr_stI (by omega)).trans ((fr_X9_may e1 (by omega)).trans rfl)))
    · cases h
      exact ((fr_X9_may e1 (by omega)).trans rfl)
  · obtain ⟨z8, I7, e3, h⟩ := bd2_e h
    rcases if_e h with h | h
    · have h := lx_e h
      obtain ⟨I11, e4, h⟩ := bd_e h
      cases h
      exact ((fr_X9_lays e4 (by omega) (by omega)).trans ((fr_stI (by omega)).trans ((fr_X9_may e3 (by omega)).trans rfl)))
    · cases h
      exact ((fr_X9_may e3 (by omega)).trans rfl)
noncomputable def s_X9_undoCount (I : JI) (m : Nat) : Option (Int32 × JI) :=
  bd2 (s_X9_told I m (I m 7)) fun v2 I1 => some (v2, I1)
set_option maxHeartbeats 4000000 in
theorem c_X9_undoCount {Ω : JO} {I : JI} {S : JS} {Q : JQ} {m : Nat} {r : Int32} {J : JI} (hm : Is9 S m) (h : s_X9_undoCount I m = some (r, J)) (hQ : Q (.inl (some (.int r))) J S) : Call Ω m_X9_undoCount [.ref m] I S Q := by
  refine call_of (by decide +kernel) rfl (Nat.le_of_ble_eq_true rfl) ?_
  change AA Ω m_X9_undoCount (FQ Ω m_X9_undoCount Q) 0 0 0 [(0, .ref m)] [] I S
  unfold s_X9_undoCount at h
  refine r_aload_n (pc' := 1) dX9_undoCount_0 rfl 0 rfl rfl ?_
  refine r_aload_n (pc' := 2) dX9_undoCount_1 rfl 0 rfl rfl ?_
  refine r_getI (pc' := 5) dX9_undoCount_2 fa_X9_321 hm.o rfl rfl ?_
  obtain ⟨v2, I1, ev2, h⟩ := bd2_e h
  refine r_callV1 (pc' := 8) (k' := 0) (n' := 0) dX9_undoCount_5 mb_X9_told mi_X9_told hm.o (by decide) rfl lk_X9_71 rfl rfl rfl (Nat.le_of_ble_eq_true rfl) rfl (c_X9_told hm ev2 (cpI ?_))
  cases h
  exact r_iret dX9_undoCount_8 rfl (by decide) (by decide) hQ
set_option maxHeartbeats 4000000 in
theorem fr_X9_undoCount {I : JI} {m : Nat} {r : Int32} {J : JI} {z : Nat} (h : s_X9_undoCount I m = some (r, J)) (hzm : z < m ∨ m + 11 ≤ z) : J z = I z := by
  unfold s_X9_undoCount at h
  obtain ⟨v2, I1, e1, h⟩ := bd2_e h
  cases h
  exact ((fr_X9_told e1 (by omega)).trans rfl)
noncomputable def s_X9_isSlot (x0 : Int32) : Bool :=
  (s_X9_in x0 0 1)
set_option maxHeartbeats 4000000 in
theorem c_X9_isSlot {Ω : JO} {I : JI} {S : JS} {Q : JQ} {x0 : Int32} {r : Bool} (h : s_X9_isSlot x0 = r) (hQ : Q (.inl (some (.int (zb r)))) I S) : Call Ω m_X9_isSlot [.int x0] I S Q := by
  refine call_of (by decide +kernel) rfl (Nat.le_of_ble_eq_true rfl) ?_
  change AA Ω m_X9_isSlot (FQ Ω m_X9_isSlot Q) 0 0 0 [(0, .int x0)] [] I S
  unfold s_X9_isSlot at h
  refine r_iload_n (pc' := 1) dX9_isSlot_0 rfl 0 rfl rfl ?_
  refine r_iconst (pc' := 2) (v := 0) dX9_isSlot_1 (by decide) rfl ?_
  refine r_iconst (pc' := 3) (v := 1) dX9_isSlot_2 (by decide) rfl ?_
  refine r_callS3 (pc' := 6) (k' := 0) (n' := 0) dX9_isSlot_3 mb_X9_in ms_X9_in lk_X9_78 rfl rfl rfl (Nat.le_of_ble_eq_true rfl) rfl (c_X9_in rfl (cpI ?_))
  subst h
  exact r_zret dX9_isSlot_6 rfl (zb01 _) (by decide) (by decide) hQ
noncomputable def s_X9_saveState (I : JI) (m : Nat) (x1 : Int32) : Option (Int32 × JI) :=
  gd ((I m 6) = 0 ∨ (I m 6) = 1) <| bd2 (s_X9_mayTwo I m (nz (I m 6)) (s_X9_isSlot x1)) fun z3 I2 => if z3 = true then (bd (s_X9_lays I2 (m + 1) (m + 4) 2030 0 4060 (x1 * 2030)) fun I5 => gd (vp_in x1 2) <| lx (stI I5 (m + 5) (Int32.toNatClampNeg x1) (vp_nar .boolean 1)) fun I7 => gd (vp_in 5 2030) <| some ((I7 (m + 1) (Int32.toNatClampNeg 5)), I7)) else (some (0, I2))
set_option maxHeartbeats 4000000 in
theorem c_X9_saveState {Ω : JO} {I : JI} {S : JS} {Q : JQ} {m : Nat} {x1 : Int32} {r : Int32} {J : JI} (hm : Is9 S m) (h : s_X9_saveState I m x1 = some (r, J)) (hQ : Q (.inl (some (.int r))) J S) : Call Ω m_X9_saveState [.ref m, .int x1] I S Q := by
  refine call_of (by decide +kernel) rfl (Nat.le_of_ble_eq_true rfl) ?_
  change AA Ω m_X9_saveState (FQ Ω m_X9_saveState Q) 0 0 0 [(0, .ref m), (1, .int x1)] [] I S
  unfold s_X9_saveState at h
  refine r_aload_n (pc' := 1) dX9_saveState_0 rfl 0 rfl rfl ?_
  refine r_aload_n (pc' := 2) dX9_saveState_1 rfl 0 rfl rfl ?_
  obtain ⟨g1, h⟩ := gd_e h
  refine r_getZ (pc' := 5) dX9_saveState_2 fa_X9_53 hm.o rfl g1 rfl ?_
  refine r_iload_n (pc' := 6) dX9_saveState_5 rfl 1 rfl rfl ?_
  refine r_callS1 (pc' := 9) (k' := 0) (n' := 0) dX9_saveState_6 mb_X9_isSlot ms_X9_isSlot lk_X9_484 rfl rfl rfl (Nat.le_of_ble_eq_true rfl) rfl (c_X9_isSlot rfl (cpI ?_))
  obtain ⟨z3, I2, ez3, h⟩ := bd2_e h
  refine r_callV2 (pc' := 12) (k' := 0) (n' := 0) dX9_saveState_9 mb_X9_mayTwo mi_X9_mayTwo hm.o (by decide) rfl lk_X9_393 rfl rfl rfl (Nat.le_of_ble_eq_true rfl) rfl (c_X9_mayTwo hm ez3 (cpI ?_))
  refine r_if_ne (tgt := 17) (pc' := 15) dX9_saveState_12 rfl rfl (fun h4 => ?_) (fun h4 => ?_)
  · have h := ifp (zb_p0 h4) h
    refine r_aload_n (pc' := 18) dX9_saveState_17 rfl 0 rfl rfl ?_
    refine r_getO (pc' := 21) dX9_saveState_18 fa_X9_9 hm.o rfl hm.r1 rfl ?_
    refine r_iconst (pc' := 22) (v := 0) dX9_saveState_21 (by decide) rfl ?_
    refine r_aload_n (pc' := 23) dX9_saveState_22 rfl 0 rfl rfl ?_
    refine r_getO (pc' := 26) dX9_saveState_23 fa_X9_19 hm.o rfl hm.r4 rfl ?_
    refine r_iload_n (pc' := 27) dX9_saveState_26 rfl 1 rfl rfl ?_
    refine r_sipush (pc' := 30) (v := 2030) dX9_saveState_27 (by decide) rfl ?_
    refine r_imul (pc' := 31) dX9_saveState_30 rfl ?_
    obtain ⟨I5, eI5, h⟩ := bd_e h
    refine r_callS4 (pc' := 34) (k' := 0) (n' := 0) dX9_saveState_31 mb_X9_lays ms_X9_lays lk_X9_57 rfl rfl rfl (Nat.le_of_ble_eq_true rfl) rfl (c_X9_lays hm.c1 (by decide) hm.c4 (by decide) eI5 (cpV ?_))
    refine r_aload_n (pc' := 35) dX9_saveState_34 rfl 0 rfl rfl ?_
    refine r_getO (pc' := 38) dX9_saveState_35 fa_X9_22 hm.o rfl hm.r5 rfl ?_
    refine r_iload_n (pc' := 39) dX9_saveState_38 rfl 1 rfl rfl ?_
    refine r_iconst (pc' := 40) (v := 1) dX9_saveState_39 (by decide) rfl ?_
    obtain ⟨g6, h⟩ := gd_e h
    refine r_zastore (pc' := 41) dX9_saveState_40 hm.c5 g6 rfl ?_
    have h := lx_e h
    refine r_aload_n (pc' := 42) dX9_saveState_41 rfl 0 rfl rfl ?_
    refine r_getO (pc' := 45) dX9_saveState_42 fa_X9_9 hm.o rfl hm.r1 rfl ?_
    refine r_iconst (pc' := 46) (v := 5) dX9_saveState_45 (by decide) rfl ?_
    obtain ⟨g8, h⟩ := gd_e h
    refine r_iaload (pc' := 47) dX9_saveState_46 hm.c1 g8 rfl ?_
    cases h
    exact r_iret dX9_saveState_47 rfl (by decide) (by decide) hQ
  · have h := ifn (zb_n0 h4) h
    refine r_iconst (pc' := 16) (v := 0) dX9_saveState_15 (by decide) rfl ?_
    cases h
    exact r_iret dX9_saveState_16 rfl (by decide) (by decide) hQ
set_option maxHeartbeats 4000000 in
theorem fr_X9_saveState {I : JI} {m : Nat} {x1 : Int32} {r : Int32} {J : JI} {z : Nat} (h : s_X9_saveState I m x1 = some (r, J)) (hzm : z < m ∨ m + 11 ≤ z) : J z = I z := by
  unfold s_X9_saveState at h
  obtain ⟨g1, h⟩ := gd_e h
  obtain ⟨z3, I2, e2, h⟩ := bd2_e h
  rcases if_e h with h | h
  · obtain ⟨I5, e3, h⟩ := bd_e h
    obtain ⟨g4, h⟩ := gd_e h
    have h := lx_e h
    obtain ⟨g5, h⟩ := gd_e h
    cases h
    exact ((fr_stI (by omega)).trans ((fr_X9_lays e3 (by omega) (by omega)).trans ((fr_X9_mayTwo e2 (by omega)).trans rfl)))
  · cases h
    exact ((fr_X9_mayTwo e2 (by omega)).trans rfl)
noncomputable def s_X9_restoreState (I : JI) (m : Nat) (x1 : Int32) : Option (Int32 × JI) :=
  if (s_X9_isSlot x1) = true then (gd (vp_in x1 2) <| gd ((I (m + 5) (Int32.toNatClampNeg x1)) = 0 ∨ (I (m + 5) (Int32.toNatClampNeg x1)) = 1) <| if (nz (I (m + 5) (Int32.toNatClampNeg x1))) = true then (bd2 (s_X9_mayTwo I m (s_X9_isSlot x1) true) fun z18 I17 => if z18 = true then (bd (s_X9_lays I17 (m + 4) (m + 1) 4060 (x1 * 2030) 2030 0) fun I20 => lx (stI I20 m 7 0) fun I21 => gd (vp_in 5 2030) <| some ((I21 (m + 1) (Int32.toNatClampNeg 5)), I21)) else (some (0, I17))) else (bd2 (s_X9_mayTwo I m (s_X9_isSlot x1) false) fun z12 I11 => if z12 = true then (bd (s_X9_lays I11 (m + 4) (m + 1) 4060 (x1 * 2030) 2030 0) fun I14 => lx (stI I14 m 7 0) fun I15 => gd (vp_in 5 2030) <| some ((I15 (m + 1) (Int32.toNatClampNeg 5)), I15)) else (some (0, I11)))) else (bd2 (s_X9_mayTwo I m (s_X9_isSlot x1) false) fun z3 I2 => if z3 = true then (bd (s_X9_lays I2 (m + 4) (m + 1) 4060 (x1 * 2030) 2030 0) fun I5 => lx (stI I5 m 7 0) fun I6 => gd (vp_in 5 2030) <| some ((I6 (m + 1) (Int32.toNatClampNeg 5)), I6)) else (some (0, I2)))
set_option maxHeartbeats 4000000 in
theorem c_X9_restoreState {Ω : JO} {I : JI} {S : JS} {Q : JQ} {m : Nat} {x1 : Int32} {r : Int32} {J : JI} (hm : Is9 S m) (h : s_X9_restoreState I m x1 = some (r, J)) (hQ : Q (.inl (some (.int r))) J S) : Call Ω m_X9_restoreState [.ref m, .int x1] I S Q := by
  refine call_of (by decide +kernel) rfl (Nat.le_of_ble_eq_true rfl) ?_
  change AA Ω m_X9_restoreState (FQ Ω m_X9_restoreState Q) 0 0 0 [(0, .ref m), (1, .int x1)] [] I S
  unfold s_X9_restoreState at h
  refine r_iload_n (pc' := 1) dX9_restoreState_0 rfl 1 rfl rfl ?_
  refine r_callS1 (pc' := 4) (k' := 0) (n' := 0) dX9_restoreState_1 mb_X9_isSlot ms_X9_isSlot lk_X9_484 rfl rfl rfl (Nat.le_of_ble_eq_true rfl) rfl (c_X9_isSlot rfl (cpI ?_))
  refine r_istore_n (pc' := 5) (lv' := [(2, _), (0, _), (1, _)]) dX9_restoreState_4 rfl (by decide) rfl rfl ?_
  refine r_aload_n (pc' := 6) dX9_restoreState_5 rfl 1 rfl rfl ?_
  refine r_iload_n (pc' := 7) dX9_restoreState_6 rfl 0 rfl rfl ?_
  refine r_iload_n (pc' := 8) dX9_restoreState_7 rfl 0 rfl rfl ?_
  refine r_if_eq (tgt := 24) (pc' := 11) dX9_restoreState_8 rfl rfl (fun h1 => ?_) (fun h1 => ?_)
  · have h := ifn (zb_n0 h1) h
    refine r_iconst (pc' := 25) (v := 0) dX9_restoreState_24 (by decide) rfl ?_
    obtain ⟨z3, I2, ez3, h⟩ := bd2_e h
    refine r_callV2 (pc' := 28) (k' := 0) (n' := 0) dX9_restoreState_25 mb_X9_mayTwo mi_X9_mayTwo hm.o (by decide) rfl lk_X9_393 rfl rfl rfl (Nat.le_of_ble_eq_true rfl) rfl (c_X9_mayTwo (b2 := false) hm ez3 (cpI ?_))
    refine r_if_ne (tgt := 33) (pc' := 31) dX9_restoreState_28 rfl rfl (fun h4 => ?_) (fun h4 => ?_)
    · have h := ifp (zb_p0 h4) h
      refine r_aload_n (pc' := 34) dX9_restoreState_33 rfl 1 rfl rfl ?_
      refine r_getO (pc' := 37) dX9_restoreState_34 fa_X9_19 hm.o rfl hm.r4 rfl ?_
      refine r_iload_n (pc' := 38) dX9_restoreState_37 rfl 2 rfl rfl ?_
      refine r_sipush (pc' := 41) (v := 2030) dX9_restoreState_38 (by decide) rfl ?_
      refine r_imul (pc' := 42) dX9_restoreState_41 rfl ?_
      refine r_aload_n (pc' := 43) dX9_restoreState_42 rfl 1 rfl rfl ?_
      refine r_getO (pc' := 46) dX9_restoreState_43 fa_X9_9 hm.o rfl hm.r1 rfl ?_
      refine r_iconst (pc' := 47) (v := 0) dX9_restoreState_46 (by decide) rfl ?_
      obtain ⟨I5, eI5, h⟩ := bd_e h
      refine r_callS4 (pc' := 50) (k' := 0) (n' := 0) dX9_restoreState_47 mb_X9_lays ms_X9_lays lk_X9_57 rfl rfl rfl (Nat.le_of_ble_eq_true rfl) rfl (c_X9_lays hm.c4 (by decide) hm.c1 (by decide) eI5 (cpV ?_))
      refine r_aload_n (pc' := 51) dX9_restoreState_50 rfl 1 rfl rfl ?_
      refine r_iconst (pc' := 52) (v := 0) dX9_restoreState_51 (by decide) rfl ?_
      refine r_putI (pc' := 55) dX9_restoreState_52 fa_X9_321 hm.o rfl rfl ?_
      have h := lx_e h
      refine r_aload_n (pc' := 56) dX9_restoreState_55 rfl 1 rfl rfl ?_
      refine r_getO (pc' := 59) dX9_restoreState_56 fa_X9_9 hm.o rfl hm.r1 rfl ?_
      refine r_iconst (pc' := 60) (v := 5) dX9_restoreState_59 (by decide) rfl ?_
      obtain ⟨g7, h⟩ := gd_e h
      refine r_iaload (pc' := 61) dX9_restoreState_60 hm.c1 g7 rfl ?_
      cases h
      exact r_iret dX9_restoreState_61 rfl (by decide) (by decide) hQ
    · have h := ifn (zb_n0 h4) h
      refine r_iconst (pc' := 32) (v := 0) dX9_restoreState_31 (by decide) rfl ?_
      cases h
      exact r_iret dX9_restoreState_32 rfl (by decide) (by decide) hQ
  · have h := ifp (zb_p0 h1) h
    refine r_aload_n (pc' := 12) dX9_restoreState_11 rfl 1 rfl rfl ?_
    refine r_getO (pc' := 15) dX9_restoreState_12 fa_X9_22 hm.o rfl hm.r5 rfl ?_
    refine r_iload_n (pc' := 16) dX9_restoreState_15 rfl 2 rfl rfl ?_
    obtain ⟨g8, h⟩ := gd_e h
    obtain ⟨g9, h⟩ := gd_e h
    refine r_zaloadZ (pc' := 17) dX9_restoreState_16 hm.c5 g8 g9 rfl ?_
    refine r_if_eq (tgt := 24) (pc' := 20) dX9_restoreState_17 rfl rfl (fun h10 => ?_) (fun h10 => ?_)
    · have h := ifn (zb_n0 h10) h
      refine r_iconst (pc' := 25) (v := 0) dX9_restoreState_24 (by decide) rfl ?_
      obtain ⟨z12, I11, ez12, h⟩ := bd2_e h
      refine r_callV2 (pc' := 28) (k' := 0) (n' := 0) dX9_restoreState_25 mb_X9_mayTwo mi_X9_mayTwo hm.o (by decide) rfl lk_X9_393 rfl rfl rfl (Nat.le_of_ble_eq_true rfl) rfl (c_X9_mayTwo (b2 := false) hm ez12 (cpI ?_))
      refine r_if_ne (tgt := 33) (pc' := 31) dX9_restoreState_28 rfl rfl (fun h13 => ?_) (fun h13 => ?_)
      · have h := ifp (zb_p0 h13) h
        refine r_aload_n (pc' := 34) dX9_restoreState_33 rfl 1 rfl rfl ?_
        refine r_getO (pc' := 37) dX9_restoreState_34 fa_X9_19 hm.o rfl hm.r4 rfl ?_
        refine r_iload_n (pc' := 38) dX9_restoreState_37 rfl 2 rfl rfl ?_
        refine r_sipush (pc' := 41) (v := 2030) dX9_restoreState_38 (by decide) rfl ?_
        refine r_imul (pc' := 42) dX9_restoreState_41 rfl ?_
        refine r_aload_n (pc' := 43) dX9_restoreState_42 rfl 1 rfl rfl ?_
        refine r_getO (pc' := 46) dX9_restoreState_43 fa_X9_9 hm.o rfl hm.r1 rfl ?_
        refine r_iconst (pc' := 47) (v := 0) dX9_restoreState_46 (by decide) rfl ?_
        obtain ⟨I14, eI14, h⟩ := bd_e h
        refine r_callS4 (pc' := 50) (k' := 0) (n' := 0) dX9_restoreState_47 mb_X9_lays ms_X9_lays lk_X9_57 rfl rfl rfl (Nat.le_of_ble_eq_true rfl) rfl (c_X9_lays hm.c4 (by decide) hm.c1 (by decide) eI14 (cpV ?_))
        refine r_aload_n (pc' := 51) dX9_restoreState_50 rfl 1 rfl rfl ?_
        refine r_iconst (pc' := 52) (v := 0) dX9_restoreState_51 (by decide) rfl ?_
        refine r_putI (pc' := 55) dX9_restoreState_52 fa_X9_321 hm.o rfl rfl ?_
        have h := lx_e h
        refine r_aload_n (pc' := 56) dX9_restoreState_55 rfl 1 rfl rfl ?_
        refine r_getO (pc' := 59) dX9_restoreState_56 fa_X9_9 hm.o rfl hm.r1 rfl ?_
        refine r_iconst (pc' := 60) (v := 5) dX9_restoreState_59 (by decide) rfl ?_
        obtain ⟨g16, h⟩ := gd_e h
        refine r_iaload (pc' := 61) dX9_restoreState_60 hm.c1 g16 rfl ?_
        cases h
        exact r_iret dX9_restoreState_61 rfl (by decide) (by decide) hQ
      · have h := ifn (zb_n0 h13) h
        refine r_iconst (pc' := 32) (v := 0) dX9_restoreState_31 (by decide) rfl ?_
        cases h
        exact r_iret dX9_restoreState_32 rfl (by decide) (by decide) hQ
    · have h := ifp (zb_p0 h10) h
      refine r_iconst (pc' := 21) (v := 1) dX9_restoreState_20 (by decide) rfl ?_
      refine r_goto (tgt := 25) dX9_restoreState_21 rfl ?_
      obtain ⟨z18, I17, ez18, h⟩ := bd2_e h
      refine r_callV2 (pc' := 28) (k' := 0) (n' := 0) dX9_restoreState_25 mb_X9_mayTwo mi_X9_mayTwo hm.o (by decide) rfl lk_X9_393 rfl rfl rfl (Nat.le_of_ble_eq_true rfl) rfl (c_X9_mayTwo (b2 := true) hm ez18 (cpI ?_))
      refine r_if_ne (tgt := 33) (pc' := 31) dX9_restoreState_28 rfl rfl (fun h19 => ?_) (fun h19 => ?_)
      · have h := ifp (zb_p0 h19) h
        refine r_aload_n (pc' := 34) dX9_restoreState_33 rfl 1 rfl rfl ?_
        refine r_getO (pc' := 37) dX9_restoreState_34 fa_X9_19 hm.o rfl hm.r4 rfl ?_
        refine r_iload_n (pc' := 38) dX9_restoreState_37 rfl 2 rfl rfl ?_
        refine r_sipush (pc' := 41) (v := 2030) dX9_restoreState_38 (by decide) rfl ?_
        refine r_imul (pc' := 42) dX9_restoreState_41 rfl ?_
        refine r_aload_n (pc' := 43) dX9_restoreState_42 rfl 1 rfl rfl ?_
        refine r_getO (pc' := 46) dX9_restoreState_43 fa_X9_9 hm.o rfl hm.r1 rfl ?_
        refine r_iconst (pc' := 47) (v := 0) dX9_restoreState_46 (by decide) rfl ?_
        obtain ⟨I20, eI20, h⟩ := bd_e h
        refine r_callS4 (pc' := 50) (k' := 0) (n' := 0) dX9_restoreState_47 mb_X9_lays ms_X9_lays lk_X9_57 rfl rfl rfl (Nat.le_of_ble_eq_true rfl) rfl (c_X9_lays hm.c4 (by decide) hm.c1 (by decide) eI20 (cpV ?_))
        refine r_aload_n (pc' := 51) dX9_restoreState_50 rfl 1 rfl rfl ?_
        refine r_iconst (pc' := 52) (v := 0) dX9_restoreState_51 (by decide) rfl ?_
        refine r_putI (pc' := 55) dX9_restoreState_52 fa_X9_321 hm.o rfl rfl ?_
        have h := lx_e h
        refine r_aload_n (pc' := 56) dX9_restoreState_55 rfl 1 rfl rfl ?_
        refine r_getO (pc' := 59) dX9_restoreState_56 fa_X9_9 hm.o rfl hm.r1 rfl ?_
        refine r_iconst (pc' := 60) (v := 5) dX9_restoreState_59 (by decide) rfl ?_
        obtain ⟨g22, h⟩ := gd_e h
        refine r_iaload (pc' := 61) dX9_restoreState_60 hm.c1 g22 rfl ?_
        cases h
        exact r_iret dX9_restoreState_61 rfl (by decide) (by decide) hQ
      · have h := ifn (zb_n0 h19) h
        refine r_iconst (pc' := 32) (v := 0) dX9_restoreState_31 (by decide) rfl ?_
        cases h
        exact r_iret dX9_restoreState_32 rfl (by decide) (by decide) hQ
set_option maxHeartbeats 4000000 in
theorem fr_X9_restoreState {I : JI} {m : Nat} {x1 : Int32} {r : Int32} {J : JI} {z : Nat} (h : s_X9_restoreState I m x1 = some (r, J)) (hzm : z < m ∨ m + 11 ≤ z) : J z = I z := by
  unfold s_X9_restoreState at h
  rcases if_e h with h | h
  · obtain ⟨g1, h⟩ := gd_e h
    obtain ⟨g2, h⟩ := gd_e h
    rcases if_e h with h | h
    · obtain ⟨z18, I17, e3, h⟩ := bd2_e h
      rcases if_e h with h | h
      · obtain ⟨I20, e4, h⟩ := bd_e h
        have h := lx_e h
        obtain ⟨g5, h⟩ := gd_e h
        cases h
        exact ((fr_stI (by omega)).trans ((fr_X9_lays e4 (by omega) (by omega)).trans ((fr_X9_mayTwo e3 (by omega)).trans rfl)))
      · cases h
        exact ((fr_X9_mayTwo e3 (by omega)).trans rfl)
    · obtain ⟨z12, I11, e6, h⟩ := bd2_e h
      rcases if_e h with h | h
      · obtain ⟨I14, e7, h⟩ := bd_e h
        have h := lx_e h
        obtain ⟨g8, h⟩ := gd_e h
        cases h
        exact ((fr_stI (by omega)).trans ((fr_X9_lays e7 (by omega) (by omega)).trans ((fr_X9_mayTwo e6 (by omega)).trans rfl)))
      · cases h
        exact ((fr_X9_mayTwo e6 (by omega)).trans rfl)
  · obtain ⟨z3, I2, e9, h⟩ := bd2_e h
    rcases if_e h with h | h
    · obtain ⟨I5, e10, h⟩ := bd_e h
      have h := lx_e h
      obtain ⟨g11, h⟩ := gd_e h
      cases h
      exact ((fr_stI (by omega)).trans ((fr_X9_lays e10 (by omega) (by omega)).trans ((fr_X9_mayTwo e9 (by omega)).trans rfl)))
    · cases h
      exact ((fr_X9_mayTwo e9 (by omega)).trans rfl)
