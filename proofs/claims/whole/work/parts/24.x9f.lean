noncomputable def s_X9_mayCards (I : JI) (m : Nat) (x1 : Int32) (x2 : Int32) : Option (Bool × JI) :=
  gd ((I m 6) = 0 ∨ (I m 6) = 1) <| bd (s_X9_isCard I m x1) fun z2 => if z2 = true then (bd (s_X9_isCard I m x2) fun z6 => if z6 = true then (bd2 (s_X9_mayTwo I m (nz (I m 6)) true) fun z11 I10 => some (z11, I10)) else (bd2 (s_X9_mayTwo I m (nz (I m 6)) false) fun z9 I8 => some (z9, I8))) else (bd2 (s_X9_mayTwo I m (nz (I m 6)) false) fun z5 I4 => some (z5, I4))
set_option maxHeartbeats 4000000 in
theorem c_X9_mayCards {Ω : JO} {I : JI} {S : JS} {Q : JQ} {m : Nat} {x1 : Int32} {x2 : Int32} {r : Bool} {J : JI} (hm : Is9 S m) (h : s_X9_mayCards I m x1 x2 = some (r, J)) (hQ : Q (.inl (some (.int (zb r)))) J S) : Call Ω m_X9_mayCards [.ref m, .int x1, .int x2] I S Q := by
  refine call_of (by decide +kernel) rfl (Nat.le_of_ble_eq_true rfl) ?_
  change AA Ω m_X9_mayCards (FQ Ω m_X9_mayCards Q) 0 0 0 [(0, .ref m), (1, .int x1), (2, .int x2)] [] I S
  unfold s_X9_mayCards at h
  refine r_aload_n (pc' := 1) dX9_mayCards_0 rfl 0 rfl rfl ?_
  refine r_aload_n (pc' := 2) dX9_mayCards_1 rfl 0 rfl rfl ?_
  obtain ⟨g1, h⟩ := gd_e h
  refine r_getZ (pc' := 5) dX9_mayCards_2 fa_X9_53 hm.o rfl g1 rfl ?_
  refine r_aload_n (pc' := 6) dX9_mayCards_5 rfl 0 rfl rfl ?_
  refine r_iload_n (pc' := 7) dX9_mayCards_6 rfl 1 rfl rfl ?_
  obtain ⟨z2, ez2, h⟩ := bd_e h
  refine r_callV1 (pc' := 10) (k' := 0) (n' := 0) dX9_mayCards_7 mb_X9_isCard mi_X9_isCard hm.o (by decide) rfl lk_X9_400 rfl rfl rfl (Nat.le_of_ble_eq_true rfl) rfl (c_X9_isCard hm ez2 (cpI ?_))
  refine r_if_eq (tgt := 25) (pc' := 13) dX9_mayCards_10 rfl rfl (fun h3 => ?_) (fun h3 => ?_)
  · have h := ifn (zb_n0 h3) h
    refine r_iconst (pc' := 26) (v := 0) dX9_mayCards_25 (by decide) rfl ?_
    obtain ⟨z5, I4, ez5, h⟩ := bd2_e h
    refine r_callV2 (pc' := 29) (k' := 0) (n' := 0) dX9_mayCards_26 mb_X9_mayTwo mi_X9_mayTwo hm.o (by decide) rfl lk_X9_393 rfl rfl rfl (Nat.le_of_ble_eq_true rfl) rfl (c_X9_mayTwo (b2 := false) hm ez5 (cpI ?_))
    cases h
    exact r_zret dX9_mayCards_29 rfl (zb01 _) (by decide) (by decide) hQ
  · have h := ifp (zb_p0 h3) h
    refine r_aload_n (pc' := 14) dX9_mayCards_13 rfl 0 rfl rfl ?_
    refine r_iload_n (pc' := 15) dX9_mayCards_14 rfl 2 rfl rfl ?_
    obtain ⟨z6, ez6, h⟩ := bd_e h
    refine r_callV1 (pc' := 18) (k' := 0) (n' := 0) dX9_mayCards_15 mb_X9_isCard mi_X9_isCard hm.o (by decide) rfl lk_X9_400 rfl rfl rfl (Nat.le_of_ble_eq_true rfl) rfl (c_X9_isCard hm ez6 (cpI ?_))
    refine r_if_eq (tgt := 25) (pc' := 21) dX9_mayCards_18 rfl rfl (fun h7 => ?_) (fun h7 => ?_)
    · have h := ifn (zb_n0 h7) h
      refine r_iconst (pc' := 26) (v := 0) dX9_mayCards_25 (by decide) rfl ?_
      obtain ⟨z9, I8, ez9, h⟩ := bd2_e h
      refine r_callV2 (pc' := 29) (k' := 0) (n' := 0) dX9_mayCards_26 mb_X9_mayTwo mi_X9_mayTwo hm.o (by decide) rfl lk_X9_393 rfl rfl rfl (Nat.le_of_ble_eq_true rfl) rfl (c_X9_mayTwo (b2 := false) hm ez9 (cpI ?_))
      cases h
      exact r_zret dX9_mayCards_29 rfl (zb01 _) (by decide) (by decide) hQ
    · have h := ifp (zb_p0 h7) h
      refine r_iconst (pc' := 22) (v := 1) dX9_mayCards_21 (by decide) rfl ?_
      refine r_goto (tgt := 26) dX9_mayCards_22 rfl ?_
      obtain ⟨z11, I10, ez11, h⟩ := bd2_e h
      refine r_callV2 (pc' := 29) (k' := 0) (n' := 0) dX9_mayCards_26 mb_X9_mayTwo mi_X9_mayTwo hm.o (by decide) rfl lk_X9_393 rfl rfl rfl (Nat.le_of_ble_eq_true rfl) rfl (c_X9_mayTwo (b2 := true) hm ez11 (cpI ?_))
      cases h
      exact r_zret dX9_mayCards_29 rfl (zb01 _) (by decide) (by decide) hQ
set_option maxHeartbeats 4000000 in
theorem fr_X9_mayCards {I : JI} {m : Nat} {x1 : Int32} {x2 : Int32} {r : Bool} {J : JI} {z : Nat} (h : s_X9_mayCards I m x1 x2 = some (r, J)) (hz_m : z ≠ m) : J z = I z := by
  unfold s_X9_mayCards at h
  obtain ⟨g1, h⟩ := gd_e h
  obtain ⟨o2, e2, h⟩ := bd_e h
  rcases if_e h with h | h
  · obtain ⟨o3, e3, h⟩ := bd_e h
    rcases if_e h with h | h
    · obtain ⟨z11, I10, e4, h⟩ := bd2_e h
      cases h
      exact ((fr_X9_mayTwo e4 (by omega)).trans rfl)
    · obtain ⟨z9, I8, e5, h⟩ := bd2_e h
      cases h
      exact ((fr_X9_mayTwo e5 (by omega)).trans rfl)
  · obtain ⟨z5, I4, e6, h⟩ := bd2_e h
    cases h
    exact ((fr_X9_mayTwo e6 (by omega)).trans rfl)
set_option maxHeartbeats 4000000 in
theorem ff_X9_mayCards {I : JI} {m : Nat} {x1 : Int32} {x2 : Int32} {r : Bool} {J : JI} {k : Nat} (h : s_X9_mayCards I m x1 x2 = some (r, J)) (hk0 : k ≠ 0) : J m k = I m k := by
  unfold s_X9_mayCards at h
  obtain ⟨g1, h⟩ := gd_e h
  obtain ⟨o2, e2, h⟩ := bd_e h
  rcases if_e h with h | h
  · obtain ⟨o3, e3, h⟩ := bd_e h
    rcases if_e h with h | h
    · obtain ⟨z11, I10, e4, h⟩ := bd2_e h
      cases h
      exact ((ff_X9_mayTwo e4 hk0).trans rfl)
    · obtain ⟨z9, I8, e5, h⟩ := bd2_e h
      cases h
      exact ((ff_X9_mayTwo e5 hk0).trans rfl)
  · obtain ⟨z5, I4, e6, h⟩ := bd2_e h
    cases h
    exact ((ff_X9_mayTwo e6 hk0).trans rfl)
noncomputable def s_X9_mayRow (I : JI) (m : Nat) (x1 : Int32) : Option (Bool × JI) :=
  gd ((I m 6) = 0 ∨ (I m 6) = 1) <| bd (s_X9_isRow I m x1) fun z2 => bd2 (s_X9_mayTwo I m (nz (I m 6)) z2) fun z4 I3 => some (z4, I3)
set_option maxHeartbeats 4000000 in
theorem c_X9_mayRow {Ω : JO} {I : JI} {S : JS} {Q : JQ} {m : Nat} {x1 : Int32} {r : Bool} {J : JI} (hm : Is9 S m) (h : s_X9_mayRow I m x1 = some (r, J)) (hQ : Q (.inl (some (.int (zb r)))) J S) : Call Ω m_X9_mayRow [.ref m, .int x1] I S Q := by
  refine call_of (by decide +kernel) rfl (Nat.le_of_ble_eq_true rfl) ?_
  change AA Ω m_X9_mayRow (FQ Ω m_X9_mayRow Q) 0 0 0 [(0, .ref m), (1, .int x1)] [] I S
  unfold s_X9_mayRow at h
  refine r_aload_n (pc' := 1) dX9_mayRow_0 rfl 0 rfl rfl ?_
  refine r_aload_n (pc' := 2) dX9_mayRow_1 rfl 0 rfl rfl ?_
  obtain ⟨g1, h⟩ := gd_e h
  refine r_getZ (pc' := 5) dX9_mayRow_2 fa_X9_53 hm.o rfl g1 rfl ?_
  refine r_aload_n (pc' := 6) dX9_mayRow_5 rfl 0 rfl rfl ?_
  refine r_iload_n (pc' := 7) dX9_mayRow_6 rfl 1 rfl rfl ?_
  obtain ⟨z2, ez2, h⟩ := bd_e h
  refine r_callV1 (pc' := 10) (k' := 0) (n' := 0) dX9_mayRow_7 mb_X9_isRow mi_X9_isRow hm.o (by decide) rfl lk_X9_403 rfl rfl rfl (Nat.le_of_ble_eq_true rfl) rfl (c_X9_isRow hm ez2 (cpI ?_))
  obtain ⟨z4, I3, ez4, h⟩ := bd2_e h
  refine r_callV2 (pc' := 13) (k' := 0) (n' := 0) dX9_mayRow_10 mb_X9_mayTwo mi_X9_mayTwo hm.o (by decide) rfl lk_X9_393 rfl rfl rfl (Nat.le_of_ble_eq_true rfl) rfl (c_X9_mayTwo hm ez4 (cpI ?_))
  cases h
  exact r_zret dX9_mayRow_13 rfl (zb01 _) (by decide) (by decide) hQ
set_option maxHeartbeats 4000000 in
theorem fr_X9_mayRow {I : JI} {m : Nat} {x1 : Int32} {r : Bool} {J : JI} {z : Nat} (h : s_X9_mayRow I m x1 = some (r, J)) (hz_m : z ≠ m) : J z = I z := by
  unfold s_X9_mayRow at h
  obtain ⟨g1, h⟩ := gd_e h
  obtain ⟨o2, e2, h⟩ := bd_e h
  obtain ⟨z4, I3, e3, h⟩ := bd2_e h
  cases h
  exact ((fr_X9_mayTwo e3 (by omega)).trans rfl)
set_option maxHeartbeats 4000000 in
theorem ff_X9_mayRow {I : JI} {m : Nat} {x1 : Int32} {r : Bool} {J : JI} {k : Nat} (h : s_X9_mayRow I m x1 = some (r, J)) (hk0 : k ≠ 0) : J m k = I m k := by
  unfold s_X9_mayRow at h
  obtain ⟨g1, h⟩ := gd_e h
  obtain ⟨o2, e2, h⟩ := bd_e h
  obtain ⟨z4, I3, e3, h⟩ := bd2_e h
  cases h
  exact ((ff_X9_mayTwo e3 hk0).trans rfl)
noncomputable def s_X9_mayCell (I : JI) (m : Nat) (x1 : Int32) (x2 : Int32) : Option (Bool × JI) :=
  gd ((I m 6) = 0 ∨ (I m 6) = 1) <| bd (s_X9_isRow I m x1) fun z2 => if z2 = true then (bd (s_X9_isWarp I m x2) fun z6 => if z6 = true then (bd2 (s_X9_mayTwo I m (nz (I m 6)) true) fun z11 I10 => some (z11, I10)) else (bd2 (s_X9_mayTwo I m (nz (I m 6)) false) fun z9 I8 => some (z9, I8))) else (bd2 (s_X9_mayTwo I m (nz (I m 6)) false) fun z5 I4 => some (z5, I4))
set_option maxHeartbeats 4000000 in
theorem c_X9_mayCell {Ω : JO} {I : JI} {S : JS} {Q : JQ} {m : Nat} {x1 : Int32} {x2 : Int32} {r : Bool} {J : JI} (hm : Is9 S m) (h : s_X9_mayCell I m x1 x2 = some (r, J)) (hQ : Q (.inl (some (.int (zb r)))) J S) : Call Ω m_X9_mayCell [.ref m, .int x1, .int x2] I S Q := by
  refine call_of (by decide +kernel) rfl (Nat.le_of_ble_eq_true rfl) ?_
  change AA Ω m_X9_mayCell (FQ Ω m_X9_mayCell Q) 0 0 0 [(0, .ref m), (1, .int x1), (2, .int x2)] [] I S
  unfold s_X9_mayCell at h
  refine r_aload_n (pc' := 1) dX9_mayCell_0 rfl 0 rfl rfl ?_
  refine r_aload_n (pc' := 2) dX9_mayCell_1 rfl 0 rfl rfl ?_
  obtain ⟨g1, h⟩ := gd_e h
  refine r_getZ (pc' := 5) dX9_mayCell_2 fa_X9_53 hm.o rfl g1 rfl ?_
  refine r_aload_n (pc' := 6) dX9_mayCell_5 rfl 0 rfl rfl ?_
  refine r_iload_n (pc' := 7) dX9_mayCell_6 rfl 1 rfl rfl ?_
  obtain ⟨z2, ez2, h⟩ := bd_e h
  refine r_callV1 (pc' := 10) (k' := 0) (n' := 0) dX9_mayCell_7 mb_X9_isRow mi_X9_isRow hm.o (by decide) rfl lk_X9_403 rfl rfl rfl (Nat.le_of_ble_eq_true rfl) rfl (c_X9_isRow hm ez2 (cpI ?_))
  refine r_if_eq (tgt := 25) (pc' := 13) dX9_mayCell_10 rfl rfl (fun h3 => ?_) (fun h3 => ?_)
  · have h := ifn (zb_n0 h3) h
    refine r_iconst (pc' := 26) (v := 0) dX9_mayCell_25 (by decide) rfl ?_
    obtain ⟨z5, I4, ez5, h⟩ := bd2_e h
    refine r_callV2 (pc' := 29) (k' := 0) (n' := 0) dX9_mayCell_26 mb_X9_mayTwo mi_X9_mayTwo hm.o (by decide) rfl lk_X9_393 rfl rfl rfl (Nat.le_of_ble_eq_true rfl) rfl (c_X9_mayTwo (b2 := false) hm ez5 (cpI ?_))
    cases h
    exact r_zret dX9_mayCell_29 rfl (zb01 _) (by decide) (by decide) hQ
  · have h := ifp (zb_p0 h3) h
    refine r_aload_n (pc' := 14) dX9_mayCell_13 rfl 0 rfl rfl ?_
    refine r_iload_n (pc' := 15) dX9_mayCell_14 rfl 2 rfl rfl ?_
    obtain ⟨z6, ez6, h⟩ := bd_e h
    refine r_callV1 (pc' := 18) (k' := 0) (n' := 0) dX9_mayCell_15 mb_X9_isWarp mi_X9_isWarp hm.o (by decide) rfl lk_X9_397 rfl rfl rfl (Nat.le_of_ble_eq_true rfl) rfl (c_X9_isWarp hm ez6 (cpI ?_))
    refine r_if_eq (tgt := 25) (pc' := 21) dX9_mayCell_18 rfl rfl (fun h7 => ?_) (fun h7 => ?_)
    · have h := ifn (zb_n0 h7) h
      refine r_iconst (pc' := 26) (v := 0) dX9_mayCell_25 (by decide) rfl ?_
      obtain ⟨z9, I8, ez9, h⟩ := bd2_e h
      refine r_callV2 (pc' := 29) (k' := 0) (n' := 0) dX9_mayCell_26 mb_X9_mayTwo mi_X9_mayTwo hm.o (by decide) rfl lk_X9_393 rfl rfl rfl (Nat.le_of_ble_eq_true rfl) rfl (c_X9_mayTwo (b2 := false) hm ez9 (cpI ?_))
      cases h
      exact r_zret dX9_mayCell_29 rfl (zb01 _) (by decide) (by decide) hQ
    · have h := ifp (zb_p0 h7) h
      refine r_iconst (pc' := 22) (v := 1) dX9_mayCell_21 (by decide) rfl ?_
      refine r_goto (tgt := 26) dX9_mayCell_22 rfl ?_
      obtain ⟨z11, I10, ez11, h⟩ := bd2_e h
      refine r_callV2 (pc' := 29) (k' := 0) (n' := 0) dX9_mayCell_26 mb_X9_mayTwo mi_X9_mayTwo hm.o (by decide) rfl lk_X9_393 rfl rfl rfl (Nat.le_of_ble_eq_true rfl) rfl (c_X9_mayTwo (b2 := true) hm ez11 (cpI ?_))
      cases h
      exact r_zret dX9_mayCell_29 rfl (zb01 _) (by decide) (by decide) hQ
set_option maxHeartbeats 4000000 in
theorem fr_X9_mayCell {I : JI} {m : Nat} {x1 : Int32} {x2 : Int32} {r : Bool} {J : JI} {z : Nat} (h : s_X9_mayCell I m x1 x2 = some (r, J)) (hz_m : z ≠ m) : J z = I z := by
  unfold s_X9_mayCell at h
  obtain ⟨g1, h⟩ := gd_e h
  obtain ⟨o2, e2, h⟩ := bd_e h
  rcases if_e h with h | h
  · obtain ⟨o3, e3, h⟩ := bd_e h
    rcases if_e h with h | h
    · obtain ⟨z11, I10, e4, h⟩ := bd2_e h
      cases h
      exact ((fr_X9_mayTwo e4 (by omega)).trans rfl)
    · obtain ⟨z9, I8, e5, h⟩ := bd2_e h
      cases h
      exact ((fr_X9_mayTwo e5 (by omega)).trans rfl)
  · obtain ⟨z5, I4, e6, h⟩ := bd2_e h
    cases h
    exact ((fr_X9_mayTwo e6 (by omega)).trans rfl)
set_option maxHeartbeats 4000000 in
theorem ff_X9_mayCell {I : JI} {m : Nat} {x1 : Int32} {x2 : Int32} {r : Bool} {J : JI} {k : Nat} (h : s_X9_mayCell I m x1 x2 = some (r, J)) (hk0 : k ≠ 0) : J m k = I m k := by
  unfold s_X9_mayCell at h
  obtain ⟨g1, h⟩ := gd_e h
  obtain ⟨o2, e2, h⟩ := bd_e h
  rcases if_e h with h | h
  · obtain ⟨o3, e3, h⟩ := bd_e h
    rcases if_e h with h | h
    · obtain ⟨z11, I10, e4, h⟩ := bd2_e h
      cases h
      exact ((ff_X9_mayTwo e4 hk0).trans rfl)
    · obtain ⟨z9, I8, e5, h⟩ := bd2_e h
      cases h
      exact ((ff_X9_mayTwo e5 hk0).trans rfl)
  · obtain ⟨z5, I4, e6, h⟩ := bd2_e h
    cases h
    exact ((ff_X9_mayTwo e6 hk0).trans rfl)
noncomputable def s_X9_mayColour (I : JI) (m : Nat) (x1 : Int32) : Option (Bool × JI) :=
  gd ((I m 6) = 0 ∨ (I m 6) = 1) <| bd2 (s_X9_mayTwo I m (nz (I m 6)) (s_X9_isColour x1)) fun z3 I2 => some (z3, I2)
set_option maxHeartbeats 4000000 in
theorem c_X9_mayColour {Ω : JO} {I : JI} {S : JS} {Q : JQ} {m : Nat} {x1 : Int32} {r : Bool} {J : JI} (hm : Is9 S m) (h : s_X9_mayColour I m x1 = some (r, J)) (hQ : Q (.inl (some (.int (zb r)))) J S) : Call Ω m_X9_mayColour [.ref m, .int x1] I S Q := by
  refine call_of (by decide +kernel) rfl (Nat.le_of_ble_eq_true rfl) ?_
  change AA Ω m_X9_mayColour (FQ Ω m_X9_mayColour Q) 0 0 0 [(0, .ref m), (1, .int x1)] [] I S
  unfold s_X9_mayColour at h
  refine r_aload_n (pc' := 1) dX9_mayColour_0 rfl 0 rfl rfl ?_
  refine r_aload_n (pc' := 2) dX9_mayColour_1 rfl 0 rfl rfl ?_
  obtain ⟨g1, h⟩ := gd_e h
  refine r_getZ (pc' := 5) dX9_mayColour_2 fa_X9_53 hm.o rfl g1 rfl ?_
  refine r_iload_n (pc' := 6) dX9_mayColour_5 rfl 1 rfl rfl ?_
  refine r_callS1 (pc' := 9) (k' := 0) (n' := 0) dX9_mayColour_6 mb_X9_isColour ms_X9_isColour lk_X9_406 rfl rfl rfl (Nat.le_of_ble_eq_true rfl) rfl (c_X9_isColour rfl (cpI ?_))
  obtain ⟨z3, I2, ez3, h⟩ := bd2_e h
  refine r_callV2 (pc' := 12) (k' := 0) (n' := 0) dX9_mayColour_9 mb_X9_mayTwo mi_X9_mayTwo hm.o (by decide) rfl lk_X9_393 rfl rfl rfl (Nat.le_of_ble_eq_true rfl) rfl (c_X9_mayTwo hm ez3 (cpI ?_))
  cases h
  exact r_zret dX9_mayColour_12 rfl (zb01 _) (by decide) (by decide) hQ
set_option maxHeartbeats 4000000 in
theorem fr_X9_mayColour {I : JI} {m : Nat} {x1 : Int32} {r : Bool} {J : JI} {z : Nat} (h : s_X9_mayColour I m x1 = some (r, J)) (hz_m : z ≠ m) : J z = I z := by
  unfold s_X9_mayColour at h
  obtain ⟨g1, h⟩ := gd_e h
  obtain ⟨z3, I2, e2, h⟩ := bd2_e h
  cases h
  exact ((fr_X9_mayTwo e2 (by omega)).trans rfl)
set_option maxHeartbeats 4000000 in
theorem ff_X9_mayColour {I : JI} {m : Nat} {x1 : Int32} {r : Bool} {J : JI} {k : Nat} (h : s_X9_mayColour I m x1 = some (r, J)) (hk0 : k ≠ 0) : J m k = I m k := by
  unfold s_X9_mayColour at h
  obtain ⟨g1, h⟩ := gd_e h
  obtain ⟨z3, I2, e2, h⟩ := bd2_e h
  cases h
  exact ((ff_X9_mayTwo e2 hk0).trans rfl)
noncomputable def s_X9_look (I : JI) (m : Nat) (x1 : Int32) : Option (Int32 × JI) :=
  bd2 (s_X9_mayLook I m) fun z2 I1 => if z2 = true then (gd (vp_in x1 2030) <| some ((I1 (m + 1) (Int32.toNatClampNeg x1)), I1)) else (some (0, I1))
set_option maxHeartbeats 4000000 in
theorem c_X9_look {Ω : JO} {I : JI} {S : JS} {Q : JQ} {m : Nat} {x1 : Int32} {r : Int32} {J : JI} (hm : Is9 S m) (h : s_X9_look I m x1 = some (r, J)) (hQ : Q (.inl (some (.int r))) J S) : Call Ω m_X9_look [.ref m, .int x1] I S Q := by
  refine call_of (by decide +kernel) rfl (Nat.le_of_ble_eq_true rfl) ?_
  change AA Ω m_X9_look (FQ Ω m_X9_look Q) 0 0 0 [(0, .ref m), (1, .int x1)] [] I S
  unfold s_X9_look at h
  refine r_aload_n (pc' := 1) dX9_look_0 rfl 0 rfl rfl ?_
  obtain ⟨z2, I1, ez2, h⟩ := bd2_e h
  refine r_callV0 (pc' := 4) (k' := 0) (n' := 0) dX9_look_1 mb_X9_mayLook mi_X9_mayLook hm.o (by decide) rfl lk_X9_409 rfl rfl rfl (Nat.le_of_ble_eq_true rfl) rfl (c_X9_mayLook hm ez2 (cpI ?_))
  refine r_if_eq (tgt := 16) (pc' := 7) dX9_look_4 rfl rfl (fun h3 => ?_) (fun h3 => ?_)
  · have h := ifn (zb_n0 h3) h
    refine r_iconst (pc' := 17) (v := 0) dX9_look_16 (by decide) rfl ?_
    cases h
    exact r_iret dX9_look_17 rfl (by decide) (by decide) hQ
  · have h := ifp (zb_p0 h3) h
    refine r_aload_n (pc' := 8) dX9_look_7 rfl 0 rfl rfl ?_
    refine r_getO (pc' := 11) dX9_look_8 fa_X9_9 hm.o rfl hm.r1 rfl ?_
    refine r_iload_n (pc' := 12) dX9_look_11 rfl 1 rfl rfl ?_
    obtain ⟨g4, h⟩ := gd_e h
    refine r_iaload (pc' := 13) dX9_look_12 hm.c1 g4 rfl ?_
    refine r_goto (tgt := 17) dX9_look_13 rfl ?_
    cases h
    exact r_iret dX9_look_17 rfl (by decide) (by decide) hQ
set_option maxHeartbeats 4000000 in
theorem fr_X9_look {I : JI} {m : Nat} {x1 : Int32} {r : Int32} {J : JI} {z : Nat} (h : s_X9_look I m x1 = some (r, J)) (hz_m : z ≠ m) : J z = I z := by
  unfold s_X9_look at h
  obtain ⟨z2, I1, e1, h⟩ := bd2_e h
  rcases if_e h with h | h
  · obtain ⟨g2, h⟩ := gd_e h
    cases h
    exact ((fr_X9_mayLook e1 (by omega)).trans rfl)
  · cases h
    exact ((fr_X9_mayLook e1 (by omega)).trans rfl)
set_option maxHeartbeats 4000000 in
theorem ff_X9_look {I : JI} {m : Nat} {x1 : Int32} {r : Int32} {J : JI} {k : Nat} (h : s_X9_look I m x1 = some (r, J)) (hk0 : k ≠ 0) : J m k = I m k := by
  unfold s_X9_look at h
  obtain ⟨z2, I1, e1, h⟩ := bd2_e h
  rcases if_e h with h | h
  · obtain ⟨g2, h⟩ := gd_e h
    cases h
    exact ((ff_X9_mayLook e1 hk0).trans rfl)
  · cases h
    exact ((ff_X9_mayLook e1 hk0).trans rfl)
noncomputable def s_X9_harnessCount (I : JI) (m : Nat) : Option (Int32 × JI) :=
  bd2 (s_X9_look I m 0) fun v2 I1 => some (v2, I1)
set_option maxHeartbeats 4000000 in
theorem c_X9_harnessCount {Ω : JO} {I : JI} {S : JS} {Q : JQ} {m : Nat} {r : Int32} {J : JI} (hm : Is9 S m) (h : s_X9_harnessCount I m = some (r, J)) (hQ : Q (.inl (some (.int r))) J S) : Call Ω m_X9_harnessCount [.ref m] I S Q := by
  refine call_of (by decide +kernel) rfl (Nat.le_of_ble_eq_true rfl) ?_
  change AA Ω m_X9_harnessCount (FQ Ω m_X9_harnessCount Q) 0 0 0 [(0, .ref m)] [] I S
  unfold s_X9_harnessCount at h
  refine r_aload_n (pc' := 1) dX9_harnessCount_0 rfl 0 rfl rfl ?_
  refine r_iconst (pc' := 2) (v := 0) dX9_harnessCount_1 (by decide) rfl ?_
  obtain ⟨v2, I1, ev2, h⟩ := bd2_e h
  refine r_callV1 (pc' := 5) (k' := 0) (n' := 0) dX9_harnessCount_2 mb_X9_look mi_X9_look hm.o (by decide) rfl lk_X9_412 rfl rfl rfl (Nat.le_of_ble_eq_true rfl) rfl (c_X9_look hm ev2 (cpI ?_))
  cases h
  exact r_iret dX9_harnessCount_5 rfl (by decide) (by decide) hQ
set_option maxHeartbeats 4000000 in
theorem fr_X9_harnessCount {I : JI} {m : Nat} {r : Int32} {J : JI} {z : Nat} (h : s_X9_harnessCount I m = some (r, J)) (hz_m : z ≠ m) : J z = I z := by
  unfold s_X9_harnessCount at h
  obtain ⟨v2, I1, e1, h⟩ := bd2_e h
  cases h
  exact ((fr_X9_look e1 (by omega)).trans rfl)
set_option maxHeartbeats 4000000 in
theorem ff_X9_harnessCount {I : JI} {m : Nat} {r : Int32} {J : JI} {k : Nat} (h : s_X9_harnessCount I m = some (r, J)) (hk0 : k ≠ 0) : J m k = I m k := by
  unfold s_X9_harnessCount at h
  obtain ⟨v2, I1, e1, h⟩ := bd2_e h
  cases h
  exact ((ff_X9_look e1 hk0).trans rfl)
noncomputable def s_X9_warpCount (I : JI) (m : Nat) : Option (Int32 × JI) :=
  bd2 (s_X9_look I m 2) fun v2 I1 => some (v2, I1)
set_option maxHeartbeats 4000000 in
theorem c_X9_warpCount {Ω : JO} {I : JI} {S : JS} {Q : JQ} {m : Nat} {r : Int32} {J : JI} (hm : Is9 S m) (h : s_X9_warpCount I m = some (r, J)) (hQ : Q (.inl (some (.int r))) J S) : Call Ω m_X9_warpCount [.ref m] I S Q := by
  refine call_of (by decide +kernel) rfl (Nat.le_of_ble_eq_true rfl) ?_
  change AA Ω m_X9_warpCount (FQ Ω m_X9_warpCount Q) 0 0 0 [(0, .ref m)] [] I S
  unfold s_X9_warpCount at h
  refine r_aload_n (pc' := 1) dX9_warpCount_0 rfl 0 rfl rfl ?_
  refine r_iconst (pc' := 2) (v := 2) dX9_warpCount_1 (by decide) rfl ?_
  obtain ⟨v2, I1, ev2, h⟩ := bd2_e h
  refine r_callV1 (pc' := 5) (k' := 0) (n' := 0) dX9_warpCount_2 mb_X9_look mi_X9_look hm.o (by decide) rfl lk_X9_412 rfl rfl rfl (Nat.le_of_ble_eq_true rfl) rfl (c_X9_look hm ev2 (cpI ?_))
  cases h
  exact r_iret dX9_warpCount_5 rfl (by decide) (by decide) hQ
set_option maxHeartbeats 4000000 in
theorem fr_X9_warpCount {I : JI} {m : Nat} {r : Int32} {J : JI} {z : Nat} (h : s_X9_warpCount I m = some (r, J)) (hz_m : z ≠ m) : J z = I z := by
  unfold s_X9_warpCount at h
  obtain ⟨v2, I1, e1, h⟩ := bd2_e h
  cases h
  exact ((fr_X9_look e1 (by omega)).trans rfl)
set_option maxHeartbeats 4000000 in
theorem ff_X9_warpCount {I : JI} {m : Nat} {r : Int32} {J : JI} {k : Nat} (h : s_X9_warpCount I m = some (r, J)) (hk0 : k ≠ 0) : J m k = I m k := by
  unfold s_X9_warpCount at h
  obtain ⟨v2, I1, e1, h⟩ := bd2_e h
  cases h
  exact ((ff_X9_look e1 hk0).trans rfl)
noncomputable def s_X9_warpHarness (I : JI) (m : Nat) (x1 : Int32) : Option (Int32 × JI) :=
  bd2 (s_X9_mayWarp I m x1) fun z2 I1 => if z2 = true then (bd (s_X9_harnessOf I1 m x1) fun v4 => some (v4, I1)) else (some (0, I1))
set_option maxHeartbeats 4000000 in
theorem c_X9_warpHarness {Ω : JO} {I : JI} {S : JS} {Q : JQ} {m : Nat} {x1 : Int32} {r : Int32} {J : JI} (hm : Is9 S m) (h : s_X9_warpHarness I m x1 = some (r, J)) (hQ : Q (.inl (some (.int r))) J S) : Call Ω m_X9_warpHarness [.ref m, .int x1] I S Q := by
  refine call_of (by decide +kernel) rfl (Nat.le_of_ble_eq_true rfl) ?_
  change AA Ω m_X9_warpHarness (FQ Ω m_X9_warpHarness Q) 0 0 0 [(0, .ref m), (1, .int x1)] [] I S
  unfold s_X9_warpHarness at h
  refine r_aload_n (pc' := 1) dX9_warpHarness_0 rfl 0 rfl rfl ?_
  refine r_iload_n (pc' := 2) dX9_warpHarness_1 rfl 1 rfl rfl ?_
  obtain ⟨z2, I1, ez2, h⟩ := bd2_e h
  refine r_callV1 (pc' := 5) (k' := 0) (n' := 0) dX9_warpHarness_2 mb_X9_mayWarp mi_X9_mayWarp hm.o (by decide) rfl lk_X9_415 rfl rfl rfl (Nat.le_of_ble_eq_true rfl) rfl (c_X9_mayWarp hm ez2 (cpI ?_))
  refine r_if_eq (tgt := 16) (pc' := 8) dX9_warpHarness_5 rfl rfl (fun h3 => ?_) (fun h3 => ?_)
  · have h := ifn (zb_n0 h3) h
    refine r_iconst (pc' := 17) (v := 0) dX9_warpHarness_16 (by decide) rfl ?_
    cases h
    exact r_iret dX9_warpHarness_17 rfl (by decide) (by decide) hQ
  · have h := ifp (zb_p0 h3) h
    refine r_aload_n (pc' := 9) dX9_warpHarness_8 rfl 0 rfl rfl ?_
    refine r_iload_n (pc' := 10) dX9_warpHarness_9 rfl 1 rfl rfl ?_
    obtain ⟨v4, ev4, h⟩ := bd_e h
    refine r_callV1 (pc' := 13) (k' := 0) (n' := 0) dX9_warpHarness_10 mb_X9_harnessOf mi_X9_harnessOf hm.o (by decide) rfl lk_X9_328 rfl rfl rfl (Nat.le_of_ble_eq_true rfl) rfl (c_X9_harnessOf hm ev4 (cpI ?_))
    refine r_goto (tgt := 17) dX9_warpHarness_13 rfl ?_
    cases h
    exact r_iret dX9_warpHarness_17 rfl (by decide) (by decide) hQ
set_option maxHeartbeats 4000000 in
theorem fr_X9_warpHarness {I : JI} {m : Nat} {x1 : Int32} {r : Int32} {J : JI} {z : Nat} (h : s_X9_warpHarness I m x1 = some (r, J)) (hz_m : z ≠ m) : J z = I z := by
  unfold s_X9_warpHarness at h
  obtain ⟨z2, I1, e1, h⟩ := bd2_e h
  rcases if_e h with h | h
  · obtain ⟨o2, e2, h⟩ := bd_e h
    cases h
    exact ((fr_X9_mayWarp e1 (by omega)).trans rfl)
  · cases h
    exact ((fr_X9_mayWarp e1 (by omega)).trans rfl)
set_option maxHeartbeats 4000000 in
theorem ff_X9_warpHarness {I : JI} {m : Nat} {x1 : Int32} {r : Int32} {J : JI} {k : Nat} (h : s_X9_warpHarness I m x1 = some (r, J)) (hk0 : k ≠ 0) : J m k = I m k := by
  unfold s_X9_warpHarness at h
  obtain ⟨z2, I1, e1, h⟩ := bd2_e h
  rcases if_e h with h | h
  · obtain ⟨o2, e2, h⟩ := bd_e h
    cases h
    exact ((ff_X9_mayWarp e1 hk0).trans rfl)
  · cases h
    exact ((ff_X9_mayWarp e1 hk0).trans rfl)
noncomputable def s_X9_warpColour (I : JI) (m : Nat) (x1 : Int32) : Option (Int32 × JI) :=
  bd2 (s_X9_mayWarp I m x1) fun z2 I1 => if z2 = true then (bd (s_X9_colourOf I1 m x1) fun v4 => some (v4, I1)) else (some (0, I1))
set_option maxHeartbeats 4000000 in
theorem c_X9_warpColour {Ω : JO} {I : JI} {S : JS} {Q : JQ} {m : Nat} {x1 : Int32} {r : Int32} {J : JI} (hm : Is9 S m) (h : s_X9_warpColour I m x1 = some (r, J)) (hQ : Q (.inl (some (.int r))) J S) : Call Ω m_X9_warpColour [.ref m, .int x1] I S Q := by
  refine call_of (by decide +kernel) rfl (Nat.le_of_ble_eq_true rfl) ?_
  change AA Ω m_X9_warpColour (FQ Ω m_X9_warpColour Q) 0 0 0 [(0, .ref m), (1, .int x1)] [] I S
  unfold s_X9_warpColour at h
  refine r_aload_n (pc' := 1) dX9_warpColour_0 rfl 0 rfl rfl ?_
  refine r_iload_n (pc' := 2) dX9_warpColour_1 rfl 1 rfl rfl ?_
  obtain ⟨z2, I1, ez2, h⟩ := bd2_e h
  refine r_callV1 (pc' := 5) (k' := 0) (n' := 0) dX9_warpColour_2 mb_X9_mayWarp mi_X9_mayWarp hm.o (by decide) rfl lk_X9_415 rfl rfl rfl (Nat.le_of_ble_eq_true rfl) rfl (c_X9_mayWarp hm ez2 (cpI ?_))
  refine r_if_eq (tgt := 16) (pc' := 8) dX9_warpColour_5 rfl rfl (fun h3 => ?_) (fun h3 => ?_)
  · have h := ifn (zb_n0 h3) h
    refine r_iconst (pc' := 17) (v := 0) dX9_warpColour_16 (by decide) rfl ?_
    cases h
    exact r_iret dX9_warpColour_17 rfl (by decide) (by decide) hQ
  · have h := ifp (zb_p0 h3) h
    refine r_aload_n (pc' := 9) dX9_warpColour_8 rfl 0 rfl rfl ?_
    refine r_iload_n (pc' := 10) dX9_warpColour_9 rfl 1 rfl rfl ?_
    obtain ⟨v4, ev4, h⟩ := bd_e h
    refine r_callV1 (pc' := 13) (k' := 0) (n' := 0) dX9_warpColour_10 mb_X9_colourOf mi_X9_colourOf hm.o (by decide) rfl lk_X9_353 rfl rfl rfl (Nat.le_of_ble_eq_true rfl) rfl (c_X9_colourOf hm ev4 (cpI ?_))
    refine r_goto (tgt := 17) dX9_warpColour_13 rfl ?_
    cases h
    exact r_iret dX9_warpColour_17 rfl (by decide) (by decide) hQ
set_option maxHeartbeats 4000000 in
theorem fr_X9_warpColour {I : JI} {m : Nat} {x1 : Int32} {r : Int32} {J : JI} {z : Nat} (h : s_X9_warpColour I m x1 = some (r, J)) (hz_m : z ≠ m) : J z = I z := by
  unfold s_X9_warpColour at h
  obtain ⟨z2, I1, e1, h⟩ := bd2_e h
  rcases if_e h with h | h
  · obtain ⟨o2, e2, h⟩ := bd_e h
    cases h
    exact ((fr_X9_mayWarp e1 (by omega)).trans rfl)
  · cases h
    exact ((fr_X9_mayWarp e1 (by omega)).trans rfl)
set_option maxHeartbeats 4000000 in
theorem ff_X9_warpColour {I : JI} {m : Nat} {x1 : Int32} {r : Int32} {J : JI} {k : Nat} (h : s_X9_warpColour I m x1 = some (r, J)) (hk0 : k ≠ 0) : J m k = I m k := by
  unfold s_X9_warpColour at h
  obtain ⟨z2, I1, e1, h⟩ := bd2_e h
  rcases if_e h with h | h
  · obtain ⟨o2, e2, h⟩ := bd_e h
    cases h
    exact ((ff_X9_mayWarp e1 hk0).trans rfl)
  · cases h
    exact ((ff_X9_mayWarp e1 hk0).trans rfl)
noncomputable def s_X9_warpsOn_L14 (I : JI) (m : Nat) (q1 : Int32) : Nat → Int32 → Int32 → Option (Int32 × Int32)
  | 0, _, _ => none
  | f + 1, w2, w3 => gd (vp_in 2 2030) <| if (I (m + 1) (Int32.toNatClampNeg 2)) ≤ w3 then (some (w2, w3)) else (bd (s_X9_harnessOf I m w3) fun v6 => if v6 = q1 then (lx (w2 + (s_X9_one true)) fun v9 => s_X9_warpsOn_L14 I m q1 f v9 (w3 + 1)) else (lx (w2 + (s_X9_one false)) fun v8 => s_X9_warpsOn_L14 I m q1 f v8 (w3 + 1)))
noncomputable def s_X9_warpsOn (I : JI) (m : Nat) (x1 : Int32) : Option (Int32 × JI) :=
  bd2 (s_X9_mayHarness I m x1) fun z2 I1 => if z2 = true then (bd (s_X9_warpsOn_L14 I1 m x1 lf 0 0) fun (y10, y11) => some (y10, I1)) else (some (0, I1))
set_option maxHeartbeats 4000000 in
theorem l_X9_warpsOn_L14 {Ω : JO} {S : JS} {Q : JQ} {I : JI} {m : Nat} {q1 : Int32} (hm : Is9 S m) : ∀ (f : Nat) (w2 : Int32) (w3 : Int32) (o : (Int32 × Int32)), s_X9_warpsOn_L14 I m q1 f w2 w3 = some o → True → (∀ (y2 : Int32) (y3 : Int32) , o = (y2, y3) → AA Ω m_X9_warpsOn (FQ Ω m_X9_warpsOn Q) 0 0 50 [(2, .int y2), (3, .int y3), (0, .ref m), (1, .int q1)] [] I S) → AA Ω m_X9_warpsOn (FQ Ω m_X9_warpsOn Q) 0 0 14 [(2, .int w2), (3, .int w3), (0, .ref m), (1, .int q1)] [] I S := by
  intro f
  induction f with
  | zero =>
    intro w2 w3 o h hR hE
    rw [s_X9_warpsOn_L14] at h
    cases h
  | succ f ih =>
    intro w2 w3 o h hR hE
    rw [s_X9_warpsOn_L14] at h
    refine r_iload_n (pc' := 15) dX9_warpsOn_14 rfl 1 rfl rfl ?_
    refine r_aload_n (pc' := 16) dX9_warpsOn_15 rfl 2 rfl rfl ?_
    refine r_getO (pc' := 19) dX9_warpsOn_16 fa_X9_9 hm.o rfl hm.r1 rfl ?_
    refine r_iconst (pc' := 20) (v := 2) dX9_warpsOn_19 (by decide) rfl ?_
    obtain ⟨g4, h⟩ := gd_e h
    refine r_iaload (pc' := 21) dX9_warpsOn_20 hm.c1 g4 rfl ?_
    refine r_icmp_ge (tgt := 50) (pc' := 24) dX9_warpsOn_21 rfl rfl (fun h5 => ?_) (fun h5 => ?_)
    · have h := ifp h5 h
      cases h
      exact hE _ _ rfl
    · have h := ifn h5 h
      refine r_iload_n (pc' := 25) dX9_warpsOn_24 rfl 0 rfl rfl ?_
      refine r_aload_n (pc' := 26) dX9_warpsOn_25 rfl 2 rfl rfl ?_
      refine r_iload_n (pc' := 27) dX9_warpsOn_26 rfl 1 rfl rfl ?_
      obtain ⟨v6, ev6, h⟩ := bd_e h
      refine r_callV1 (pc' := 30) (k' := 0) (n' := 0) dX9_warpsOn_27 mb_X9_harnessOf mi_X9_harnessOf hm.o (by decide) rfl lk_X9_328 rfl rfl rfl (Nat.le_of_ble_eq_true rfl) rfl (c_X9_harnessOf hm ev6 (cpI ?_))
      refine r_iload_n (pc' := 31) dX9_warpsOn_30 rfl 3 rfl rfl ?_
      refine r_icmp_ne (tgt := 38) (pc' := 34) dX9_warpsOn_31 rfl rfl (fun h7 => ?_) (fun h7 => ?_)
      · have h := ifn h7 h
        refine r_iconst (pc' := 39) (v := 0) dX9_warpsOn_38 (by decide) rfl ?_
        refine r_callS1 (pc' := 42) (k' := 0) (n' := 0) dX9_warpsOn_39 mb_X9_one ms_X9_one lk_X9_324 rfl rfl rfl (Nat.le_of_ble_eq_true rfl) rfl (c_X9_one (b0 := false) rfl (cpI ?_))
        refine r_iadd (pc' := 43) dX9_warpsOn_42 rfl ?_
        refine r_istore_n (pc' := 44) (lv' := [(2, _), (3, _), (0, _), (1, _)]) dX9_warpsOn_43 rfl (by decide) rfl rfl ?_
        have h := lx_e h
        refine r_iinc (pc' := 47) (v := _ + 1) (lv' := [(3, _), (2, _), (0, _), (1, _)]) dX9_warpsOn_44 1 rfl rfl (by decide) rfl rfl ?_
        refine r_goto (tgt := 14) dX9_warpsOn_47 rfl ?_
        refine aa_locs (ks := [1, 0, 2, 3]) (lv' := [(2, _), (3, _), (0, _), (1, _)]) rfl ?_
        exact ih _ _ _ h hR hE
      · have h := ifp h7 h
        refine r_iconst (pc' := 35) (v := 1) dX9_warpsOn_34 (by decide) rfl ?_
        refine r_goto (tgt := 39) dX9_warpsOn_35 rfl ?_
        refine r_callS1 (pc' := 42) (k' := 0) (n' := 0) dX9_warpsOn_39 mb_X9_one ms_X9_one lk_X9_324 rfl rfl rfl (Nat.le_of_ble_eq_true rfl) rfl (c_X9_one (b0 := true) rfl (cpI ?_))
        refine r_iadd (pc' := 43) dX9_warpsOn_42 rfl ?_
        refine r_istore_n (pc' := 44) (lv' := [(2, _), (3, _), (0, _), (1, _)]) dX9_warpsOn_43 rfl (by decide) rfl rfl ?_
        have h := lx_e h
        refine r_iinc (pc' := 47) (v := _ + 1) (lv' := [(3, _), (2, _), (0, _), (1, _)]) dX9_warpsOn_44 1 rfl rfl (by decide) rfl rfl ?_
        refine r_goto (tgt := 14) dX9_warpsOn_47 rfl ?_
        refine aa_locs (ks := [1, 0, 2, 3]) (lv' := [(2, _), (3, _), (0, _), (1, _)]) rfl ?_
        exact ih _ _ _ h hR hE
set_option maxHeartbeats 4000000 in
theorem c_X9_warpsOn {Ω : JO} {I : JI} {S : JS} {Q : JQ} {m : Nat} {x1 : Int32} {r : Int32} {J : JI} (hm : Is9 S m) (h : s_X9_warpsOn I m x1 = some (r, J)) (hQ : Q (.inl (some (.int r))) J S) : Call Ω m_X9_warpsOn [.ref m, .int x1] I S Q := by
  refine call_of (by decide +kernel) rfl (Nat.le_of_ble_eq_true rfl) ?_
  change AA Ω m_X9_warpsOn (FQ Ω m_X9_warpsOn Q) 0 0 0 [(0, .ref m), (1, .int x1)] [] I S
  unfold s_X9_warpsOn at h
  refine r_aload_n (pc' := 1) dX9_warpsOn_0 rfl 0 rfl rfl ?_
  refine r_iload_n (pc' := 2) dX9_warpsOn_1 rfl 1 rfl rfl ?_
  obtain ⟨z2, I1, ez2, h⟩ := bd2_e h
  refine r_callV1 (pc' := 5) (k' := 0) (n' := 0) dX9_warpsOn_2 mb_X9_mayHarness mi_X9_mayHarness hm.o (by decide) rfl lk_X9_418 rfl rfl rfl (Nat.le_of_ble_eq_true rfl) rfl (c_X9_mayHarness hm ez2 (cpI ?_))
  refine r_if_ne (tgt := 10) (pc' := 8) dX9_warpsOn_5 rfl rfl (fun h3 => ?_) (fun h3 => ?_)
  · have h := ifp (zb_p0 h3) h
    refine r_iconst (pc' := 11) (v := 0) dX9_warpsOn_10 (by decide) rfl ?_
    refine r_istore_n (pc' := 12) (lv' := [(2, _), (0, _), (1, _)]) dX9_warpsOn_11 rfl (by decide) rfl rfl ?_
    refine r_iconst (pc' := 13) (v := 0) dX9_warpsOn_12 (by decide) rfl ?_
    refine r_istore_n (pc' := 14) (lv' := [(3, _), (2, _), (0, _), (1, _)]) dX9_warpsOn_13 rfl (by decide) rfl rfl ?_
    refine aa_locs (ks := [1, 0, 2, 3]) (lv' := [(2, _), (3, _), (0, _), (1, _)]) rfl ?_
    obtain ⟨o12, eo12, h⟩ := bd_e h
    refine l_X9_warpsOn_L14 (Ω := Ω) hm _ _ _ _ eo12 trivial (fun y10 y11 q => ?_)
    subst q
    refine r_iload_n (pc' := 51) dX9_warpsOn_50 rfl 0 rfl rfl ?_
    cases h
    exact r_iret dX9_warpsOn_51 rfl (by decide) (by decide) hQ
  · have h := ifn (zb_n0 h3) h
    refine r_iconst (pc' := 9) (v := 0) dX9_warpsOn_8 (by decide) rfl ?_
    cases h
    exact r_iret dX9_warpsOn_9 rfl (by decide) (by decide) hQ
set_option maxHeartbeats 4000000 in
theorem fr_X9_warpsOn {I : JI} {m : Nat} {x1 : Int32} {r : Int32} {J : JI} {z : Nat} (h : s_X9_warpsOn I m x1 = some (r, J)) (hz_m : z ≠ m) : J z = I z := by
  unfold s_X9_warpsOn at h
  obtain ⟨z2, I1, e1, h⟩ := bd2_e h
  rcases if_e h with h | h
  · obtain ⟨o2, e2, h⟩ := bd_e h
    obtain ⟨y10, y11⟩ := o2
    cases h
    exact ((fr_X9_mayHarness e1 (by omega)).trans rfl)
  · cases h
    exact ((fr_X9_mayHarness e1 (by omega)).trans rfl)
set_option maxHeartbeats 4000000 in
theorem ff_X9_warpsOn {I : JI} {m : Nat} {x1 : Int32} {r : Int32} {J : JI} {k : Nat} (h : s_X9_warpsOn I m x1 = some (r, J)) (hk0 : k ≠ 0) : J m k = I m k := by
  unfold s_X9_warpsOn at h
  obtain ⟨z2, I1, e1, h⟩ := bd2_e h
  rcases if_e h with h | h
  · obtain ⟨o2, e2, h⟩ := bd_e h
    obtain ⟨y10, y11⟩ := o2
    cases h
    exact ((ff_X9_mayHarness e1 hk0).trans rfl)
  · cases h
    exact ((ff_X9_mayHarness e1 hk0).trans rfl)
noncomputable def s_X9_isBroken (I : JI) (m : Nat) (x1 : Int32) : Option (Bool × JI) :=
  bd2 (s_X9_mayWarp I m x1) fun z2 I1 => if z2 = true then (bd (s_X9_breaks I1 m x1) fun z4 => if z4 = true then (some (true, I1)) else (some (false, I1))) else (some (false, I1))
set_option maxHeartbeats 4000000 in
theorem c_X9_isBroken {Ω : JO} {I : JI} {S : JS} {Q : JQ} {m : Nat} {x1 : Int32} {r : Bool} {J : JI} (hm : Is9 S m) (h : s_X9_isBroken I m x1 = some (r, J)) (hQ : Q (.inl (some (.int (zb r)))) J S) : Call Ω m_X9_isBroken [.ref m, .int x1] I S Q := by
  refine call_of (by decide +kernel) rfl (Nat.le_of_ble_eq_true rfl) ?_
  change AA Ω m_X9_isBroken (FQ Ω m_X9_isBroken Q) 0 0 0 [(0, .ref m), (1, .int x1)] [] I S
  unfold s_X9_isBroken at h
  refine r_aload_n (pc' := 1) dX9_isBroken_0 rfl 0 rfl rfl ?_
  refine r_iload_n (pc' := 2) dX9_isBroken_1 rfl 1 rfl rfl ?_
  obtain ⟨z2, I1, ez2, h⟩ := bd2_e h
  refine r_callV1 (pc' := 5) (k' := 0) (n' := 0) dX9_isBroken_2 mb_X9_mayWarp mi_X9_mayWarp hm.o (by decide) rfl lk_X9_415 rfl rfl rfl (Nat.le_of_ble_eq_true rfl) rfl (c_X9_mayWarp hm ez2 (cpI ?_))
  refine r_if_eq (tgt := 20) (pc' := 8) dX9_isBroken_5 rfl rfl (fun h3 => ?_) (fun h3 => ?_)
  · have h := ifn (zb_n0 h3) h
    refine r_iconst (pc' := 21) (v := 0) dX9_isBroken_20 (by decide) rfl ?_
    cases h
    exact r_zret dX9_isBroken_21 rfl (by decide) (by decide) (by decide) hQ
  · have h := ifp (zb_p0 h3) h
    refine r_aload_n (pc' := 9) dX9_isBroken_8 rfl 0 rfl rfl ?_
    refine r_iload_n (pc' := 10) dX9_isBroken_9 rfl 1 rfl rfl ?_
    obtain ⟨z4, ez4, h⟩ := bd_e h
    refine r_callV1 (pc' := 13) (k' := 0) (n' := 0) dX9_isBroken_10 mb_X9_breaks mi_X9_breaks hm.o (by decide) rfl lk_X9_235 rfl rfl rfl (Nat.le_of_ble_eq_true rfl) rfl (c_X9_breaks hm ez4 (cpI ?_))
    refine r_if_eq (tgt := 20) (pc' := 16) dX9_isBroken_13 rfl rfl (fun h5 => ?_) (fun h5 => ?_)
    · have h := ifn (zb_n0 h5) h
      refine r_iconst (pc' := 21) (v := 0) dX9_isBroken_20 (by decide) rfl ?_
      cases h
      exact r_zret dX9_isBroken_21 rfl (by decide) (by decide) (by decide) hQ
    · have h := ifp (zb_p0 h5) h
      refine r_iconst (pc' := 17) (v := 1) dX9_isBroken_16 (by decide) rfl ?_
      refine r_goto (tgt := 21) dX9_isBroken_17 rfl ?_
      cases h
      exact r_zret dX9_isBroken_21 rfl (by decide) (by decide) (by decide) hQ
set_option maxHeartbeats 4000000 in
theorem fr_X9_isBroken {I : JI} {m : Nat} {x1 : Int32} {r : Bool} {J : JI} {z : Nat} (h : s_X9_isBroken I m x1 = some (r, J)) (hz_m : z ≠ m) : J z = I z := by
  unfold s_X9_isBroken at h
  obtain ⟨z2, I1, e1, h⟩ := bd2_e h
  rcases if_e h with h | h
  · obtain ⟨o2, e2, h⟩ := bd_e h
    rcases if_e h with h | h
    · cases h
      exact ((fr_X9_mayWarp e1 (by omega)).trans rfl)
    · cases h
      exact ((fr_X9_mayWarp e1 (by omega)).trans rfl)
  · cases h
    exact ((fr_X9_mayWarp e1 (by omega)).trans rfl)
set_option maxHeartbeats 4000000 in
theorem ff_X9_isBroken {I : JI} {m : Nat} {x1 : Int32} {r : Bool} {J : JI} {k : Nat} (h : s_X9_isBroken I m x1 = some (r, J)) (hk0 : k ≠ 0) : J m k = I m k := by
  unfold s_X9_isBroken at h
  obtain ⟨z2, I1, e1, h⟩ := bd2_e h
  rcases if_e h with h | h
  · obtain ⟨o2, e2, h⟩ := bd_e h
    rcases if_e h with h | h
    · cases h
      exact ((ff_X9_mayWarp e1 hk0).trans rfl)
    · cases h
      exact ((ff_X9_mayWarp e1 hk0).trans rfl)
  · cases h
    exact ((ff_X9_mayWarp e1 hk0).trans rfl)
noncomputable def s_X9_brokenCount (I : JI) (m : Nat) : Option (Int32 × JI) :=
  bd2 (s_X9_mayLook I m) fun z2 I1 => if z2 = true then (bd (s_X9_brokenOnes I1 m) fun v4 => some (v4, I1)) else (some (0, I1))
set_option maxHeartbeats 4000000 in
theorem c_X9_brokenCount {Ω : JO} {I : JI} {S : JS} {Q : JQ} {m : Nat} {r : Int32} {J : JI} (hm : Is9 S m) (h : s_X9_brokenCount I m = some (r, J)) (hQ : Q (.inl (some (.int r))) J S) : Call Ω m_X9_brokenCount [.ref m] I S Q := by
  refine call_of (by decide +kernel) rfl (Nat.le_of_ble_eq_true rfl) ?_
  change AA Ω m_X9_brokenCount (FQ Ω m_X9_brokenCount Q) 0 0 0 [(0, .ref m)] [] I S
  unfold s_X9_brokenCount at h
  refine r_aload_n (pc' := 1) dX9_brokenCount_0 rfl 0 rfl rfl ?_
  obtain ⟨z2, I1, ez2, h⟩ := bd2_e h
  refine r_callV0 (pc' := 4) (k' := 0) (n' := 0) dX9_brokenCount_1 mb_X9_mayLook mi_X9_mayLook hm.o (by decide) rfl lk_X9_409 rfl rfl rfl (Nat.le_of_ble_eq_true rfl) rfl (c_X9_mayLook hm ez2 (cpI ?_))
  refine r_if_eq (tgt := 14) (pc' := 7) dX9_brokenCount_4 rfl rfl (fun h3 => ?_) (fun h3 => ?_)
  · have h := ifn (zb_n0 h3) h
    refine r_iconst (pc' := 15) (v := 0) dX9_brokenCount_14 (by decide) rfl ?_
    cases h
    exact r_iret dX9_brokenCount_15 rfl (by decide) (by decide) hQ
  · have h := ifp (zb_p0 h3) h
    refine r_aload_n (pc' := 8) dX9_brokenCount_7 rfl 0 rfl rfl ?_
    obtain ⟨v4, ev4, h⟩ := bd_e h
    refine r_callV0 (pc' := 11) (k' := 0) (n' := 0) dX9_brokenCount_8 mb_X9_brokenOnes mi_X9_brokenOnes hm.o (by decide) rfl lk_X9_421 rfl rfl rfl (Nat.le_of_ble_eq_true rfl) rfl (c_X9_brokenOnes hm ev4 (cpI ?_))
    refine r_goto (tgt := 15) dX9_brokenCount_11 rfl ?_
    cases h
    exact r_iret dX9_brokenCount_15 rfl (by decide) (by decide) hQ
set_option maxHeartbeats 4000000 in
theorem fr_X9_brokenCount {I : JI} {m : Nat} {r : Int32} {J : JI} {z : Nat} (h : s_X9_brokenCount I m = some (r, J)) (hz_m : z ≠ m) : J z = I z := by
  unfold s_X9_brokenCount at h
  obtain ⟨z2, I1, e1, h⟩ := bd2_e h
  rcases if_e h with h | h
  · obtain ⟨o2, e2, h⟩ := bd_e h
    cases h
    exact ((fr_X9_mayLook e1 (by omega)).trans rfl)
  · cases h
    exact ((fr_X9_mayLook e1 (by omega)).trans rfl)
set_option maxHeartbeats 4000000 in
theorem ff_X9_brokenCount {I : JI} {m : Nat} {r : Int32} {J : JI} {k : Nat} (h : s_X9_brokenCount I m = some (r, J)) (hk0 : k ≠ 0) : J m k = I m k := by
  unfold s_X9_brokenCount at h
  obtain ⟨z2, I1, e1, h⟩ := bd2_e h
  rcases if_e h with h | h
  · obtain ⟨o2, e2, h⟩ := bd_e h
    cases h
    exact ((ff_X9_mayLook e1 hk0).trans rfl)
  · cases h
    exact ((ff_X9_mayLook e1 hk0).trans rfl)
noncomputable def s_X9_isLifted (I : JI) (m : Nat) (x1 : Int32) : Option (Bool × JI) :=
  bd2 (s_X9_mayHarness I m x1) fun z2 I1 => if z2 = true then (bd (s_X9_ofHarness I1 m x1 0) fun v4 => if v4 = 1 then (some (true, I1)) else (some (false, I1))) else (some (false, I1))
set_option maxHeartbeats 4000000 in
theorem c_X9_isLifted {Ω : JO} {I : JI} {S : JS} {Q : JQ} {m : Nat} {x1 : Int32} {r : Bool} {J : JI} (hm : Is9 S m) (h : s_X9_isLifted I m x1 = some (r, J)) (hQ : Q (.inl (some (.int (zb r)))) J S) : Call Ω m_X9_isLifted [.ref m, .int x1] I S Q := by
  refine call_of (by decide +kernel) rfl (Nat.le_of_ble_eq_true rfl) ?_
  change AA Ω m_X9_isLifted (FQ Ω m_X9_isLifted Q) 0 0 0 [(0, .ref m), (1, .int x1)] [] I S
  unfold s_X9_isLifted at h
  refine r_aload_n (pc' := 1) dX9_isLifted_0 rfl 0 rfl rfl ?_
  refine r_iload_n (pc' := 2) dX9_isLifted_1 rfl 1 rfl rfl ?_
  obtain ⟨z2, I1, ez2, h⟩ := bd2_e h
  refine r_callV1 (pc' := 5) (k' := 0) (n' := 0) dX9_isLifted_2 mb_X9_mayHarness mi_X9_mayHarness hm.o (by decide) rfl lk_X9_418 rfl rfl rfl (Nat.le_of_ble_eq_true rfl) rfl (c_X9_mayHarness hm ez2 (cpI ?_))
  refine r_if_eq (tgt := 22) (pc' := 8) dX9_isLifted_5 rfl rfl (fun h3 => ?_) (fun h3 => ?_)
  · have h := ifn (zb_n0 h3) h
    refine r_iconst (pc' := 23) (v := 0) dX9_isLifted_22 (by decide) rfl ?_
    cases h
    exact r_zret dX9_isLifted_23 rfl (by decide) (by decide) (by decide) hQ
  · have h := ifp (zb_p0 h3) h
    refine r_aload_n (pc' := 9) dX9_isLifted_8 rfl 0 rfl rfl ?_
    refine r_iload_n (pc' := 10) dX9_isLifted_9 rfl 1 rfl rfl ?_
    refine r_iconst (pc' := 11) (v := 0) dX9_isLifted_10 (by decide) rfl ?_
    obtain ⟨v4, ev4, h⟩ := bd_e h
    refine r_callV2 (pc' := 14) (k' := 0) (n' := 0) dX9_isLifted_11 mb_X9_ofHarness mi_X9_ofHarness hm.o (by decide) rfl lk_X9_346 rfl rfl rfl (Nat.le_of_ble_eq_true rfl) rfl (c_X9_ofHarness hm ev4 (cpI ?_))
    refine r_iconst (pc' := 15) (v := 1) dX9_isLifted_14 (by decide) rfl ?_
    refine r_icmp_ne (tgt := 22) (pc' := 18) dX9_isLifted_15 rfl rfl (fun h5 => ?_) (fun h5 => ?_)
    · have h := ifn h5 h
      refine r_iconst (pc' := 23) (v := 0) dX9_isLifted_22 (by decide) rfl ?_
      cases h
      exact r_zret dX9_isLifted_23 rfl (by decide) (by decide) (by decide) hQ
    · have h := ifp h5 h
      refine r_iconst (pc' := 19) (v := 1) dX9_isLifted_18 (by decide) rfl ?_
      refine r_goto (tgt := 23) dX9_isLifted_19 rfl ?_
      cases h
      exact r_zret dX9_isLifted_23 rfl (by decide) (by decide) (by decide) hQ
set_option maxHeartbeats 4000000 in
theorem fr_X9_isLifted {I : JI} {m : Nat} {x1 : Int32} {r : Bool} {J : JI} {z : Nat} (h : s_X9_isLifted I m x1 = some (r, J)) (hz_m : z ≠ m) : J z = I z := by
  unfold s_X9_isLifted at h
  obtain ⟨z2, I1, e1, h⟩ := bd2_e h
  rcases if_e h with h | h
  · obtain ⟨o2, e2, h⟩ := bd_e h
    rcases if_e h with h | h
    · cases h
      exact ((fr_X9_mayHarness e1 (by omega)).trans rfl)
    · cases h
      exact ((fr_X9_mayHarness e1 (by omega)).trans rfl)
  · cases h
    exact ((fr_X9_mayHarness e1 (by omega)).trans rfl)
set_option maxHeartbeats 4000000 in
theorem ff_X9_isLifted {I : JI} {m : Nat} {x1 : Int32} {r : Bool} {J : JI} {k : Nat} (h : s_X9_isLifted I m x1 = some (r, J)) (hk0 : k ≠ 0) : J m k = I m k := by
  unfold s_X9_isLifted at h
  obtain ⟨z2, I1, e1, h⟩ := bd2_e h
  rcases if_e h with h | h
  · obtain ⟨o2, e2, h⟩ := bd_e h
    rcases if_e h with h | h
    · cases h
      exact ((ff_X9_mayHarness e1 hk0).trans rfl)
    · cases h
      exact ((ff_X9_mayHarness e1 hk0).trans rfl)
  · cases h
    exact ((ff_X9_mayHarness e1 hk0).trans rfl)
noncomputable def s_X9_wear (I : JI) (m : Nat) (x1 : Int32) : Option (Int32 × JI) :=
  bd2 (s_X9_mayHarness I m x1) fun z2 I1 => if z2 = true then (bd (s_X9_ofHarness I1 m x1 1) fun v4 => some (v4, I1)) else (some (0, I1))
set_option maxHeartbeats 4000000 in
theorem c_X9_wear {Ω : JO} {I : JI} {S : JS} {Q : JQ} {m : Nat} {x1 : Int32} {r : Int32} {J : JI} (hm : Is9 S m) (h : s_X9_wear I m x1 = some (r, J)) (hQ : Q (.inl (some (.int r))) J S) : Call Ω m_X9_wear [.ref m, .int x1] I S Q := by
  refine call_of (by decide +kernel) rfl (Nat.le_of_ble_eq_true rfl) ?_
  change AA Ω m_X9_wear (FQ Ω m_X9_wear Q) 0 0 0 [(0, .ref m), (1, .int x1)] [] I S
  unfold s_X9_wear at h
  refine r_aload_n (pc' := 1) dX9_wear_0 rfl 0 rfl rfl ?_
  refine r_iload_n (pc' := 2) dX9_wear_1 rfl 1 rfl rfl ?_
  obtain ⟨z2, I1, ez2, h⟩ := bd2_e h
  refine r_callV1 (pc' := 5) (k' := 0) (n' := 0) dX9_wear_2 mb_X9_mayHarness mi_X9_mayHarness hm.o (by decide) rfl lk_X9_418 rfl rfl rfl (Nat.le_of_ble_eq_true rfl) rfl (c_X9_mayHarness hm ez2 (cpI ?_))
  refine r_if_eq (tgt := 17) (pc' := 8) dX9_wear_5 rfl rfl (fun h3 => ?_) (fun h3 => ?_)
  · have h := ifn (zb_n0 h3) h
    refine r_iconst (pc' := 18) (v := 0) dX9_wear_17 (by decide) rfl ?_
    cases h
    exact r_iret dX9_wear_18 rfl (by decide) (by decide) hQ
  · have h := ifp (zb_p0 h3) h
    refine r_aload_n (pc' := 9) dX9_wear_8 rfl 0 rfl rfl ?_
    refine r_iload_n (pc' := 10) dX9_wear_9 rfl 1 rfl rfl ?_
    refine r_iconst (pc' := 11) (v := 1) dX9_wear_10 (by decide) rfl ?_
    obtain ⟨v4, ev4, h⟩ := bd_e h
    refine r_callV2 (pc' := 14) (k' := 0) (n' := 0) dX9_wear_11 mb_X9_ofHarness mi_X9_ofHarness hm.o (by decide) rfl lk_X9_346 rfl rfl rfl (Nat.le_of_ble_eq_true rfl) rfl (c_X9_ofHarness hm ev4 (cpI ?_))
    refine r_goto (tgt := 18) dX9_wear_14 rfl ?_
    cases h
    exact r_iret dX9_wear_18 rfl (by decide) (by decide) hQ
set_option maxHeartbeats 4000000 in
theorem fr_X9_wear {I : JI} {m : Nat} {x1 : Int32} {r : Int32} {J : JI} {z : Nat} (h : s_X9_wear I m x1 = some (r, J)) (hz_m : z ≠ m) : J z = I z := by
  unfold s_X9_wear at h
  obtain ⟨z2, I1, e1, h⟩ := bd2_e h
  rcases if_e h with h | h
  · obtain ⟨o2, e2, h⟩ := bd_e h
    cases h
    exact ((fr_X9_mayHarness e1 (by omega)).trans rfl)
  · cases h
    exact ((fr_X9_mayHarness e1 (by omega)).trans rfl)
set_option maxHeartbeats 4000000 in
theorem ff_X9_wear {I : JI} {m : Nat} {x1 : Int32} {r : Int32} {J : JI} {k : Nat} (h : s_X9_wear I m x1 = some (r, J)) (hk0 : k ≠ 0) : J m k = I m k := by
  unfold s_X9_wear at h
  obtain ⟨z2, I1, e1, h⟩ := bd2_e h
  rcases if_e h with h | h
  · obtain ⟨o2, e2, h⟩ := bd_e h
    cases h
    exact ((ff_X9_mayHarness e1 hk0).trans rfl)
  · cases h
    exact ((ff_X9_mayHarness e1 hk0).trans rfl)
noncomputable def s_X9_isStuck (I : JI) (m : Nat) (x1 : Int32) : Option (Bool × JI) :=
  bd2 (s_X9_mayHarness I m x1) fun z2 I1 => if z2 = true then (bd (s_X9_ofHarness I1 m x1 2) fun v4 => if v4 = 1 then (some (true, I1)) else (some (false, I1))) else (some (false, I1))
set_option maxHeartbeats 4000000 in
theorem c_X9_isStuck {Ω : JO} {I : JI} {S : JS} {Q : JQ} {m : Nat} {x1 : Int32} {r : Bool} {J : JI} (hm : Is9 S m) (h : s_X9_isStuck I m x1 = some (r, J)) (hQ : Q (.inl (some (.int (zb r)))) J S) : Call Ω m_X9_isStuck [.ref m, .int x1] I S Q := by
  refine call_of (by decide +kernel) rfl (Nat.le_of_ble_eq_true rfl) ?_
  change AA Ω m_X9_isStuck (FQ Ω m_X9_isStuck Q) 0 0 0 [(0, .ref m), (1, .int x1)] [] I S
  unfold s_X9_isStuck at h
  refine r_aload_n (pc' := 1) dX9_isStuck_0 rfl 0 rfl rfl ?_
  refine r_iload_n (pc' := 2) dX9_isStuck_1 rfl 1 rfl rfl ?_
  obtain ⟨z2, I1, ez2, h⟩ := bd2_e h
  refine r_callV1 (pc' := 5) (k' := 0) (n' := 0) dX9_isStuck_2 mb_X9_mayHarness mi_X9_mayHarness hm.o (by decide) rfl lk_X9_418 rfl rfl rfl (Nat.le_of_ble_eq_true rfl) rfl (c_X9_mayHarness hm ez2 (cpI ?_))
  refine r_if_eq (tgt := 22) (pc' := 8) dX9_isStuck_5 rfl rfl (fun h3 => ?_) (fun h3 => ?_)
  · have h := ifn (zb_n0 h3) h
    refine r_iconst (pc' := 23) (v := 0) dX9_isStuck_22 (by decide) rfl ?_
    cases h
    exact r_zret dX9_isStuck_23 rfl (by decide) (by decide) (by decide) hQ
  · have h := ifp (zb_p0 h3) h
    refine r_aload_n (pc' := 9) dX9_isStuck_8 rfl 0 rfl rfl ?_
    refine r_iload_n (pc' := 10) dX9_isStuck_9 rfl 1 rfl rfl ?_
    refine r_iconst (pc' := 11) (v := 2) dX9_isStuck_10 (by decide) rfl ?_
    obtain ⟨v4, ev4, h⟩ := bd_e h
    refine r_callV2 (pc' := 14) (k' := 0) (n' := 0) dX9_isStuck_11 mb_X9_ofHarness mi_X9_ofHarness hm.o (by decide) rfl lk_X9_346 rfl rfl rfl (Nat.le_of_ble_eq_true rfl) rfl (c_X9_ofHarness hm ev4 (cpI ?_))
    refine r_iconst (pc' := 15) (v := 1) dX9_isStuck_14 (by decide) rfl ?_
    refine r_icmp_ne (tgt := 22) (pc' := 18) dX9_isStuck_15 rfl rfl (fun h5 => ?_) (fun h5 => ?_)
    · have h := ifn h5 h
      refine r_iconst (pc' := 23) (v := 0) dX9_isStuck_22 (by decide) rfl ?_
      cases h
      exact r_zret dX9_isStuck_23 rfl (by decide) (by decide) (by decide) hQ
    · have h := ifp h5 h
      refine r_iconst (pc' := 19) (v := 1) dX9_isStuck_18 (by decide) rfl ?_
      refine r_goto (tgt := 23) dX9_isStuck_19 rfl ?_
      cases h
      exact r_zret dX9_isStuck_23 rfl (by decide) (by decide) (by decide) hQ
set_option maxHeartbeats 4000000 in
theorem fr_X9_isStuck {I : JI} {m : Nat} {x1 : Int32} {r : Bool} {J : JI} {z : Nat} (h : s_X9_isStuck I m x1 = some (r, J)) (hz_m : z ≠ m) : J z = I z := by
  unfold s_X9_isStuck at h
  obtain ⟨z2, I1, e1, h⟩ := bd2_e h
  rcases if_e h with h | h
  · obtain ⟨o2, e2, h⟩ := bd_e h
    rcases if_e h with h | h
    · cases h
      exact ((fr_X9_mayHarness e1 (by omega)).trans rfl)
    · cases h
      exact ((fr_X9_mayHarness e1 (by omega)).trans rfl)
  · cases h
    exact ((fr_X9_mayHarness e1 (by omega)).trans rfl)
set_option maxHeartbeats 4000000 in
theorem ff_X9_isStuck {I : JI} {m : Nat} {x1 : Int32} {r : Bool} {J : JI} {k : Nat} (h : s_X9_isStuck I m x1 = some (r, J)) (hk0 : k ≠ 0) : J m k = I m k := by
  unfold s_X9_isStuck at h
  obtain ⟨z2, I1, e1, h⟩ := bd2_e h
  rcases if_e h with h | h
  · obtain ⟨o2, e2, h⟩ := bd_e h
    rcases if_e h with h | h
    · cases h
      exact ((ff_X9_mayHarness e1 hk0).trans rfl)
    · cases h
      exact ((ff_X9_mayHarness e1 hk0).trans rfl)
  · cases h
    exact ((ff_X9_mayHarness e1 hk0).trans rfl)
noncomputable def s_X9_cardCount (I : JI) (m : Nat) : Option (Int32 × JI) :=
  bd2 (s_X9_look I m 3) fun v2 I1 => some (v2, I1)
set_option maxHeartbeats 4000000 in
theorem c_X9_cardCount {Ω : JO} {I : JI} {S : JS} {Q : JQ} {m : Nat} {r : Int32} {J : JI} (hm : Is9 S m) (h : s_X9_cardCount I m = some (r, J)) (hQ : Q (.inl (some (.int r))) J S) : Call Ω m_X9_cardCount [.ref m] I S Q := by
  refine call_of (by decide +kernel) rfl (Nat.le_of_ble_eq_true rfl) ?_
  change AA Ω m_X9_cardCount (FQ Ω m_X9_cardCount Q) 0 0 0 [(0, .ref m)] [] I S
  unfold s_X9_cardCount at h
  refine r_aload_n (pc' := 1) dX9_cardCount_0 rfl 0 rfl rfl ?_
  refine r_iconst (pc' := 2) (v := 3) dX9_cardCount_1 (by decide) rfl ?_
  obtain ⟨v2, I1, ev2, h⟩ := bd2_e h
  refine r_callV1 (pc' := 5) (k' := 0) (n' := 0) dX9_cardCount_2 mb_X9_look mi_X9_look hm.o (by decide) rfl lk_X9_412 rfl rfl rfl (Nat.le_of_ble_eq_true rfl) rfl (c_X9_look hm ev2 (cpI ?_))
  cases h
  exact r_iret dX9_cardCount_5 rfl (by decide) (by decide) hQ
set_option maxHeartbeats 4000000 in
theorem fr_X9_cardCount {I : JI} {m : Nat} {r : Int32} {J : JI} {z : Nat} (h : s_X9_cardCount I m = some (r, J)) (hz_m : z ≠ m) : J z = I z := by
  unfold s_X9_cardCount at h
  obtain ⟨v2, I1, e1, h⟩ := bd2_e h
  cases h
  exact ((fr_X9_look e1 (by omega)).trans rfl)
set_option maxHeartbeats 4000000 in
theorem ff_X9_cardCount {I : JI} {m : Nat} {r : Int32} {J : JI} {k : Nat} (h : s_X9_cardCount I m = some (r, J)) (hk0 : k ≠ 0) : J m k = I m k := by
  unfold s_X9_cardCount at h
  obtain ⟨v2, I1, e1, h⟩ := bd2_e h
  cases h
  exact ((ff_X9_look e1 hk0).trans rfl)
noncomputable def s_X9_lifts (I : JI) (m : Nat) (x1 : Int32) (x2 : Int32) : Option (Bool × JI) :=
  gd ((I m 6) = 0 ∨ (I m 6) = 1) <| bd (s_X9_isCard I m x1) fun z2 => if z2 = true then (bd (s_X9_isHarness I m x2) fun z9 => if z9 = true then (bd2 (s_X9_mayTwo I m (nz (I m 6)) true) fun z17 I16 => if z17 = true then (bd (s_X9_ofCard I16 m x1 0) fun v19 => if (s_X9_has v19 x2) = true then (some (true, I16)) else (some (false, I16))) else (some (false, I16))) else (bd2 (s_X9_mayTwo I m (nz (I m 6)) false) fun z12 I11 => if z12 = true then (bd (s_X9_ofCard I11 m x1 0) fun v14 => if (s_X9_has v14 x2) = true then (some (true, I11)) else (some (false, I11))) else (some (false, I11)))) else (bd2 (s_X9_mayTwo I m (nz (I m 6)) false) fun z5 I4 => if z5 = true then (bd (s_X9_ofCard I4 m x1 0) fun v7 => if (s_X9_has v7 x2) = true then (some (true, I4)) else (some (false, I4))) else (some (false, I4)))
set_option maxHeartbeats 4000000 in
theorem c_X9_lifts {Ω : JO} {I : JI} {S : JS} {Q : JQ} {m : Nat} {x1 : Int32} {x2 : Int32} {r : Bool} {J : JI} (hm : Is9 S m) (h : s_X9_lifts I m x1 x2 = some (r, J)) (hQ : Q (.inl (some (.int (zb r)))) J S) : Call Ω m_X9_lifts [.ref m, .int x1, .int x2] I S Q := by
  refine call_of (by decide +kernel) rfl (Nat.le_of_ble_eq_true rfl) ?_
  change AA Ω m_X9_lifts (FQ Ω m_X9_lifts Q) 0 0 0 [(0, .ref m), (1, .int x1), (2, .int x2)] [] I S
  unfold s_X9_lifts at h
  refine r_aload_n (pc' := 1) dX9_lifts_0 rfl 0 rfl rfl ?_
  refine r_aload_n (pc' := 2) dX9_lifts_1 rfl 0 rfl rfl ?_
  obtain ⟨g1, h⟩ := gd_e h
  refine r_getZ (pc' := 5) dX9_lifts_2 fa_X9_53 hm.o rfl g1 rfl ?_
  refine r_aload_n (pc' := 6) dX9_lifts_5 rfl 0 rfl rfl ?_
  refine r_iload_n (pc' := 7) dX9_lifts_6 rfl 1 rfl rfl ?_
  obtain ⟨z2, ez2, h⟩ := bd_e h
  refine r_callV1 (pc' := 10) (k' := 0) (n' := 0) dX9_lifts_7 mb_X9_isCard mi_X9_isCard hm.o (by decide) rfl lk_X9_400 rfl rfl rfl (Nat.le_of_ble_eq_true rfl) rfl (c_X9_isCard hm ez2 (cpI ?_))
  refine r_if_eq (tgt := 25) (pc' := 13) dX9_lifts_10 rfl rfl (fun h3 => ?_) (fun h3 => ?_)
  · have h := ifn (zb_n0 h3) h
    refine r_iconst (pc' := 26) (v := 0) dX9_lifts_25 (by decide) rfl ?_
    obtain ⟨z5, I4, ez5, h⟩ := bd2_e h
    refine r_callV2 (pc' := 29) (k' := 0) (n' := 0) dX9_lifts_26 mb_X9_mayTwo mi_X9_mayTwo hm.o (by decide) rfl lk_X9_393 rfl rfl rfl (Nat.le_of_ble_eq_true rfl) rfl (c_X9_mayTwo (b2 := false) hm ez5 (cpI ?_))
    refine r_if_eq (tgt := 49) (pc' := 32) dX9_lifts_29 rfl rfl (fun h6 => ?_) (fun h6 => ?_)
    · have h := ifn (zb_n0 h6) h
      refine r_iconst (pc' := 50) (v := 0) dX9_lifts_49 (by decide) rfl ?_
      cases h
      exact r_zret dX9_lifts_50 rfl (by decide) (by decide) (by decide) hQ
    · have h := ifp (zb_p0 h6) h
      refine r_aload_n (pc' := 33) dX9_lifts_32 rfl 0 rfl rfl ?_
      refine r_iload_n (pc' := 34) dX9_lifts_33 rfl 1 rfl rfl ?_
      refine r_iconst (pc' := 35) (v := 0) dX9_lifts_34 (by decide) rfl ?_
      obtain ⟨v7, ev7, h⟩ := bd_e h
      refine r_callV2 (pc' := 38) (k' := 0) (n' := 0) dX9_lifts_35 mb_X9_ofCard mi_X9_ofCard hm.o (by decide) rfl lk_X9_232 rfl rfl rfl (Nat.le_of_ble_eq_true rfl) rfl (c_X9_ofCard hm ev7 (cpI ?_))
      refine r_iload_n (pc' := 39) dX9_lifts_38 rfl 2 rfl rfl ?_
      refine r_callS2 (pc' := 42) (k' := 0) (n' := 0) dX9_lifts_39 mb_X9_has ms_X9_has lk_X9_147 rfl rfl rfl (Nat.le_of_ble_eq_true rfl) rfl (c_X9_has rfl (cpI ?_))
      refine r_if_eq (tgt := 49) (pc' := 45) dX9_lifts_42 rfl rfl (fun h8 => ?_) (fun h8 => ?_)
      · have h := ifn (zb_n0 h8) h
        refine r_iconst (pc' := 50) (v := 0) dX9_lifts_49 (by decide) rfl ?_
        cases h
        exact r_zret dX9_lifts_50 rfl (by decide) (by decide) (by decide) hQ
      · have h := ifp (zb_p0 h8) h
        refine r_iconst (pc' := 46) (v := 1) dX9_lifts_45 (by decide) rfl ?_
        refine r_goto (tgt := 50) dX9_lifts_46 rfl ?_
        cases h
        exact r_zret dX9_lifts_50 rfl (by decide) (by decide) (by decide) hQ
  · have h := ifp (zb_p0 h3) h
    refine r_aload_n (pc' := 14) dX9_lifts_13 rfl 0 rfl rfl ?_
    refine r_iload_n (pc' := 15) dX9_lifts_14 rfl 2 rfl rfl ?_
    obtain ⟨z9, ez9, h⟩ := bd_e h
    refine r_callV1 (pc' := 18) (k' := 0) (n' := 0) dX9_lifts_15 mb_X9_isHarness mi_X9_isHarness hm.o (by decide) rfl lk_X9_390 rfl rfl rfl (Nat.le_of_ble_eq_true rfl) rfl (c_X9_isHarness hm ez9 (cpI ?_))
    refine r_if_eq (tgt := 25) (pc' := 21) dX9_lifts_18 rfl rfl (fun h10 => ?_) (fun h10 => ?_)
    · have h := ifn (zb_n0 h10) h
      refine r_iconst (pc' := 26) (v := 0) dX9_lifts_25 (by decide) rfl ?_
      obtain ⟨z12, I11, ez12, h⟩ := bd2_e h
      refine r_callV2 (pc' := 29) (k' := 0) (n' := 0) dX9_lifts_26 mb_X9_mayTwo mi_X9_mayTwo hm.o (by decide) rfl lk_X9_393 rfl rfl rfl (Nat.le_of_ble_eq_true rfl) rfl (c_X9_mayTwo (b2 := false) hm ez12 (cpI ?_))
      refine r_if_eq (tgt := 49) (pc' := 32) dX9_lifts_29 rfl rfl (fun h13 => ?_) (fun h13 => ?_)
      · have h := ifn (zb_n0 h13) h
        refine r_iconst (pc' := 50) (v := 0) dX9_lifts_49 (by decide) rfl ?_
        cases h
        exact r_zret dX9_lifts_50 rfl (by decide) (by decide) (by decide) hQ
      · have h := ifp (zb_p0 h13) h
        refine r_aload_n (pc' := 33) dX9_lifts_32 rfl 0 rfl rfl ?_
        refine r_iload_n (pc' := 34) dX9_lifts_33 rfl 1 rfl rfl ?_
        refine r_iconst (pc' := 35) (v := 0) dX9_lifts_34 (by decide) rfl ?_
        obtain ⟨v14, ev14, h⟩ := bd_e h
        refine r_callV2 (pc' := 38) (k' := 0) (n' := 0) dX9_lifts_35 mb_X9_ofCard mi_X9_ofCard hm.o (by decide) rfl lk_X9_232 rfl rfl rfl (Nat.le_of_ble_eq_true rfl) rfl (c_X9_ofCard hm ev14 (cpI ?_))
        refine r_iload_n (pc' := 39) dX9_lifts_38 rfl 2 rfl rfl ?_
        refine r_callS2 (pc' := 42) (k' := 0) (n' := 0) dX9_lifts_39 mb_X9_has ms_X9_has lk_X9_147 rfl rfl rfl (Nat.le_of_ble_eq_true rfl) rfl (c_X9_has rfl (cpI ?_))
        refine r_if_eq (tgt := 49) (pc' := 45) dX9_lifts_42 rfl rfl (fun h15 => ?_) (fun h15 => ?_)
        · have h := ifn (zb_n0 h15) h
          refine r_iconst (pc' := 50) (v := 0) dX9_lifts_49 (by decide) rfl ?_
          cases h
          exact r_zret dX9_lifts_50 rfl (by decide) (by decide) (by decide) hQ
        · have h := ifp (zb_p0 h15) h
          refine r_iconst (pc' := 46) (v := 1) dX9_lifts_45 (by decide) rfl ?_
          refine r_goto (tgt := 50) dX9_lifts_46 rfl ?_
          cases h
          exact r_zret dX9_lifts_50 rfl (by decide) (by decide) (by decide) hQ
    · have h := ifp (zb_p0 h10) h
      refine r_iconst (pc' := 22) (v := 1) dX9_lifts_21 (by decide) rfl ?_
      refine r_goto (tgt := 26) dX9_lifts_22 rfl ?_
      obtain ⟨z17, I16, ez17, h⟩ := bd2_e h
      refine r_callV2 (pc' := 29) (k' := 0) (n' := 0) dX9_lifts_26 mb_X9_mayTwo mi_X9_mayTwo hm.o (by decide) rfl lk_X9_393 rfl rfl rfl (Nat.le_of_ble_eq_true rfl) rfl (c_X9_mayTwo (b2 := true) hm ez17 (cpI ?_))
      refine r_if_eq (tgt := 49) (pc' := 32) dX9_lifts_29 rfl rfl (fun h18 => ?_) (fun h18 => ?_)
      · have h := ifn (zb_n0 h18) h
        refine r_iconst (pc' := 50) (v := 0) dX9_lifts_49 (by decide) rfl ?_
        cases h
        exact r_zret dX9_lifts_50 rfl (by decide) (by decide) (by decide) hQ
      · have h := ifp (zb_p0 h18) h
        refine r_aload_n (pc' := 33) dX9_lifts_32 rfl 0 rfl rfl ?_
        refine r_iload_n (pc' := 34) dX9_lifts_33 rfl 1 rfl rfl ?_
        refine r_iconst (pc' := 35) (v := 0) dX9_lifts_34 (by decide) rfl ?_
        obtain ⟨v19, ev19, h⟩ := bd_e h
        refine r_callV2 (pc' := 38) (k' := 0) (n' := 0) dX9_lifts_35 mb_X9_ofCard mi_X9_ofCard hm.o (by decide) rfl lk_X9_232 rfl rfl rfl (Nat.le_of_ble_eq_true rfl) rfl (c_X9_ofCard hm ev19 (cpI ?_))
        refine r_iload_n (pc' := 39) dX9_lifts_38 rfl 2 rfl rfl ?_
        refine r_callS2 (pc' := 42) (k' := 0) (n' := 0) dX9_lifts_39 mb_X9_has ms_X9_has lk_X9_147 rfl rfl rfl (Nat.le_of_ble_eq_true rfl) rfl (c_X9_has rfl (cpI ?_))
        refine r_if_eq (tgt := 49) (pc' := 45) dX9_lifts_42 rfl rfl (fun h20 => ?_) (fun h20 => ?_)
        · have h := ifn (zb_n0 h20) h
          refine r_iconst (pc' := 50) (v := 0) dX9_lifts_49 (by decide) rfl ?_
          cases h
          exact r_zret dX9_lifts_50 rfl (by decide) (by decide) (by decide) hQ
        · have h := ifp (zb_p0 h20) h
          refine r_iconst (pc' := 46) (v := 1) dX9_lifts_45 (by decide) rfl ?_
          refine r_goto (tgt := 50) dX9_lifts_46 rfl ?_
          cases h
          exact r_zret dX9_lifts_50 rfl (by decide) (by decide) (by decide) hQ
set_option maxHeartbeats 4000000 in
theorem fr_X9_lifts {I : JI} {m : Nat} {x1 : Int32} {x2 : Int32} {r : Bool} {J : JI} {z : Nat} (h : s_X9_lifts I m x1 x2 = some (r, J)) (hz_m : z ≠ m) : J z = I z := by
  unfold s_X9_lifts at h
  obtain ⟨g1, h⟩ := gd_e h
  obtain ⟨o2, e2, h⟩ := bd_e h
  rcases if_e h with h | h
  · obtain ⟨o3, e3, h⟩ := bd_e h
    rcases if_e h with h | h
    · obtain ⟨z17, I16, e4, h⟩ := bd2_e h
      rcases if_e h with h | h
      · obtain ⟨o5, e5, h⟩ := bd_e h
        rcases if_e h with h | h
        · cases h
          exact ((fr_X9_mayTwo e4 (by omega)).trans rfl)
        · cases h
          exact ((fr_X9_mayTwo e4 (by omega)).trans rfl)
      · cases h
        exact ((fr_X9_mayTwo e4 (by omega)).trans rfl)
    · obtain ⟨z12, I11, e6, h⟩ := bd2_e h
      rcases if_e h with h | h
      · obtain ⟨o7, e7, h⟩ := bd_e h
        rcases if_e h with h | h
        · cases h
          exact ((fr_X9_mayTwo e6 (by omega)).trans rfl)
        · cases h
          exact ((fr_X9_mayTwo e6 (by omega)).trans rfl)
      · cases h
        exact ((fr_X9_mayTwo e6 (by omega)).trans rfl)
  · obtain ⟨z5, I4, e8, h⟩ := bd2_e h
    rcases if_e h with h | h
    · obtain ⟨o9, e9, h⟩ := bd_e h
      rcases if_e h with h | h
      · cases h
        exact ((fr_X9_mayTwo e8 (by omega)).trans rfl)
      · cases h
        exact ((fr_X9_mayTwo e8 (by omega)).trans rfl)
    · cases h
      exact ((fr_X9_mayTwo e8 (by omega)).trans rfl)
set_option maxHeartbeats 4000000 in
theorem ff_X9_lifts {I : JI} {m : Nat} {x1 : Int32} {x2 : Int32} {r : Bool} {J : JI} {k : Nat} (h : s_X9_lifts I m x1 x2 = some (r, J)) (hk0 : k ≠ 0) : J m k = I m k := by
  unfold s_X9_lifts at h
  obtain ⟨g1, h⟩ := gd_e h
  obtain ⟨o2, e2, h⟩ := bd_e h
  rcases if_e h with h | h
  · obtain ⟨o3, e3, h⟩ := bd_e h
    rcases if_e h with h | h
    · obtain ⟨z17, I16, e4, h⟩ := bd2_e h
      rcases if_e h with h | h
      · obtain ⟨o5, e5, h⟩ := bd_e h
        rcases if_e h with h | h
        · cases h
          exact ((ff_X9_mayTwo e4 hk0).trans rfl)
        · cases h
          exact ((ff_X9_mayTwo e4 hk0).trans rfl)
      · cases h
        exact ((ff_X9_mayTwo e4 hk0).trans rfl)
    · obtain ⟨z12, I11, e6, h⟩ := bd2_e h
      rcases if_e h with h | h
      · obtain ⟨o7, e7, h⟩ := bd_e h
        rcases if_e h with h | h
        · cases h
          exact ((ff_X9_mayTwo e6 hk0).trans rfl)
        · cases h
          exact ((ff_X9_mayTwo e6 hk0).trans rfl)
      · cases h
        exact ((ff_X9_mayTwo e6 hk0).trans rfl)
  · obtain ⟨z5, I4, e8, h⟩ := bd2_e h
    rcases if_e h with h | h
    · obtain ⟨o9, e9, h⟩ := bd_e h
      rcases if_e h with h | h
      · cases h
        exact ((ff_X9_mayTwo e8 hk0).trans rfl)
      · cases h
        exact ((ff_X9_mayTwo e8 hk0).trans rfl)
    · cases h
      exact ((ff_X9_mayTwo e8 hk0).trans rfl)
noncomputable def s_X9_cardColour (I : JI) (m : Nat) (x1 : Int32) : Option (Int32 × JI) :=
  bd2 (s_X9_mayCard I m x1) fun z2 I1 => if z2 = true then (bd (s_X9_ofCard I1 m x1 1) fun v4 => some (v4, I1)) else (some (0, I1))
set_option maxHeartbeats 4000000 in
theorem c_X9_cardColour {Ω : JO} {I : JI} {S : JS} {Q : JQ} {m : Nat} {x1 : Int32} {r : Int32} {J : JI} (hm : Is9 S m) (h : s_X9_cardColour I m x1 = some (r, J)) (hQ : Q (.inl (some (.int r))) J S) : Call Ω m_X9_cardColour [.ref m, .int x1] I S Q := by
  refine call_of (by decide +kernel) rfl (Nat.le_of_ble_eq_true rfl) ?_
  change AA Ω m_X9_cardColour (FQ Ω m_X9_cardColour Q) 0 0 0 [(0, .ref m), (1, .int x1)] [] I S
  unfold s_X9_cardColour at h
  refine r_aload_n (pc' := 1) dX9_cardColour_0 rfl 0 rfl rfl ?_
  refine r_iload_n (pc' := 2) dX9_cardColour_1 rfl 1 rfl rfl ?_
  obtain ⟨z2, I1, ez2, h⟩ := bd2_e h
  refine r_callV1 (pc' := 5) (k' := 0) (n' := 0) dX9_cardColour_2 mb_X9_mayCard mi_X9_mayCard hm.o (by decide) rfl lk_X9_424 rfl rfl rfl (Nat.le_of_ble_eq_true rfl) rfl (c_X9_mayCard hm ez2 (cpI ?_))
  refine r_if_eq (tgt := 17) (pc' := 8) dX9_cardColour_5 rfl rfl (fun h3 => ?_) (fun h3 => ?_)
  · have h := ifn (zb_n0 h3) h
    refine r_iconst (pc' := 18) (v := 0) dX9_cardColour_17 (by decide) rfl ?_
    cases h
    exact r_iret dX9_cardColour_18 rfl (by decide) (by decide) hQ
  · have h := ifp (zb_p0 h3) h
    refine r_aload_n (pc' := 9) dX9_cardColour_8 rfl 0 rfl rfl ?_
    refine r_iload_n (pc' := 10) dX9_cardColour_9 rfl 1 rfl rfl ?_
    refine r_iconst (pc' := 11) (v := 1) dX9_cardColour_10 (by decide) rfl ?_
    obtain ⟨v4, ev4, h⟩ := bd_e h
    refine r_callV2 (pc' := 14) (k' := 0) (n' := 0) dX9_cardColour_11 mb_X9_ofCard mi_X9_ofCard hm.o (by decide) rfl lk_X9_232 rfl rfl rfl (Nat.le_of_ble_eq_true rfl) rfl (c_X9_ofCard hm ev4 (cpI ?_))
    refine r_goto (tgt := 18) dX9_cardColour_14 rfl ?_
    cases h
    exact r_iret dX9_cardColour_18 rfl (by decide) (by decide) hQ
set_option maxHeartbeats 4000000 in
theorem fr_X9_cardColour {I : JI} {m : Nat} {x1 : Int32} {r : Int32} {J : JI} {z : Nat} (h : s_X9_cardColour I m x1 = some (r, J)) (hz_m : z ≠ m) : J z = I z := by
  unfold s_X9_cardColour at h
  obtain ⟨z2, I1, e1, h⟩ := bd2_e h
  rcases if_e h with h | h
  · obtain ⟨o2, e2, h⟩ := bd_e h
    cases h
    exact ((fr_X9_mayCard e1 (by omega)).trans rfl)
  · cases h
    exact ((fr_X9_mayCard e1 (by omega)).trans rfl)
set_option maxHeartbeats 4000000 in
theorem ff_X9_cardColour {I : JI} {m : Nat} {x1 : Int32} {r : Int32} {J : JI} {k : Nat} (h : s_X9_cardColour I m x1 = some (r, J)) (hk0 : k ≠ 0) : J m k = I m k := by
  unfold s_X9_cardColour at h
  obtain ⟨z2, I1, e1, h⟩ := bd2_e h
  rcases if_e h with h | h
  · obtain ⟨o2, e2, h⟩ := bd_e h
    cases h
    exact ((ff_X9_mayCard e1 hk0).trans rfl)
  · cases h
    exact ((ff_X9_mayCard e1 hk0).trans rfl)
noncomputable def s_X9_liftedWarps (I : JI) (m : Nat) (x1 : Int32) : Option (Int32 × JI) :=
  bd2 (s_X9_mayCard I m x1) fun z2 I1 => if z2 = true then (bd (s_X9_warpsOf I1 m x1) fun v4 => some (v4, I1)) else (some (0, I1))
set_option maxHeartbeats 4000000 in
theorem c_X9_liftedWarps {Ω : JO} {I : JI} {S : JS} {Q : JQ} {m : Nat} {x1 : Int32} {r : Int32} {J : JI} (hm : Is9 S m) (h : s_X9_liftedWarps I m x1 = some (r, J)) (hQ : Q (.inl (some (.int r))) J S) : Call Ω m_X9_liftedWarps [.ref m, .int x1] I S Q := by
  refine call_of (by decide +kernel) rfl (Nat.le_of_ble_eq_true rfl) ?_
  change AA Ω m_X9_liftedWarps (FQ Ω m_X9_liftedWarps Q) 0 0 0 [(0, .ref m), (1, .int x1)] [] I S
  unfold s_X9_liftedWarps at h
  refine r_aload_n (pc' := 1) dX9_liftedWarps_0 rfl 0 rfl rfl ?_
  refine r_iload_n (pc' := 2) dX9_liftedWarps_1 rfl 1 rfl rfl ?_
  obtain ⟨z2, I1, ez2, h⟩ := bd2_e h
  refine r_callV1 (pc' := 5) (k' := 0) (n' := 0) dX9_liftedWarps_2 mb_X9_mayCard mi_X9_mayCard hm.o (by decide) rfl lk_X9_424 rfl rfl rfl (Nat.le_of_ble_eq_true rfl) rfl (c_X9_mayCard hm ez2 (cpI ?_))
  refine r_if_eq (tgt := 16) (pc' := 8) dX9_liftedWarps_5 rfl rfl (fun h3 => ?_) (fun h3 => ?_)
  · have h := ifn (zb_n0 h3) h
    refine r_iconst (pc' := 17) (v := 0) dX9_liftedWarps_16 (by decide) rfl ?_
    cases h
    exact r_iret dX9_liftedWarps_17 rfl (by decide) (by decide) hQ
  · have h := ifp (zb_p0 h3) h
    refine r_aload_n (pc' := 9) dX9_liftedWarps_8 rfl 0 rfl rfl ?_
    refine r_iload_n (pc' := 10) dX9_liftedWarps_9 rfl 1 rfl rfl ?_
    obtain ⟨v4, ev4, h⟩ := bd_e h
    refine r_callV1 (pc' := 13) (k' := 0) (n' := 0) dX9_liftedWarps_10 mb_X9_warpsOf mi_X9_warpsOf hm.o (by decide) rfl lk_X9_337 rfl rfl rfl (Nat.le_of_ble_eq_true rfl) rfl (c_X9_warpsOf hm ev4 (cpI ?_))
    refine r_goto (tgt := 17) dX9_liftedWarps_13 rfl ?_
    cases h
    exact r_iret dX9_liftedWarps_17 rfl (by decide) (by decide) hQ
set_option maxHeartbeats 4000000 in
theorem fr_X9_liftedWarps {I : JI} {m : Nat} {x1 : Int32} {r : Int32} {J : JI} {z : Nat} (h : s_X9_liftedWarps I m x1 = some (r, J)) (hz_m : z ≠ m) : J z = I z := by
  unfold s_X9_liftedWarps at h
  obtain ⟨z2, I1, e1, h⟩ := bd2_e h
  rcases if_e h with h | h
  · obtain ⟨o2, e2, h⟩ := bd_e h
    cases h
    exact ((fr_X9_mayCard e1 (by omega)).trans rfl)
  · cases h
    exact ((fr_X9_mayCard e1 (by omega)).trans rfl)
set_option maxHeartbeats 4000000 in
theorem ff_X9_liftedWarps {I : JI} {m : Nat} {x1 : Int32} {r : Int32} {J : JI} {k : Nat} (h : s_X9_liftedWarps I m x1 = some (r, J)) (hk0 : k ≠ 0) : J m k = I m k := by
  unfold s_X9_liftedWarps at h
  obtain ⟨z2, I1, e1, h⟩ := bd2_e h
  rcases if_e h with h | h
  · obtain ⟨o2, e2, h⟩ := bd_e h
    cases h
    exact ((ff_X9_mayCard e1 hk0).trans rfl)
  · cases h
    exact ((ff_X9_mayCard e1 hk0).trans rfl)
noncomputable def s_X9_countOf_L4 (q0 : Int32) : Nat → Int32 → Int32 → Option (Int32 × Int32)
  | 0, _, _ => none
  | f + 1, w1, w2 => if 8 ≤ w2 then (some (w1, w2)) else (lx (w1 + (s_X9_one (s_X9_has q0 w2))) fun v2 => s_X9_countOf_L4 q0 f v2 (w2 + 1))
noncomputable def s_X9_countOf (x0 : Int32) : Option (Int32) :=
  bd (s_X9_countOf_L4 x0 lf 0 0) fun (y3, y4) => some y3
set_option maxHeartbeats 4000000 in
theorem l_X9_countOf_L4 {Ω : JO} {S : JS} {Q : JQ} {I : JI} {q0 : Int32} : ∀ (f : Nat) (w1 : Int32) (w2 : Int32) (o : (Int32 × Int32)), s_X9_countOf_L4 q0 f w1 w2 = some o → True → (∀ (y1 : Int32) (y2 : Int32) , o = (y1, y2) → AA Ω m_X9_countOf (FQ Ω m_X9_countOf Q) 0 0 27 [(1, .int y1), (2, .int y2), (0, .int q0)] [] I S) → AA Ω m_X9_countOf (FQ Ω m_X9_countOf Q) 0 0 4 [(1, .int w1), (2, .int w2), (0, .int q0)] [] I S := by
  intro f
  induction f with
  | zero =>
    intro w1 w2 o h hR hE
    rw [s_X9_countOf_L4] at h
    cases h
  | succ f ih =>
    intro w1 w2 o h hR hE
    rw [s_X9_countOf_L4] at h
    refine r_iload_n (pc' := 5) dX9_countOf_4 rfl 1 rfl rfl ?_
    refine r_bipush (pc' := 7) (v := 8) dX9_countOf_5 (by decide) rfl ?_
    refine r_icmp_ge (tgt := 27) (pc' := 10) dX9_countOf_7 rfl rfl (fun h1 => ?_) (fun h1 => ?_)
    · have h := ifp h1 h
      cases h
      exact hE _ _ rfl
    · have h := ifn h1 h
      refine r_iload_n (pc' := 11) dX9_countOf_10 rfl 0 rfl rfl ?_
      refine r_iload_n (pc' := 12) dX9_countOf_11 rfl 2 rfl rfl ?_
      refine r_iload_n (pc' := 13) dX9_countOf_12 rfl 1 rfl rfl ?_
      refine r_callS2 (pc' := 16) (k' := 0) (n' := 0) dX9_countOf_13 mb_X9_has ms_X9_has lk_X9_147 rfl rfl rfl (Nat.le_of_ble_eq_true rfl) rfl (c_X9_has rfl (cpI ?_))
      refine r_callS1 (pc' := 19) (k' := 0) (n' := 0) dX9_countOf_16 mb_X9_one ms_X9_one lk_X9_324 rfl rfl rfl (Nat.le_of_ble_eq_true rfl) rfl (c_X9_one rfl (cpI ?_))
      refine r_iadd (pc' := 20) dX9_countOf_19 rfl ?_
      refine r_istore_n (pc' := 21) (lv' := [(1, _), (2, _), (0, _)]) dX9_countOf_20 rfl (by decide) rfl rfl ?_
      have h := lx_e h
      refine r_iinc (pc' := 24) (v := _ + 1) (lv' := [(2, _), (1, _), (0, _)]) dX9_countOf_21 1 rfl rfl (by decide) rfl rfl ?_
      refine r_goto (tgt := 4) dX9_countOf_24 rfl ?_
      refine aa_locs (ks := [1, 0, 2]) (lv' := [(1, _), (2, _), (0, _)]) rfl ?_
      exact ih _ _ _ h hR hE
set_option maxHeartbeats 4000000 in
theorem c_X9_countOf {Ω : JO} {I : JI} {S : JS} {Q : JQ} {x0 : Int32} {r : Int32} (h : s_X9_countOf x0 = some r) (hQ : Q (.inl (some (.int r))) I S) : Call Ω m_X9_countOf [.int x0] I S Q := by
  refine call_of (by decide +kernel) rfl (Nat.le_of_ble_eq_true rfl) ?_
  change AA Ω m_X9_countOf (FQ Ω m_X9_countOf Q) 0 0 0 [(0, .int x0)] [] I S
  unfold s_X9_countOf at h
  refine r_iconst (pc' := 1) (v := 0) dX9_countOf_0 (by decide) rfl ?_
  refine r_istore_n (pc' := 2) (lv' := [(1, _), (0, _)]) dX9_countOf_1 rfl (by decide) rfl rfl ?_
  refine r_iconst (pc' := 3) (v := 0) dX9_countOf_2 (by decide) rfl ?_
  refine r_istore_n (pc' := 4) (lv' := [(2, _), (1, _), (0, _)]) dX9_countOf_3 rfl (by decide) rfl rfl ?_
  refine aa_locs (ks := [1, 0, 2]) (lv' := [(1, _), (2, _), (0, _)]) rfl ?_
  obtain ⟨o5, eo5, h⟩ := bd_e h
  refine l_X9_countOf_L4 (Ω := Ω)  _ _ _ _ eo5 trivial (fun y3 y4 q => ?_)
  subst q
  refine r_iload_n (pc' := 28) dX9_countOf_27 rfl 0 rfl rfl ?_
  cases h
  exact r_iret dX9_countOf_28 rfl (by decide) (by decide) hQ
noncomputable def s_X9_liftDistance (I : JI) (m : Nat) (x1 : Int32) (x2 : Int32) : Option (Int32 × JI) :=
  bd2 (s_X9_mayCards I m x1 x2) fun z2 I1 => if z2 = true then (bd (s_X9_ofCard I1 m x1 0) fun v4 => bd (s_X9_ofCard I1 m x2 0) fun v5 => bd (s_X9_countOf (v4 ^^^ v5)) fun v6 => some (v6, I1)) else (some (0, I1))
set_option maxHeartbeats 4000000 in
theorem c_X9_liftDistance {Ω : JO} {I : JI} {S : JS} {Q : JQ} {m : Nat} {x1 : Int32} {x2 : Int32} {r : Int32} {J : JI} (hm : Is9 S m) (h : s_X9_liftDistance I m x1 x2 = some (r, J)) (hQ : Q (.inl (some (.int r))) J S) : Call Ω m_X9_liftDistance [.ref m, .int x1, .int x2] I S Q := by
  refine call_of (by decide +kernel) rfl (Nat.le_of_ble_eq_true rfl) ?_
  change AA Ω m_X9_liftDistance (FQ Ω m_X9_liftDistance Q) 0 0 0 [(0, .ref m), (1, .int x1), (2, .int x2)] [] I S
  unfold s_X9_liftDistance at h
  refine r_aload_n (pc' := 1) dX9_liftDistance_0 rfl 0 rfl rfl ?_
  refine r_iload_n (pc' := 2) dX9_liftDistance_1 rfl 1 rfl rfl ?_
  refine r_iload_n (pc' := 3) dX9_liftDistance_2 rfl 2 rfl rfl ?_
  obtain ⟨z2, I1, ez2, h⟩ := bd2_e h
  refine r_callV2 (pc' := 6) (k' := 0) (n' := 0) dX9_liftDistance_3 mb_X9_mayCards mi_X9_mayCards hm.o (by decide) rfl lk_X9_427 rfl rfl rfl (Nat.le_of_ble_eq_true rfl) rfl (c_X9_mayCards hm ez2 (cpI ?_))
  refine r_if_eq (tgt := 28) (pc' := 9) dX9_liftDistance_6 rfl rfl (fun h3 => ?_) (fun h3 => ?_)
  · have h := ifn (zb_n0 h3) h
    refine r_iconst (pc' := 29) (v := 0) dX9_liftDistance_28 (by decide) rfl ?_
    cases h
    exact r_iret dX9_liftDistance_29 rfl (by decide) (by decide) hQ
  · have h := ifp (zb_p0 h3) h
    refine r_aload_n (pc' := 10) dX9_liftDistance_9 rfl 0 rfl rfl ?_
    refine r_iload_n (pc' := 11) dX9_liftDistance_10 rfl 1 rfl rfl ?_
    refine r_iconst (pc' := 12) (v := 0) dX9_liftDistance_11 (by decide) rfl ?_
    obtain ⟨v4, ev4, h⟩ := bd_e h
    refine r_callV2 (pc' := 15) (k' := 0) (n' := 0) dX9_liftDistance_12 mb_X9_ofCard mi_X9_ofCard hm.o (by decide) rfl lk_X9_232 rfl rfl rfl (Nat.le_of_ble_eq_true rfl) rfl (c_X9_ofCard hm ev4 (cpI ?_))
    refine r_aload_n (pc' := 16) dX9_liftDistance_15 rfl 0 rfl rfl ?_
    refine r_iload_n (pc' := 17) dX9_liftDistance_16 rfl 2 rfl rfl ?_
    refine r_iconst (pc' := 18) (v := 0) dX9_liftDistance_17 (by decide) rfl ?_
    obtain ⟨v5, ev5, h⟩ := bd_e h
    refine r_callV2 (pc' := 21) (k' := 0) (n' := 0) dX9_liftDistance_18 mb_X9_ofCard mi_X9_ofCard hm.o (by decide) rfl lk_X9_232 rfl rfl rfl (Nat.le_of_ble_eq_true rfl) rfl (c_X9_ofCard hm ev5 (cpI ?_))
    refine r_ixor (pc' := 22) dX9_liftDistance_21 rfl ?_
    obtain ⟨v6, ev6, h⟩ := bd_e h
    refine r_callS1 (pc' := 25) (k' := 0) (n' := 0) dX9_liftDistance_22 mb_X9_countOf ms_X9_countOf lk_X9_430 rfl rfl rfl (Nat.le_of_ble_eq_true rfl) rfl (c_X9_countOf ev6 (cpI ?_))
    refine r_goto (tgt := 29) dX9_liftDistance_25 rfl ?_
    cases h
    exact r_iret dX9_liftDistance_29 rfl (by decide) (by decide) hQ
set_option maxHeartbeats 4000000 in
theorem fr_X9_liftDistance {I : JI} {m : Nat} {x1 : Int32} {x2 : Int32} {r : Int32} {J : JI} {z : Nat} (h : s_X9_liftDistance I m x1 x2 = some (r, J)) (hz_m : z ≠ m) : J z = I z := by
  unfold s_X9_liftDistance at h
  obtain ⟨z2, I1, e1, h⟩ := bd2_e h
  rcases if_e h with h | h
  · obtain ⟨o2, e2, h⟩ := bd_e h
    obtain ⟨o3, e3, h⟩ := bd_e h
    obtain ⟨o4, e4, h⟩ := bd_e h
    cases h
    exact ((fr_X9_mayCards e1 (by omega)).trans rfl)
  · cases h
    exact ((fr_X9_mayCards e1 (by omega)).trans rfl)
set_option maxHeartbeats 4000000 in
theorem ff_X9_liftDistance {I : JI} {m : Nat} {x1 : Int32} {x2 : Int32} {r : Int32} {J : JI} {k : Nat} (h : s_X9_liftDistance I m x1 x2 = some (r, J)) (hk0 : k ≠ 0) : J m k = I m k := by
  unfold s_X9_liftDistance at h
  obtain ⟨z2, I1, e1, h⟩ := bd2_e h
  rcases if_e h with h | h
  · obtain ⟨o2, e2, h⟩ := bd_e h
    obtain ⟨o3, e3, h⟩ := bd_e h
    obtain ⟨o4, e4, h⟩ := bd_e h
    cases h
    exact ((ff_X9_mayCards e1 hk0).trans rfl)
  · cases h
    exact ((ff_X9_mayCards e1 hk0).trans rfl)
noncomputable def s_X9_oppositeCard_L12 (I : JI) (m : Nat) (q1 : Int32) : Nat → Int32 → Option ((Int32 × JI) ⊕ (Int32))
  | 0, _ => none
  | f + 1, w2 => gd (vp_in 3 2030) <| if (I (m + 1) (Int32.toNatClampNeg 3)) ≤ w2 then (some (.inr (w2))) else (bd (s_X9_ofCard I m q1 0) fun v6 => bd (s_X9_ofCard I m w2 0) fun v7 => bd (s_X9_countOf (v6 ^^^ v7)) fun v8 => gd (vp_in 0 2030) <| if v8 = (I (m + 1) (Int32.toNatClampNeg 0)) then (some (.inl (w2, I))) else (s_X9_oppositeCard_L12 I m q1 f (w2 + 1)))
noncomputable def s_X9_oppositeCard (I : JI) (m : Nat) (x1 : Int32) : Option (Int32 × JI) :=
  bd2 (s_X9_mayCard I m x1) fun z2 I1 => if z2 = true then (bl (s_X9_oppositeCard_L12 I1 m x1 lf 0) fun y11 => some ((-1), I1)) else (some (0, I1))
set_option maxHeartbeats 4000000 in
theorem l_X9_oppositeCard_L12 {Ω : JO} {S : JS} {Q : JQ} {I : JI} {m : Nat} {q1 : Int32} (hm : Is9 S m) : ∀ (f : Nat) (w2 : Int32) (o : ((Int32 × JI) ⊕ (Int32))), s_X9_oppositeCard_L12 I m q1 f w2 = some o → (∀ (r : Int32) (J : JI), o = .inl (r, J) → Q (.inl (some (.int r))) J S) → (∀ (y2 : Int32) , o = .inr (y2) → AA Ω m_X9_oppositeCard (FQ Ω m_X9_oppositeCard Q) 0 0 55 [(2, .int y2), (0, .ref m), (1, .int q1)] [] I S) → AA Ω m_X9_oppositeCard (FQ Ω m_X9_oppositeCard Q) 0 0 12 [(2, .int w2), (0, .ref m), (1, .int q1)] [] I S := by
  intro f
  induction f with
  | zero =>
    intro w2 o h hR hE
    rw [s_X9_oppositeCard_L12] at h
    cases h
  | succ f ih =>
    intro w2 o h hR hE
    rw [s_X9_oppositeCard_L12] at h
    refine r_iload_n (pc' := 13) dX9_oppositeCard_12 rfl 0 rfl rfl ?_
    refine r_aload_n (pc' := 14) dX9_oppositeCard_13 rfl 1 rfl rfl ?_
    refine r_getO (pc' := 17) dX9_oppositeCard_14 fa_X9_9 hm.o rfl hm.r1 rfl ?_
    refine r_iconst (pc' := 18) (v := 3) dX9_oppositeCard_17 (by decide) rfl ?_
    obtain ⟨g4, h⟩ := gd_e h
    refine r_iaload (pc' := 19) dX9_oppositeCard_18 hm.c1 g4 rfl ?_
    refine r_icmp_ge (tgt := 55) (pc' := 22) dX9_oppositeCard_19 rfl rfl (fun h5 => ?_) (fun h5 => ?_)
    · have h := ifp h5 h
      cases h
      exact hE _ rfl
    · have h := ifn h5 h
      refine r_aload_n (pc' := 23) dX9_oppositeCard_22 rfl 1 rfl rfl ?_
      refine r_iload_n (pc' := 24) dX9_oppositeCard_23 rfl 2 rfl rfl ?_
      refine r_iconst (pc' := 25) (v := 0) dX9_oppositeCard_24 (by decide) rfl ?_
      obtain ⟨v6, ev6, h⟩ := bd_e h
      refine r_callV2 (pc' := 28) (k' := 0) (n' := 0) dX9_oppositeCard_25 mb_X9_ofCard mi_X9_ofCard hm.o (by decide) rfl lk_X9_232 rfl rfl rfl (Nat.le_of_ble_eq_true rfl) rfl (c_X9_ofCard hm ev6 (cpI ?_))
      refine r_aload_n (pc' := 29) dX9_oppositeCard_28 rfl 1 rfl rfl ?_
      refine r_iload_n (pc' := 30) dX9_oppositeCard_29 rfl 0 rfl rfl ?_
      refine r_iconst (pc' := 31) (v := 0) dX9_oppositeCard_30 (by decide) rfl ?_
      obtain ⟨v7, ev7, h⟩ := bd_e h
      refine r_callV2 (pc' := 34) (k' := 0) (n' := 0) dX9_oppositeCard_31 mb_X9_ofCard mi_X9_ofCard hm.o (by decide) rfl lk_X9_232 rfl rfl rfl (Nat.le_of_ble_eq_true rfl) rfl (c_X9_ofCard hm ev7 (cpI ?_))
      refine r_ixor (pc' := 35) dX9_oppositeCard_34 rfl ?_
      obtain ⟨v8, ev8, h⟩ := bd_e h
      refine r_callS1 (pc' := 38) (k' := 0) (n' := 0) dX9_oppositeCard_35 mb_X9_countOf ms_X9_countOf lk_X9_430 rfl rfl rfl (Nat.le_of_ble_eq_true rfl) rfl (c_X9_countOf ev8 (cpI ?_))
      refine r_aload_n (pc' := 39) dX9_oppositeCard_38 rfl 1 rfl rfl ?_
      refine r_getO (pc' := 42) dX9_oppositeCard_39 fa_X9_9 hm.o rfl hm.r1 rfl ?_
      refine r_iconst (pc' := 43) (v := 0) dX9_oppositeCard_42 (by decide) rfl ?_
      obtain ⟨g9, h⟩ := gd_e h
      refine r_iaload (pc' := 44) dX9_oppositeCard_43 hm.c1 g9 rfl ?_
      refine r_icmp_ne (tgt := 49) (pc' := 47) dX9_oppositeCard_44 rfl rfl (fun h10 => ?_) (fun h10 => ?_)
      · have h := ifn h10 h
        refine r_iinc (pc' := 52) (v := _ + 1) (lv' := [(2, _), (0, _), (1, _)]) dX9_oppositeCard_49 0 rfl rfl (by decide) rfl rfl ?_
        refine r_goto (tgt := 12) dX9_oppositeCard_52 rfl ?_
        exact ih _ _ h hR hE
      · have h := ifp h10 h
        refine r_iload_n (pc' := 48) dX9_oppositeCard_47 rfl 0 rfl rfl ?_
        cases h
        exact r_iret dX9_oppositeCard_48 rfl (by decide) (by decide) (hR _ _ rfl)
set_option maxHeartbeats 4000000 in
theorem c_X9_oppositeCard {Ω : JO} {I : JI} {S : JS} {Q : JQ} {m : Nat} {x1 : Int32} {r : Int32} {J : JI} (hm : Is9 S m) (h : s_X9_oppositeCard I m x1 = some (r, J)) (hQ : Q (.inl (some (.int r))) J S) : Call Ω m_X9_oppositeCard [.ref m, .int x1] I S Q := by
  refine call_of (by decide +kernel) rfl (Nat.le_of_ble_eq_true rfl) ?_
  change AA Ω m_X9_oppositeCard (FQ Ω m_X9_oppositeCard Q) 0 0 0 [(0, .ref m), (1, .int x1)] [] I S
  unfold s_X9_oppositeCard at h
  refine r_aload_n (pc' := 1) dX9_oppositeCard_0 rfl 0 rfl rfl ?_
  refine r_iload_n (pc' := 2) dX9_oppositeCard_1 rfl 1 rfl rfl ?_
  obtain ⟨z2, I1, ez2, h⟩ := bd2_e h
  refine r_callV1 (pc' := 5) (k' := 0) (n' := 0) dX9_oppositeCard_2 mb_X9_mayCard mi_X9_mayCard hm.o (by decide) rfl lk_X9_424 rfl rfl rfl (Nat.le_of_ble_eq_true rfl) rfl (c_X9_mayCard hm ez2 (cpI ?_))
  refine r_if_ne (tgt := 10) (pc' := 8) dX9_oppositeCard_5 rfl rfl (fun h3 => ?_) (fun h3 => ?_)
  · have h := ifp (zb_p0 h3) h
    refine r_iconst (pc' := 11) (v := 0) dX9_oppositeCard_10 (by decide) rfl ?_
    refine r_istore_n (pc' := 12) (lv' := [(2, _), (0, _), (1, _)]) dX9_oppositeCard_11 rfl (by decide) rfl rfl ?_
    obtain ⟨o12, eo12, h1, h⟩ := bl_e h
    refine l_X9_oppositeCard_L12 (Ω := Ω) hm _ _ _ eo12 (fun r J q => ?_) (fun y11 q => ?_)
    · have h1 := h1 _ q
      cases h1
      exact hQ
    have h := h _ q
    refine r_iconst (pc' := 56) (v := -1) dX9_oppositeCard_55 (by decide) rfl ?_
    cases h
    exact r_iret dX9_oppositeCard_56 rfl (by decide) (by decide) hQ
  · have h := ifn (zb_n0 h3) h
    refine r_iconst (pc' := 9) (v := 0) dX9_oppositeCard_8 (by decide) rfl ?_
    cases h
    exact r_iret dX9_oppositeCard_9 rfl (by decide) (by decide) hQ
theorem frl_X9_oppositeCard_L12 {I : JI} {m : Nat} {q1 : Int32} {z : Nat} (hz_m : z ≠ m) : ∀ (f : Nat) (w2 : Int32) (o : ((Int32 × JI) ⊕ (Int32))), s_X9_oppositeCard_L12 I m q1 f w2 = some o → (∀ (r : Int32) (J : JI), o = .inl (r, J) → J z = I z) := by
  intro f
  induction f with
  | zero =>
    intro w2 o h
    rw [s_X9_oppositeCard_L12] at h
    cases h
  | succ f ih =>
    intro w2 o h
    rw [s_X9_oppositeCard_L12] at h
    obtain ⟨g1, h⟩ := gd_e h
    rcases if_e h with h | h
    · cases h
      intro _ _ q
      cases q
    · obtain ⟨o2, e2, h⟩ := bd_e h
      obtain ⟨o3, e3, h⟩ := bd_e h
      obtain ⟨o4, e4, h⟩ := bd_e h
      obtain ⟨g5, h⟩ := gd_e h
      rcases if_e h with h | h
      · cases h
        intro _ _ q
        cases q
        exact rfl
      · exact (ih _ _ h)
set_option maxHeartbeats 4000000 in
theorem fr_X9_oppositeCard {I : JI} {m : Nat} {x1 : Int32} {r : Int32} {J : JI} {z : Nat} (h : s_X9_oppositeCard I m x1 = some (r, J)) (hz_m : z ≠ m) : J z = I z := by
  unfold s_X9_oppositeCard at h
  obtain ⟨z2, I1, e1, h⟩ := bd2_e h
  rcases if_e h with h | h
  · obtain ⟨o2, e2, h1, h⟩ := bl_e h
    rcases o2 with y2 | y2
    · have h1 := h1 _ rfl
      cases h1
      exact (((frl_X9_oppositeCard_L12 hz_m _ _ _ e2) _ _ rfl).trans ((fr_X9_mayCard e1 (by omega)).trans rfl))
    have h := h _ rfl
    cases h
    exact ((fr_X9_mayCard e1 (by omega)).trans rfl)
  · cases h
    exact ((fr_X9_mayCard e1 (by omega)).trans rfl)
theorem ffl_X9_oppositeCard_L12 {I : JI} {m : Nat} {q1 : Int32} {k : Nat} (hk0 : k ≠ 0) : ∀ (f : Nat) (w2 : Int32) (o : ((Int32 × JI) ⊕ (Int32))), s_X9_oppositeCard_L12 I m q1 f w2 = some o → (∀ (r : Int32) (J : JI), o = .inl (r, J) → J m k = I m k) := by
  intro f
  induction f with
  | zero =>
    intro w2 o h
    rw [s_X9_oppositeCard_L12] at h
    cases h
  | succ f ih =>
    intro w2 o h
    rw [s_X9_oppositeCard_L12] at h
    obtain ⟨g1, h⟩ := gd_e h
    rcases if_e h with h | h
    · cases h
      intro _ _ q
      cases q
    · obtain ⟨o2, e2, h⟩ := bd_e h
      obtain ⟨o3, e3, h⟩ := bd_e h
      obtain ⟨o4, e4, h⟩ := bd_e h
      obtain ⟨g5, h⟩ := gd_e h
      rcases if_e h with h | h
      · cases h
        intro _ _ q
        cases q
        exact rfl
      · exact (ih _ _ h)
set_option maxHeartbeats 4000000 in
theorem ff_X9_oppositeCard {I : JI} {m : Nat} {x1 : Int32} {r : Int32} {J : JI} {k : Nat} (h : s_X9_oppositeCard I m x1 = some (r, J)) (hk0 : k ≠ 0) : J m k = I m k := by
  unfold s_X9_oppositeCard at h
  obtain ⟨z2, I1, e1, h⟩ := bd2_e h
  rcases if_e h with h | h
  · obtain ⟨o2, e2, h1, h⟩ := bl_e h
    rcases o2 with y2 | y2
    · have h1 := h1 _ rfl
      cases h1
      exact (((ffl_X9_oppositeCard_L12 hk0 _ _ _ e2) _ _ rfl).trans ((ff_X9_mayCard e1 hk0).trans rfl))
    have h := h _ rfl
    cases h
    exact ((ff_X9_mayCard e1 hk0).trans rfl)
  · cases h
    exact ((ff_X9_mayCard e1 hk0).trans rfl)
noncomputable def s_X9_deckLength (I : JI) (m : Nat) : Option (Int32 × JI) :=
  bd2 (s_X9_look I m 4) fun v2 I1 => some (v2, I1)
set_option maxHeartbeats 4000000 in
theorem c_X9_deckLength {Ω : JO} {I : JI} {S : JS} {Q : JQ} {m : Nat} {r : Int32} {J : JI} (hm : Is9 S m) (h : s_X9_deckLength I m = some (r, J)) (hQ : Q (.inl (some (.int r))) J S) : Call Ω m_X9_deckLength [.ref m] I S Q := by
  refine call_of (by decide +kernel) rfl (Nat.le_of_ble_eq_true rfl) ?_
  change AA Ω m_X9_deckLength (FQ Ω m_X9_deckLength Q) 0 0 0 [(0, .ref m)] [] I S
  unfold s_X9_deckLength at h
  refine r_aload_n (pc' := 1) dX9_deckLength_0 rfl 0 rfl rfl ?_
  refine r_iconst (pc' := 2) (v := 4) dX9_deckLength_1 (by decide) rfl ?_
  obtain ⟨v2, I1, ev2, h⟩ := bd2_e h
  refine r_callV1 (pc' := 5) (k' := 0) (n' := 0) dX9_deckLength_2 mb_X9_look mi_X9_look hm.o (by decide) rfl lk_X9_412 rfl rfl rfl (Nat.le_of_ble_eq_true rfl) rfl (c_X9_look hm ev2 (cpI ?_))
  cases h
  exact r_iret dX9_deckLength_5 rfl (by decide) (by decide) hQ
set_option maxHeartbeats 4000000 in
theorem fr_X9_deckLength {I : JI} {m : Nat} {r : Int32} {J : JI} {z : Nat} (h : s_X9_deckLength I m = some (r, J)) (hz_m : z ≠ m) : J z = I z := by
  unfold s_X9_deckLength at h
  obtain ⟨v2, I1, e1, h⟩ := bd2_e h
  cases h
  exact ((fr_X9_look e1 (by omega)).trans rfl)
set_option maxHeartbeats 4000000 in
theorem ff_X9_deckLength {I : JI} {m : Nat} {r : Int32} {J : JI} {k : Nat} (h : s_X9_deckLength I m = some (r, J)) (hk0 : k ≠ 0) : J m k = I m k := by
  unfold s_X9_deckLength at h
  obtain ⟨v2, I1, e1, h⟩ := bd2_e h
  cases h
  exact ((ff_X9_look e1 hk0).trans rfl)
noncomputable def s_X9_deckCard (I : JI) (m : Nat) (x1 : Int32) : Option (Int32 × JI) :=
  gd ((I m 6) = 0 ∨ (I m 6) = 1) <| gd ((I m 6) = 0 ∨ (I m 6) = 1) <| if (nz (I m 6)) = true then (gd (vp_in 4 2030) <| if (s_X9_in x1 0 ((I (m + 1) (Int32.toNatClampNeg 4)) - 1)) = true then (bd2 (s_X9_mayTwo I m (nz (I m 6)) true) fun z15 I14 => if z15 = true then (gd (vp_in (164 + x1) 2030) <| some ((I14 (m + 1) (Int32.toNatClampNeg (164 + x1))), I14)) else (some (0, I14))) else (bd2 (s_X9_mayTwo I m (nz (I m 6)) false) fun z11 I10 => if z11 = true then (gd (vp_in (164 + x1) 2030) <| some ((I10 (m + 1) (Int32.toNatClampNeg (164 + x1))), I10)) else (some (0, I10)))) else (bd2 (s_X9_mayTwo I m (nz (I m 6)) false) fun z5 I4 => if z5 = true then (gd (vp_in (164 + x1) 2030) <| some ((I4 (m + 1) (Int32.toNatClampNeg (164 + x1))), I4)) else (some (0, I4)))
set_option maxHeartbeats 4000000 in
theorem c_X9_deckCard {Ω : JO} {I : JI} {S : JS} {Q : JQ} {m : Nat} {x1 : Int32} {r : Int32} {J : JI} (hm : Is9 S m) (h : s_X9_deckCard I m x1 = some (r, J)) (hQ : Q (.inl (some (.int r))) J S) : Call Ω m_X9_deckCard [.ref m, .int x1] I S Q := by
  refine call_of (by decide +kernel) rfl (Nat.le_of_ble_eq_true rfl) ?_
  change AA Ω m_X9_deckCard (FQ Ω m_X9_deckCard Q) 0 0 0 [(0, .ref m), (1, .int x1)] [] I S
  unfold s_X9_deckCard at h
  refine r_aload_n (pc' := 1) dX9_deckCard_0 rfl 0 rfl rfl ?_
  refine r_aload_n (pc' := 2) dX9_deckCard_1 rfl 0 rfl rfl ?_
  obtain ⟨g1, h⟩ := gd_e h
  refine r_getZ (pc' := 5) dX9_deckCard_2 fa_X9_53 hm.o rfl g1 rfl ?_
  refine r_aload_n (pc' := 6) dX9_deckCard_5 rfl 0 rfl rfl ?_
  obtain ⟨g2, h⟩ := gd_e h
  refine r_getZ (pc' := 9) dX9_deckCard_6 fa_X9_53 hm.o rfl g2 rfl ?_
  refine r_if_eq (tgt := 32) (pc' := 12) dX9_deckCard_9 rfl rfl (fun h3 => ?_) (fun h3 => ?_)
  · have h := ifn (zb_n0 h3) h
    refine r_iconst (pc' := 33) (v := 0) dX9_deckCard_32 (by decide) rfl ?_
    obtain ⟨z5, I4, ez5, h⟩ := bd2_e h
    refine r_callV2 (pc' := 36) (k' := 0) (n' := 0) dX9_deckCard_33 mb_X9_mayTwo mi_X9_mayTwo hm.o (by decide) rfl lk_X9_393 rfl rfl rfl (Nat.le_of_ble_eq_true rfl) rfl (c_X9_mayTwo (b2 := false) hm ez5 (cpI ?_))
    refine r_if_eq (tgt := 52) (pc' := 39) dX9_deckCard_36 rfl rfl (fun h6 => ?_) (fun h6 => ?_)
    · have h := ifn (zb_n0 h6) h
      refine r_iconst (pc' := 53) (v := 0) dX9_deckCard_52 (by decide) rfl ?_
      cases h
      exact r_iret dX9_deckCard_53 rfl (by decide) (by decide) hQ
    · have h := ifp (zb_p0 h6) h
      refine r_aload_n (pc' := 40) dX9_deckCard_39 rfl 0 rfl rfl ?_
      refine r_getO (pc' := 43) dX9_deckCard_40 fa_X9_9 hm.o rfl hm.r1 rfl ?_
      refine r_sipush (pc' := 46) (v := 164) dX9_deckCard_43 (by decide) rfl ?_
      refine r_iload_n (pc' := 47) dX9_deckCard_46 rfl 1 rfl rfl ?_
      refine r_iadd (pc' := 48) dX9_deckCard_47 rfl ?_
      obtain ⟨g7, h⟩ := gd_e h
      refine r_iaload (pc' := 49) dX9_deckCard_48 hm.c1 g7 rfl ?_
      refine r_goto (tgt := 53) dX9_deckCard_49 rfl ?_
      cases h
      exact r_iret dX9_deckCard_53 rfl (by decide) (by decide) hQ
  · have h := ifp (zb_p0 h3) h
    refine r_iload_n (pc' := 13) dX9_deckCard_12 rfl 1 rfl rfl ?_
    refine r_iconst (pc' := 14) (v := 0) dX9_deckCard_13 (by decide) rfl ?_
    refine r_aload_n (pc' := 15) dX9_deckCard_14 rfl 0 rfl rfl ?_
    refine r_getO (pc' := 18) dX9_deckCard_15 fa_X9_9 hm.o rfl hm.r1 rfl ?_
    refine r_iconst (pc' := 19) (v := 4) dX9_deckCard_18 (by decide) rfl ?_
    obtain ⟨g8, h⟩ := gd_e h
    refine r_iaload (pc' := 20) dX9_deckCard_19 hm.c1 g8 rfl ?_
    refine r_iconst (pc' := 21) (v := 1) dX9_deckCard_20 (by decide) rfl ?_
    refine r_isub (pc' := 22) dX9_deckCard_21 rfl ?_
    refine r_callS3 (pc' := 25) (k' := 0) (n' := 0) dX9_deckCard_22 mb_X9_in ms_X9_in lk_X9_78 rfl rfl rfl (Nat.le_of_ble_eq_true rfl) rfl (c_X9_in rfl (cpI ?_))
    refine r_if_eq (tgt := 32) (pc' := 28) dX9_deckCard_25 rfl rfl (fun h9 => ?_) (fun h9 => ?_)
    · have h := ifn (zb_n0 h9) h
      refine r_iconst (pc' := 33) (v := 0) dX9_deckCard_32 (by decide) rfl ?_
      obtain ⟨z11, I10, ez11, h⟩ := bd2_e h
      refine r_callV2 (pc' := 36) (k' := 0) (n' := 0) dX9_deckCard_33 mb_X9_mayTwo mi_X9_mayTwo hm.o (by decide) rfl lk_X9_393 rfl rfl rfl (Nat.le_of_ble_eq_true rfl) rfl (c_X9_mayTwo (b2 := false) hm ez11 (cpI ?_))
      refine r_if_eq (tgt := 52) (pc' := 39) dX9_deckCard_36 rfl rfl (fun h12 => ?_) (fun h12 => ?_)
      · have h := ifn (zb_n0 h12) h
        refine r_iconst (pc' := 53) (v := 0) dX9_deckCard_52 (by decide) rfl ?_
        cases h
        exact r_iret dX9_deckCard_53 rfl (by decide) (by decide) hQ
      · have h := ifp (zb_p0 h12) h
        refine r_aload_n (pc' := 40) dX9_deckCard_39 rfl 0 rfl rfl ?_
        refine r_getO (pc' := 43) dX9_deckCard_40 fa_X9_9 hm.o rfl hm.r1 rfl ?_
        refine r_sipush (pc' := 46) (v := 164) dX9_deckCard_43 (by decide) rfl ?_
        refine r_iload_n (pc' := 47) dX9_deckCard_46 rfl 1 rfl rfl ?_
        refine r_iadd (pc' := 48) dX9_deckCard_47 rfl ?_
        obtain ⟨g13, h⟩ := gd_e h
        refine r_iaload (pc' := 49) dX9_deckCard_48 hm.c1 g13 rfl ?_
        refine r_goto (tgt := 53) dX9_deckCard_49 rfl ?_
        cases h
        exact r_iret dX9_deckCard_53 rfl (by decide) (by decide) hQ
    · have h := ifp (zb_p0 h9) h
      refine r_iconst (pc' := 29) (v := 1) dX9_deckCard_28 (by decide) rfl ?_
      refine r_goto (tgt := 33) dX9_deckCard_29 rfl ?_
      obtain ⟨z15, I14, ez15, h⟩ := bd2_e h
      refine r_callV2 (pc' := 36) (k' := 0) (n' := 0) dX9_deckCard_33 mb_X9_mayTwo mi_X9_mayTwo hm.o (by decide) rfl lk_X9_393 rfl rfl rfl (Nat.le_of_ble_eq_true rfl) rfl (c_X9_mayTwo (b2 := true) hm ez15 (cpI ?_))
      refine r_if_eq (tgt := 52) (pc' := 39) dX9_deckCard_36 rfl rfl (fun h16 => ?_) (fun h16 => ?_)
      · have h := ifn (zb_n0 h16) h
        refine r_iconst (pc' := 53) (v := 0) dX9_deckCard_52 (by decide) rfl ?_
        cases h
        exact r_iret dX9_deckCard_53 rfl (by decide) (by decide) hQ
      · have h := ifp (zb_p0 h16) h
        refine r_aload_n (pc' := 40) dX9_deckCard_39 rfl 0 rfl rfl ?_
        refine r_getO (pc' := 43) dX9_deckCard_40 fa_X9_9 hm.o rfl hm.r1 rfl ?_
        refine r_sipush (pc' := 46) (v := 164) dX9_deckCard_43 (by decide) rfl ?_
        refine r_iload_n (pc' := 47) dX9_deckCard_46 rfl 1 rfl rfl ?_
        refine r_iadd (pc' := 48) dX9_deckCard_47 rfl ?_
        obtain ⟨g17, h⟩ := gd_e h
        refine r_iaload (pc' := 49) dX9_deckCard_48 hm.c1 g17 rfl ?_
        refine r_goto (tgt := 53) dX9_deckCard_49 rfl ?_
        cases h
        exact r_iret dX9_deckCard_53 rfl (by decide) (by decide) hQ
set_option maxHeartbeats 4000000 in
theorem fr_X9_deckCard {I : JI} {m : Nat} {x1 : Int32} {r : Int32} {J : JI} {z : Nat} (h : s_X9_deckCard I m x1 = some (r, J)) (hz_m : z ≠ m) : J z = I z := by
  unfold s_X9_deckCard at h
  obtain ⟨g1, h⟩ := gd_e h
  obtain ⟨g2, h⟩ := gd_e h
  rcases if_e h with h | h
  · obtain ⟨g3, h⟩ := gd_e h
    rcases if_e h with h | h
    · obtain ⟨z15, I14, e4, h⟩ := bd2_e h
      rcases if_e h with h | h
      · obtain ⟨g5, h⟩ := gd_e h
        cases h
        exact ((fr_X9_mayTwo e4 (by omega)).trans rfl)
      · cases h
        exact ((fr_X9_mayTwo e4 (by omega)).trans rfl)
    · obtain ⟨z11, I10, e6, h⟩ := bd2_e h
      rcases if_e h with h | h
      · obtain ⟨g7, h⟩ := gd_e h
        cases h
        exact ((fr_X9_mayTwo e6 (by omega)).trans rfl)
      · cases h
        exact ((fr_X9_mayTwo e6 (by omega)).trans rfl)
  · obtain ⟨z5, I4, e8, h⟩ := bd2_e h
    rcases if_e h with h | h
    · obtain ⟨g9, h⟩ := gd_e h
      cases h
      exact ((fr_X9_mayTwo e8 (by omega)).trans rfl)
    · cases h
      exact ((fr_X9_mayTwo e8 (by omega)).trans rfl)
set_option maxHeartbeats 4000000 in
theorem ff_X9_deckCard {I : JI} {m : Nat} {x1 : Int32} {r : Int32} {J : JI} {k : Nat} (h : s_X9_deckCard I m x1 = some (r, J)) (hk0 : k ≠ 0) : J m k = I m k := by
  unfold s_X9_deckCard at h
  obtain ⟨g1, h⟩ := gd_e h
  obtain ⟨g2, h⟩ := gd_e h
  rcases if_e h with h | h
  · obtain ⟨g3, h⟩ := gd_e h
    rcases if_e h with h | h
    · obtain ⟨z15, I14, e4, h⟩ := bd2_e h
      rcases if_e h with h | h
      · obtain ⟨g5, h⟩ := gd_e h
        cases h
        exact ((ff_X9_mayTwo e4 hk0).trans rfl)
      · cases h
        exact ((ff_X9_mayTwo e4 hk0).trans rfl)
    · obtain ⟨z11, I10, e6, h⟩ := bd2_e h
      rcases if_e h with h | h
      · obtain ⟨g7, h⟩ := gd_e h
        cases h
        exact ((ff_X9_mayTwo e6 hk0).trans rfl)
      · cases h
        exact ((ff_X9_mayTwo e6 hk0).trans rfl)
  · obtain ⟨z5, I4, e8, h⟩ := bd2_e h
    rcases if_e h with h | h
    · obtain ⟨g9, h⟩ := gd_e h
      cases h
      exact ((ff_X9_mayTwo e8 hk0).trans rfl)
    · cases h
      exact ((ff_X9_mayTwo e8 hk0).trans rfl)
noncomputable def s_X9_usesOf_L5 (I : JI) (m : Nat) (q1 : Int32) (q2 : Int32) : Nat → Int32 → Int32 → Option (Int32 × Int32)
  | 0, _, _ => none
  | f + 1, w3, w4 => gd (vp_in 4 2030) <| if (I (m + 1) (Int32.toNatClampNeg 4)) ≤ w4 then (some (w3, w4)) else (gd (vp_in (164 + w4) 2030) <| if (I (m + 1) (Int32.toNatClampNeg (164 + w4))) = q1 then (lx (w3 + (s_X9_one true)) fun v5 => s_X9_usesOf_L5 I m q1 q2 f v5 (w4 + 1)) else (gd (vp_in (164 + w4) 2030) <| if (I (m + 1) (Int32.toNatClampNeg (164 + w4))) = q2 then (lx (w3 + (s_X9_one true)) fun v9 => s_X9_usesOf_L5 I m q1 q2 f v9 (w4 + 1)) else (lx (w3 + (s_X9_one false)) fun v8 => s_X9_usesOf_L5 I m q1 q2 f v8 (w4 + 1))))
noncomputable def s_X9_usesOf (I : JI) (m : Nat) (x1 : Int32) (x2 : Int32) : Option (Int32) :=
  bd (s_X9_usesOf_L5 I m x1 x2 lf 0 0) fun (y10, y11) => some y10
set_option maxHeartbeats 4000000 in
theorem l_X9_usesOf_L5 {Ω : JO} {S : JS} {Q : JQ} {I : JI} {m : Nat} {q1 : Int32} {q2 : Int32} (hm : Is9 S m) : ∀ (f : Nat) (w3 : Int32) (w4 : Int32) (o : (Int32 × Int32)), s_X9_usesOf_L5 I m q1 q2 f w3 w4 = some o → True → (∀ (y3 : Int32) (y4 : Int32) , o = (y3, y4) → AA Ω m_X9_usesOf (FQ Ω m_X9_usesOf Q) 0 0 63 [(3, .int y3), (4, .int y4), (0, .ref m), (1, .int q1), (2, .int q2)] [] I S) → AA Ω m_X9_usesOf (FQ Ω m_X9_usesOf Q) 0 0 5 [(3, .int w3), (4, .int w4), (0, .ref m), (1, .int q1), (2, .int q2)] [] I S := by
  intro f
  induction f with
  | zero =>
    intro w3 w4 o h hR hE
    rw [s_X9_usesOf_L5] at h
    cases h
  | succ f ih =>
    intro w3 w4 o h hR hE
    rw [s_X9_usesOf_L5] at h
    refine r_iload (pc' := 7) dX9_usesOf_5 1 rfl rfl ?_
    refine r_aload_n (pc' := 8) dX9_usesOf_7 rfl 2 rfl rfl ?_
    refine r_getO (pc' := 11) dX9_usesOf_8 fa_X9_9 hm.o rfl hm.r1 rfl ?_
    refine r_iconst (pc' := 12) (v := 4) dX9_usesOf_11 (by decide) rfl ?_
    obtain ⟨g1, h⟩ := gd_e h
    refine r_iaload (pc' := 13) dX9_usesOf_12 hm.c1 g1 rfl ?_
    refine r_icmp_ge (tgt := 63) (pc' := 16) dX9_usesOf_13 rfl rfl (fun h2 => ?_) (fun h2 => ?_)
    · have h := ifp h2 h
      cases h
      exact hE _ _ rfl
    · have h := ifn h2 h
      refine r_iload_n (pc' := 17) dX9_usesOf_16 rfl 0 rfl rfl ?_
      refine r_aload_n (pc' := 18) dX9_usesOf_17 rfl 2 rfl rfl ?_
      refine r_getO (pc' := 21) dX9_usesOf_18 fa_X9_9 hm.o rfl hm.r1 rfl ?_
      refine r_sipush (pc' := 24) (v := 164) dX9_usesOf_21 (by decide) rfl ?_
      refine r_iload (pc' := 26) dX9_usesOf_24 1 rfl rfl ?_
      refine r_iadd (pc' := 27) dX9_usesOf_26 rfl ?_
      obtain ⟨g3, h⟩ := gd_e h
      refine r_iaload (pc' := 28) dX9_usesOf_27 hm.c1 g3 rfl ?_
      refine r_iload_n (pc' := 29) dX9_usesOf_28 rfl 3 rfl rfl ?_
      refine r_icmp_eq (tgt := 47) (pc' := 32) dX9_usesOf_29 rfl rfl (fun h4 => ?_) (fun h4 => ?_)
      · have h := ifp h4 h
        refine r_iconst (pc' := 48) (v := 1) dX9_usesOf_47 (by decide) rfl ?_
        refine r_goto (tgt := 52) dX9_usesOf_48 rfl ?_
        refine r_callS1 (pc' := 55) (k' := 0) (n' := 0) dX9_usesOf_52 mb_X9_one ms_X9_one lk_X9_324 rfl rfl rfl (Nat.le_of_ble_eq_true rfl) rfl (c_X9_one (b0 := true) rfl (cpI ?_))
        refine r_iadd (pc' := 56) dX9_usesOf_55 rfl ?_
        refine r_istore_n (pc' := 57) (lv' := [(3, _), (4, _), (0, _), (1, _), (2, _)]) dX9_usesOf_56 rfl (by decide) rfl rfl ?_
        have h := lx_e h
        refine r_iinc (pc' := 60) (v := _ + 1) (lv' := [(4, _), (3, _), (0, _), (1, _), (2, _)]) dX9_usesOf_57 1 rfl rfl (by decide) rfl rfl ?_
        refine r_goto (tgt := 5) dX9_usesOf_60 rfl ?_
        refine aa_locs (ks := [1, 0, 2, 3, 4]) (lv' := [(3, _), (4, _), (0, _), (1, _), (2, _)]) rfl ?_
        exact ih _ _ _ h hR hE
      · have h := ifn h4 h
        refine r_aload_n (pc' := 33) dX9_usesOf_32 rfl 2 rfl rfl ?_
        refine r_getO (pc' := 36) dX9_usesOf_33 fa_X9_9 hm.o rfl hm.r1 rfl ?_
        refine r_sipush (pc' := 39) (v := 164) dX9_usesOf_36 (by decide) rfl ?_
        refine r_iload (pc' := 41) dX9_usesOf_39 1 rfl rfl ?_
        refine r_iadd (pc' := 42) dX9_usesOf_41 rfl ?_
        obtain ⟨g6, h⟩ := gd_e h
        refine r_iaload (pc' := 43) dX9_usesOf_42 hm.c1 g6 rfl ?_
        refine r_iload_n (pc' := 44) dX9_usesOf_43 rfl 4 rfl rfl ?_
        refine r_icmp_ne (tgt := 51) (pc' := 47) dX9_usesOf_44 rfl rfl (fun h7 => ?_) (fun h7 => ?_)
        · have h := ifn h7 h
          refine r_iconst (pc' := 52) (v := 0) dX9_usesOf_51 (by decide) rfl ?_
          refine r_callS1 (pc' := 55) (k' := 0) (n' := 0) dX9_usesOf_52 mb_X9_one ms_X9_one lk_X9_324 rfl rfl rfl (Nat.le_of_ble_eq_true rfl) rfl (c_X9_one (b0 := false) rfl (cpI ?_))
          refine r_iadd (pc' := 56) dX9_usesOf_55 rfl ?_
          refine r_istore_n (pc' := 57) (lv' := [(3, _), (4, _), (0, _), (1, _), (2, _)]) dX9_usesOf_56 rfl (by decide) rfl rfl ?_
          have h := lx_e h
          refine r_iinc (pc' := 60) (v := _ + 1) (lv' := [(4, _), (3, _), (0, _), (1, _), (2, _)]) dX9_usesOf_57 1 rfl rfl (by decide) rfl rfl ?_
          refine r_goto (tgt := 5) dX9_usesOf_60 rfl ?_
          refine aa_locs (ks := [1, 0, 2, 3, 4]) (lv' := [(3, _), (4, _), (0, _), (1, _), (2, _)]) rfl ?_
          exact ih _ _ _ h hR hE
        · have h := ifp h7 h
          refine r_iconst (pc' := 48) (v := 1) dX9_usesOf_47 (by decide) rfl ?_
          refine r_goto (tgt := 52) dX9_usesOf_48 rfl ?_
          refine r_callS1 (pc' := 55) (k' := 0) (n' := 0) dX9_usesOf_52 mb_X9_one ms_X9_one lk_X9_324 rfl rfl rfl (Nat.le_of_ble_eq_true rfl) rfl (c_X9_one (b0 := true) rfl (cpI ?_))
          refine r_iadd (pc' := 56) dX9_usesOf_55 rfl ?_
          refine r_istore_n (pc' := 57) (lv' := [(3, _), (4, _), (0, _), (1, _), (2, _)]) dX9_usesOf_56 rfl (by decide) rfl rfl ?_
          have h := lx_e h
          refine r_iinc (pc' := 60) (v := _ + 1) (lv' := [(4, _), (3, _), (0, _), (1, _), (2, _)]) dX9_usesOf_57 1 rfl rfl (by decide) rfl rfl ?_
          refine r_goto (tgt := 5) dX9_usesOf_60 rfl ?_
          refine aa_locs (ks := [1, 0, 2, 3, 4]) (lv' := [(3, _), (4, _), (0, _), (1, _), (2, _)]) rfl ?_
          exact ih _ _ _ h hR hE
set_option maxHeartbeats 4000000 in
theorem c_X9_usesOf {Ω : JO} {I : JI} {S : JS} {Q : JQ} {m : Nat} {x1 : Int32} {x2 : Int32} {r : Int32} (hm : Is9 S m) (h : s_X9_usesOf I m x1 x2 = some r) (hQ : Q (.inl (some (.int r))) I S) : Call Ω m_X9_usesOf [.ref m, .int x1, .int x2] I S Q := by
  refine call_of (by decide +kernel) rfl (Nat.le_of_ble_eq_true rfl) ?_
  change AA Ω m_X9_usesOf (FQ Ω m_X9_usesOf Q) 0 0 0 [(0, .ref m), (1, .int x1), (2, .int x2)] [] I S
  unfold s_X9_usesOf at h
  refine r_iconst (pc' := 1) (v := 0) dX9_usesOf_0 (by decide) rfl ?_
  refine r_istore_n (pc' := 2) (lv' := [(3, _), (0, _), (1, _), (2, _)]) dX9_usesOf_1 rfl (by decide) rfl rfl ?_
  refine r_iconst (pc' := 3) (v := 0) dX9_usesOf_2 (by decide) rfl ?_
  refine r_istore (pc' := 5) (lv' := [(4, _), (3, _), (0, _), (1, _), (2, _)]) dX9_usesOf_3 (by decide) rfl rfl ?_
  refine aa_locs (ks := [1, 0, 2, 3, 4]) (lv' := [(3, _), (4, _), (0, _), (1, _), (2, _)]) rfl ?_
  obtain ⟨o12, eo12, h⟩ := bd_e h
  refine l_X9_usesOf_L5 (Ω := Ω) hm _ _ _ _ eo12 trivial (fun y10 y11 q => ?_)
  subst q
  refine r_iload_n (pc' := 64) dX9_usesOf_63 rfl 0 rfl rfl ?_
  cases h
  exact r_iret dX9_usesOf_64 rfl (by decide) (by decide) hQ
noncomputable def s_X9_cardUses (I : JI) (m : Nat) (x1 : Int32) : Option (Int32 × JI) :=
  bd2 (s_X9_mayCard I m x1) fun z2 I1 => if z2 = true then (bd (s_X9_usesOf I1 m x1 x1) fun v4 => some (v4, I1)) else (some (0, I1))
set_option maxHeartbeats 4000000 in
theorem c_X9_cardUses {Ω : JO} {I : JI} {S : JS} {Q : JQ} {m : Nat} {x1 : Int32} {r : Int32} {J : JI} (hm : Is9 S m) (h : s_X9_cardUses I m x1 = some (r, J)) (hQ : Q (.inl (some (.int r))) J S) : Call Ω m_X9_cardUses [.ref m, .int x1] I S Q := by
  refine call_of (by decide +kernel) rfl (Nat.le_of_ble_eq_true rfl) ?_
  change AA Ω m_X9_cardUses (FQ Ω m_X9_cardUses Q) 0 0 0 [(0, .ref m), (1, .int x1)] [] I S
  unfold s_X9_cardUses at h
  refine r_aload_n (pc' := 1) dX9_cardUses_0 rfl 0 rfl rfl ?_
  refine r_iload_n (pc' := 2) dX9_cardUses_1 rfl 1 rfl rfl ?_
  obtain ⟨z2, I1, ez2, h⟩ := bd2_e h
  refine r_callV1 (pc' := 5) (k' := 0) (n' := 0) dX9_cardUses_2 mb_X9_mayCard mi_X9_mayCard hm.o (by decide) rfl lk_X9_424 rfl rfl rfl (Nat.le_of_ble_eq_true rfl) rfl (c_X9_mayCard hm ez2 (cpI ?_))
  refine r_if_eq (tgt := 17) (pc' := 8) dX9_cardUses_5 rfl rfl (fun h3 => ?_) (fun h3 => ?_)
  · have h := ifn (zb_n0 h3) h
    refine r_iconst (pc' := 18) (v := 0) dX9_cardUses_17 (by decide) rfl ?_
    cases h
    exact r_iret dX9_cardUses_18 rfl (by decide) (by decide) hQ
  · have h := ifp (zb_p0 h3) h
    refine r_aload_n (pc' := 9) dX9_cardUses_8 rfl 0 rfl rfl ?_
    refine r_iload_n (pc' := 10) dX9_cardUses_9 rfl 1 rfl rfl ?_
    refine r_iload_n (pc' := 11) dX9_cardUses_10 rfl 1 rfl rfl ?_
    obtain ⟨v4, ev4, h⟩ := bd_e h
    refine r_callV2 (pc' := 14) (k' := 0) (n' := 0) dX9_cardUses_11 mb_X9_usesOf mi_X9_usesOf hm.o (by decide) rfl lk_X9_433 rfl rfl rfl (Nat.le_of_ble_eq_true rfl) rfl (c_X9_usesOf hm ev4 (cpI ?_))
    refine r_goto (tgt := 18) dX9_cardUses_14 rfl ?_
    cases h
    exact r_iret dX9_cardUses_18 rfl (by decide) (by decide) hQ
set_option maxHeartbeats 4000000 in
theorem fr_X9_cardUses {I : JI} {m : Nat} {x1 : Int32} {r : Int32} {J : JI} {z : Nat} (h : s_X9_cardUses I m x1 = some (r, J)) (hz_m : z ≠ m) : J z = I z := by
  unfold s_X9_cardUses at h
  obtain ⟨z2, I1, e1, h⟩ := bd2_e h
  rcases if_e h with h | h
  · obtain ⟨o2, e2, h⟩ := bd_e h
    cases h
    exact ((fr_X9_mayCard e1 (by omega)).trans rfl)
  · cases h
    exact ((fr_X9_mayCard e1 (by omega)).trans rfl)
set_option maxHeartbeats 4000000 in
theorem ff_X9_cardUses {I : JI} {m : Nat} {x1 : Int32} {r : Int32} {J : JI} {k : Nat} (h : s_X9_cardUses I m x1 = some (r, J)) (hk0 : k ≠ 0) : J m k = I m k := by
  unfold s_X9_cardUses at h
  obtain ⟨z2, I1, e1, h⟩ := bd2_e h
  rcases if_e h with h | h
  · obtain ⟨o2, e2, h⟩ := bd_e h
    cases h
    exact ((ff_X9_mayCard e1 hk0).trans rfl)
  · cases h
    exact ((ff_X9_mayCard e1 hk0).trans rfl)
noncomputable def s_X9_deckDepth (I : JI) (m : Nat) : Option (Int32 × JI) :=
  bd2 (s_X9_look I m 7) fun v2 I1 => some (v2, I1)
set_option maxHeartbeats 4000000 in
theorem c_X9_deckDepth {Ω : JO} {I : JI} {S : JS} {Q : JQ} {m : Nat} {r : Int32} {J : JI} (hm : Is9 S m) (h : s_X9_deckDepth I m = some (r, J)) (hQ : Q (.inl (some (.int r))) J S) : Call Ω m_X9_deckDepth [.ref m] I S Q := by
  refine call_of (by decide +kernel) rfl (Nat.le_of_ble_eq_true rfl) ?_
  change AA Ω m_X9_deckDepth (FQ Ω m_X9_deckDepth Q) 0 0 0 [(0, .ref m)] [] I S
  unfold s_X9_deckDepth at h
  refine r_aload_n (pc' := 1) dX9_deckDepth_0 rfl 0 rfl rfl ?_
  refine r_bipush (pc' := 3) (v := 7) dX9_deckDepth_1 (by decide) rfl ?_
  obtain ⟨v2, I1, ev2, h⟩ := bd2_e h
  refine r_callV1 (pc' := 6) (k' := 0) (n' := 0) dX9_deckDepth_3 mb_X9_look mi_X9_look hm.o (by decide) rfl lk_X9_412 rfl rfl rfl (Nat.le_of_ble_eq_true rfl) rfl (c_X9_look hm ev2 (cpI ?_))
  cases h
  exact r_iret dX9_deckDepth_6 rfl (by decide) (by decide) hQ
set_option maxHeartbeats 4000000 in
theorem fr_X9_deckDepth {I : JI} {m : Nat} {r : Int32} {J : JI} {z : Nat} (h : s_X9_deckDepth I m = some (r, J)) (hz_m : z ≠ m) : J z = I z := by
  unfold s_X9_deckDepth at h
  obtain ⟨v2, I1, e1, h⟩ := bd2_e h
  cases h
  exact ((fr_X9_look e1 (by omega)).trans rfl)
set_option maxHeartbeats 4000000 in
theorem ff_X9_deckDepth {I : JI} {m : Nat} {r : Int32} {J : JI} {k : Nat} (h : s_X9_deckDepth I m = some (r, J)) (hk0 : k ≠ 0) : J m k = I m k := by
  unfold s_X9_deckDepth at h
  obtain ⟨v2, I1, e1, h⟩ := bd2_e h
  cases h
  exact ((ff_X9_look e1 hk0).trans rfl)
noncomputable def s_X9_isPeriod_L2 (I : JI) (m : Nat) (q1 : Int32) : Nat → Int32 → Option ((Bool) ⊕ (Int32))
  | 0, _ => none
  | f + 1, w2 => gd (vp_in 4 2030) <| if (I (m + 1) (Int32.toNatClampNeg 4)) ≤ w2 then (some (.inr (w2))) else (gd (vp_in (164 + w2) 2030) <| gd (vp_in ((164 + w2) - q1) 2030) <| if (I (m + 1) (Int32.toNatClampNeg (164 + w2))) = (I (m + 1) (Int32.toNatClampNeg ((164 + w2) - q1))) then (s_X9_isPeriod_L2 I m q1 f (w2 + 1)) else (some (.inl false)))
noncomputable def s_X9_isPeriod (I : JI) (m : Nat) (x1 : Int32) : Option (Bool) :=
  bl (s_X9_isPeriod_L2 I m x1 lf x1) fun y6 => gd (vp_in 4 2030) <| gd (¬ x1 = 0) <| if ((I (m + 1) (Int32.toNatClampNeg 4)) - (I (m + 1) (Int32.toNatClampNeg 4)) / x1 * x1) = 0 then (some true) else (some false)
set_option maxHeartbeats 4000000 in
theorem l_X9_isPeriod_L2 {Ω : JO} {S : JS} {Q : JQ} {I : JI} {m : Nat} {q1 : Int32} (hm : Is9 S m) : ∀ (f : Nat) (w2 : Int32) (o : ((Bool) ⊕ (Int32))), s_X9_isPeriod_L2 I m q1 f w2 = some o → (∀ (r : Bool), o = .inl r → Q (.inl (some (.int (zb r)))) I S) → (∀ (y2 : Int32) , o = .inr (y2) → AA Ω m_X9_isPeriod (FQ Ω m_X9_isPeriod Q) 0 0 45 [(2, .int y2), (0, .ref m), (1, .int q1)] [] I S) → AA Ω m_X9_isPeriod (FQ Ω m_X9_isPeriod Q) 0 0 2 [(2, .int w2), (0, .ref m), (1, .int q1)] [] I S := by
  intro f
  induction f with
  | zero =>
    intro w2 o h hR hE
    rw [s_X9_isPeriod_L2] at h
    cases h
  | succ f ih =>
    intro w2 o h hR hE
    rw [s_X9_isPeriod_L2] at h
    refine r_iload_n (pc' := 3) dX9_isPeriod_2 rfl 0 rfl rfl ?_
    refine r_aload_n (pc' := 4) dX9_isPeriod_3 rfl 1 rfl rfl ?_
    refine r_getO (pc' := 7) dX9_isPeriod_4 fa_X9_9 hm.o rfl hm.r1 rfl ?_
    refine r_iconst (pc' := 8) (v := 4) dX9_isPeriod_7 (by decide) rfl ?_
    obtain ⟨g1, h⟩ := gd_e h
    refine r_iaload (pc' := 9) dX9_isPeriod_8 hm.c1 g1 rfl ?_
    refine r_icmp_ge (tgt := 45) (pc' := 12) dX9_isPeriod_9 rfl rfl (fun h2 => ?_) (fun h2 => ?_)
    · have h := ifp h2 h
      cases h
      exact hE _ rfl
    · have h := ifn h2 h
      refine r_aload_n (pc' := 13) dX9_isPeriod_12 rfl 1 rfl rfl ?_
      refine r_getO (pc' := 16) dX9_isPeriod_13 fa_X9_9 hm.o rfl hm.r1 rfl ?_
      refine r_sipush (pc' := 19) (v := 164) dX9_isPeriod_16 (by decide) rfl ?_
      refine r_iload_n (pc' := 20) dX9_isPeriod_19 rfl 0 rfl rfl ?_
      refine r_iadd (pc' := 21) dX9_isPeriod_20 rfl ?_
      obtain ⟨g3, h⟩ := gd_e h
      refine r_iaload (pc' := 22) dX9_isPeriod_21 hm.c1 g3 rfl ?_
      refine r_aload_n (pc' := 23) dX9_isPeriod_22 rfl 1 rfl rfl ?_
      refine r_getO (pc' := 26) dX9_isPeriod_23 fa_X9_9 hm.o rfl hm.r1 rfl ?_
      refine r_sipush (pc' := 29) (v := 164) dX9_isPeriod_26 (by decide) rfl ?_
      refine r_iload_n (pc' := 30) dX9_isPeriod_29 rfl 0 rfl rfl ?_
      refine r_iadd (pc' := 31) dX9_isPeriod_30 rfl ?_
      refine r_iload_n (pc' := 32) dX9_isPeriod_31 rfl 2 rfl rfl ?_
      refine r_isub (pc' := 33) dX9_isPeriod_32 rfl ?_
      obtain ⟨g4, h⟩ := gd_e h
      refine r_iaload (pc' := 34) dX9_isPeriod_33 hm.c1 g4 rfl ?_
      refine r_icmp_eq (tgt := 39) (pc' := 37) dX9_isPeriod_34 rfl rfl (fun h5 => ?_) (fun h5 => ?_)
      · have h := ifp h5 h
        refine r_iinc (pc' := 42) (v := _ + 1) (lv' := [(2, _), (0, _), (1, _)]) dX9_isPeriod_39 0 rfl rfl (by decide) rfl rfl ?_
        refine r_goto (tgt := 2) dX9_isPeriod_42 rfl ?_
        exact ih _ _ h hR hE
      · have h := ifn h5 h
        refine r_iconst (pc' := 38) (v := 0) dX9_isPeriod_37 (by decide) rfl ?_
        cases h
        exact r_zret dX9_isPeriod_38 rfl (by decide) (by decide) (by decide) (hR _ rfl)
set_option maxHeartbeats 4000000 in
theorem c_X9_isPeriod {Ω : JO} {I : JI} {S : JS} {Q : JQ} {m : Nat} {x1 : Int32} {r : Bool} (hm : Is9 S m) (h : s_X9_isPeriod I m x1 = some r) (hQ : Q (.inl (some (.int (zb r)))) I S) : Call Ω m_X9_isPeriod [.ref m, .int x1] I S Q := by
  refine call_of (by decide +kernel) rfl (Nat.le_of_ble_eq_true rfl) ?_
  change AA Ω m_X9_isPeriod (FQ Ω m_X9_isPeriod Q) 0 0 0 [(0, .ref m), (1, .int x1)] [] I S
  unfold s_X9_isPeriod at h
  refine r_iload_n (pc' := 1) dX9_isPeriod_0 rfl 1 rfl rfl ?_
  refine r_istore_n (pc' := 2) (lv' := [(2, _), (0, _), (1, _)]) dX9_isPeriod_1 rfl (by decide) rfl rfl ?_
  obtain ⟨o7, eo7, h1, h⟩ := bl_e h
  refine l_X9_isPeriod_L2 (Ω := Ω) hm _ _ _ eo7 (fun r q => ?_) (fun y6 q => ?_)
  · have h1 := h1 _ q
    cases h1
    exact hQ
  have h := h _ q
  refine r_aload_n (pc' := 46) dX9_isPeriod_45 rfl 1 rfl rfl ?_
  refine r_getO (pc' := 49) dX9_isPeriod_46 fa_X9_9 hm.o rfl hm.r1 rfl ?_
  refine r_iconst (pc' := 50) (v := 4) dX9_isPeriod_49 (by decide) rfl ?_
  obtain ⟨g8, h⟩ := gd_e h
  refine r_iaload (pc' := 51) dX9_isPeriod_50 hm.c1 g8 rfl ?_
  refine r_iload_n (pc' := 52) dX9_isPeriod_51 rfl 2 rfl rfl ?_
  obtain ⟨g9, h⟩ := gd_e h
  refine r_irem (pc' := 53) dX9_isPeriod_52 g9 rfl ?_
  refine r_if_ne (tgt := 60) (pc' := 56) dX9_isPeriod_53 rfl rfl (fun h10 => ?_) (fun h10 => ?_)
  · have h := ifn h10 h
    refine r_iconst (pc' := 61) (v := 0) dX9_isPeriod_60 (by decide) rfl ?_
    cases h
    exact r_zret dX9_isPeriod_61 rfl (by decide) (by decide) (by decide) hQ
  · have h := ifp h10 h
    refine r_iconst (pc' := 57) (v := 1) dX9_isPeriod_56 (by decide) rfl ?_
    refine r_goto (tgt := 61) dX9_isPeriod_57 rfl ?_
    cases h
    exact r_zret dX9_isPeriod_61 rfl (by decide) (by decide) (by decide) hQ
noncomputable def s_X9_deckPeriod_L11 (I : JI) (m : Nat) : Nat → Int32 → Option ((Int32 × JI) ⊕ (Int32))
  | 0, _ => none
  | f + 1, w1 => gd (vp_in 4 2030) <| if (I (m + 1) (Int32.toNatClampNeg 4)) < w1 then (some (.inr (w1))) else (bd (s_X9_isPeriod I m w1) fun z6 => if z6 = true then (some (.inl (w1, I))) else (s_X9_deckPeriod_L11 I m f (w1 + 1)))
noncomputable def s_X9_deckPeriod (I : JI) (m : Nat) : Option (Int32 × JI) :=
  bd2 (s_X9_mayLook I m) fun z2 I1 => if z2 = true then (bl (s_X9_deckPeriod_L11 I1 m lf 1) fun y8 => some (0, I1)) else (some (0, I1))
set_option maxHeartbeats 4000000 in
theorem l_X9_deckPeriod_L11 {Ω : JO} {S : JS} {Q : JQ} {I : JI} {m : Nat} (hm : Is9 S m) : ∀ (f : Nat) (w1 : Int32) (o : ((Int32 × JI) ⊕ (Int32))), s_X9_deckPeriod_L11 I m f w1 = some o → (∀ (r : Int32) (J : JI), o = .inl (r, J) → Q (.inl (some (.int r))) J S) → (∀ (y1 : Int32) , o = .inr (y1) → AA Ω m_X9_deckPeriod (FQ Ω m_X9_deckPeriod Q) 0 0 37 [(1, .int y1), (0, .ref m)] [] I S) → AA Ω m_X9_deckPeriod (FQ Ω m_X9_deckPeriod Q) 0 0 11 [(1, .int w1), (0, .ref m)] [] I S := by
  intro f
  induction f with
  | zero =>
    intro w1 o h hR hE
    rw [s_X9_deckPeriod_L11] at h
    cases h
  | succ f ih =>
    intro w1 o h hR hE
    rw [s_X9_deckPeriod_L11] at h
    refine r_iload_n (pc' := 12) dX9_deckPeriod_11 rfl 0 rfl rfl ?_
    refine r_aload_n (pc' := 13) dX9_deckPeriod_12 rfl 1 rfl rfl ?_
    refine r_getO (pc' := 16) dX9_deckPeriod_13 fa_X9_9 hm.o rfl hm.r1 rfl ?_
    refine r_iconst (pc' := 17) (v := 4) dX9_deckPeriod_16 (by decide) rfl ?_
    obtain ⟨g4, h⟩ := gd_e h
    refine r_iaload (pc' := 18) dX9_deckPeriod_17 hm.c1 g4 rfl ?_
    refine r_icmp_gt (tgt := 37) (pc' := 21) dX9_deckPeriod_18 rfl rfl (fun h5 => ?_) (fun h5 => ?_)
    · have h := ifp h5 h
      cases h
      exact hE _ rfl
    · have h := ifn h5 h
      refine r_aload_n (pc' := 22) dX9_deckPeriod_21 rfl 1 rfl rfl ?_
      refine r_iload_n (pc' := 23) dX9_deckPeriod_22 rfl 0 rfl rfl ?_
      obtain ⟨z6, ez6, h⟩ := bd_e h
      refine r_callV1 (pc' := 26) (k' := 0) (n' := 0) dX9_deckPeriod_23 mb_X9_isPeriod mi_X9_isPeriod hm.o (by decide) rfl lk_X9_436 rfl rfl rfl (Nat.le_of_ble_eq_true rfl) rfl (c_X9_isPeriod hm ez6 (cpI ?_))
      refine r_if_eq (tgt := 31) (pc' := 29) dX9_deckPeriod_26 rfl rfl (fun h7 => ?_) (fun h7 => ?_)
      · have h := ifn (zb_n0 h7) h
        refine r_iinc (pc' := 34) (v := _ + 1) (lv' := [(1, _), (0, _)]) dX9_deckPeriod_31 0 rfl rfl (by decide) rfl rfl ?_
        refine r_goto (tgt := 11) dX9_deckPeriod_34 rfl ?_
        exact ih _ _ h hR hE
      · have h := ifp (zb_p0 h7) h
        refine r_iload_n (pc' := 30) dX9_deckPeriod_29 rfl 0 rfl rfl ?_
        cases h
        exact r_iret dX9_deckPeriod_30 rfl (by decide) (by decide) (hR _ _ rfl)
set_option maxHeartbeats 4000000 in
theorem c_X9_deckPeriod {Ω : JO} {I : JI} {S : JS} {Q : JQ} {m : Nat} {r : Int32} {J : JI} (hm : Is9 S m) (h : s_X9_deckPeriod I m = some (r, J)) (hQ : Q (.inl (some (.int r))) J S) : Call Ω m_X9_deckPeriod [.ref m] I S Q := by
  refine call_of (by decide +kernel) rfl (Nat.le_of_ble_eq_true rfl) ?_
  change AA Ω m_X9_deckPeriod (FQ Ω m_X9_deckPeriod Q) 0 0 0 [(0, .ref m)] [] I S
  unfold s_X9_deckPeriod at h
  refine r_aload_n (pc' := 1) dX9_deckPeriod_0 rfl 0 rfl rfl ?_
  obtain ⟨z2, I1, ez2, h⟩ := bd2_e h
  refine r_callV0 (pc' := 4) (k' := 0) (n' := 0) dX9_deckPeriod_1 mb_X9_mayLook mi_X9_mayLook hm.o (by decide) rfl lk_X9_409 rfl rfl rfl (Nat.le_of_ble_eq_true rfl) rfl (c_X9_mayLook hm ez2 (cpI ?_))
  refine r_if_ne (tgt := 9) (pc' := 7) dX9_deckPeriod_4 rfl rfl (fun h3 => ?_) (fun h3 => ?_)
  · have h := ifp (zb_p0 h3) h
    refine r_iconst (pc' := 10) (v := 1) dX9_deckPeriod_9 (by decide) rfl ?_
    refine r_istore_n (pc' := 11) (lv' := [(1, _), (0, _)]) dX9_deckPeriod_10 rfl (by decide) rfl rfl ?_
    obtain ⟨o9, eo9, h1, h⟩ := bl_e h
    refine l_X9_deckPeriod_L11 (Ω := Ω) hm _ _ _ eo9 (fun r J q => ?_) (fun y8 q => ?_)
    · have h1 := h1 _ q
      cases h1
      exact hQ
    have h := h _ q
    refine r_iconst (pc' := 38) (v := 0) dX9_deckPeriod_37 (by decide) rfl ?_
    cases h
    exact r_iret dX9_deckPeriod_38 rfl (by decide) (by decide) hQ
  · have h := ifn (zb_n0 h3) h
    refine r_iconst (pc' := 8) (v := 0) dX9_deckPeriod_7 (by decide) rfl ?_
    cases h
    exact r_iret dX9_deckPeriod_8 rfl (by decide) (by decide) hQ
theorem frl_X9_deckPeriod_L11 {I : JI} {m : Nat} {z : Nat} (hz_m : z ≠ m) : ∀ (f : Nat) (w1 : Int32) (o : ((Int32 × JI) ⊕ (Int32))), s_X9_deckPeriod_L11 I m f w1 = some o → (∀ (r : Int32) (J : JI), o = .inl (r, J) → J z = I z) := by
  intro f
  induction f with
  | zero =>
    intro w1 o h
    rw [s_X9_deckPeriod_L11] at h
    cases h
  | succ f ih =>
    intro w1 o h
    rw [s_X9_deckPeriod_L11] at h
    obtain ⟨g1, h⟩ := gd_e h
    rcases if_e h with h | h
    · cases h
      intro _ _ q
      cases q
    · obtain ⟨o2, e2, h⟩ := bd_e h
      rcases if_e h with h | h
      · cases h
        intro _ _ q
        cases q
        exact rfl
      · exact (ih _ _ h)
set_option maxHeartbeats 4000000 in
theorem fr_X9_deckPeriod {I : JI} {m : Nat} {r : Int32} {J : JI} {z : Nat} (h : s_X9_deckPeriod I m = some (r, J)) (hz_m : z ≠ m) : J z = I z := by
  unfold s_X9_deckPeriod at h
  obtain ⟨z2, I1, e1, h⟩ := bd2_e h
  rcases if_e h with h | h
  · obtain ⟨o2, e2, h1, h⟩ := bl_e h
    rcases o2 with y2 | y2
    · have h1 := h1 _ rfl
      cases h1
      exact (((frl_X9_deckPeriod_L11 hz_m _ _ _ e2) _ _ rfl).trans ((fr_X9_mayLook e1 (by omega)).trans rfl))
    have h := h _ rfl
    cases h
    exact ((fr_X9_mayLook e1 (by omega)).trans rfl)
  · cases h
    exact ((fr_X9_mayLook e1 (by omega)).trans rfl)
theorem ffl_X9_deckPeriod_L11 {I : JI} {m : Nat} {k : Nat} (hk0 : k ≠ 0) : ∀ (f : Nat) (w1 : Int32) (o : ((Int32 × JI) ⊕ (Int32))), s_X9_deckPeriod_L11 I m f w1 = some o → (∀ (r : Int32) (J : JI), o = .inl (r, J) → J m k = I m k) := by
  intro f
  induction f with
  | zero =>
    intro w1 o h
    rw [s_X9_deckPeriod_L11] at h
    cases h
  | succ f ih =>
    intro w1 o h
    rw [s_X9_deckPeriod_L11] at h
    obtain ⟨g1, h⟩ := gd_e h
    rcases if_e h with h | h
    · cases h
      intro _ _ q
      cases q
    · obtain ⟨o2, e2, h⟩ := bd_e h
      rcases if_e h with h | h
      · cases h
        intro _ _ q
        cases q
        exact rfl
      · exact (ih _ _ h)
set_option maxHeartbeats 4000000 in
theorem ff_X9_deckPeriod {I : JI} {m : Nat} {r : Int32} {J : JI} {k : Nat} (h : s_X9_deckPeriod I m = some (r, J)) (hk0 : k ≠ 0) : J m k = I m k := by
  unfold s_X9_deckPeriod at h
  obtain ⟨z2, I1, e1, h⟩ := bd2_e h
  rcases if_e h with h | h
  · obtain ⟨o2, e2, h1, h⟩ := bl_e h
    rcases o2 with y2 | y2
    · have h1 := h1 _ rfl
      cases h1
      exact (((ffl_X9_deckPeriod_L11 hk0 _ _ _ e2) _ _ rfl).trans ((ff_X9_mayLook e1 hk0).trans rfl))
    have h := h _ rfl
    cases h
    exact ((ff_X9_mayLook e1 hk0).trans rfl)
  · cases h
    exact ((ff_X9_mayLook e1 hk0).trans rfl)
noncomputable def s_X9_isPalindrome_L11 (I : JI) (m : Nat) : Nat → Int32 → Option ((Bool × JI) ⊕ (Int32))
  | 0, _ => none
  | f + 1, w1 => gd (vp_in 4 2030) <| if (I (m + 1) (Int32.toNatClampNeg 4)) ≤ w1 then (some (.inr (w1))) else (gd (vp_in (164 + w1) 2030) <| gd (vp_in 4 2030) <| gd (vp_in (((164 + (I (m + 1) (Int32.toNatClampNeg 4))) - 1) - w1) 2030) <| if (I (m + 1) (Int32.toNatClampNeg (164 + w1))) = (I (m + 1) (Int32.toNatClampNeg (((164 + (I (m + 1) (Int32.toNatClampNeg 4))) - 1) - w1))) then (s_X9_isPalindrome_L11 I m f (w1 + 1)) else (some (.inl (false, I))))
noncomputable def s_X9_isPalindrome (I : JI) (m : Nat) : Option (Bool × JI) :=
  bd2 (s_X9_mayLook I m) fun z2 I1 => if z2 = true then (bl (s_X9_isPalindrome_L11 I1 m lf 0) fun y10 => some (true, I1)) else (some (false, I1))
set_option maxHeartbeats 4000000 in
theorem l_X9_isPalindrome_L11 {Ω : JO} {S : JS} {Q : JQ} {I : JI} {m : Nat} (hm : Is9 S m) : ∀ (f : Nat) (w1 : Int32) (o : ((Bool × JI) ⊕ (Int32))), s_X9_isPalindrome_L11 I m f w1 = some o → (∀ (r : Bool) (J : JI), o = .inl (r, J) → Q (.inl (some (.int (zb r)))) J S) → (∀ (y1 : Int32) , o = .inr (y1) → AA Ω m_X9_isPalindrome (FQ Ω m_X9_isPalindrome Q) 0 0 61 [(1, .int y1), (0, .ref m)] [] I S) → AA Ω m_X9_isPalindrome (FQ Ω m_X9_isPalindrome Q) 0 0 11 [(1, .int w1), (0, .ref m)] [] I S := by
  intro f
  induction f with
  | zero =>
    intro w1 o h hR hE
    rw [s_X9_isPalindrome_L11] at h
    cases h
  | succ f ih =>
    intro w1 o h hR hE
    rw [s_X9_isPalindrome_L11] at h
    refine r_iload_n (pc' := 12) dX9_isPalindrome_11 rfl 0 rfl rfl ?_
    refine r_aload_n (pc' := 13) dX9_isPalindrome_12 rfl 1 rfl rfl ?_
    refine r_getO (pc' := 16) dX9_isPalindrome_13 fa_X9_9 hm.o rfl hm.r1 rfl ?_
    refine r_iconst (pc' := 17) (v := 4) dX9_isPalindrome_16 (by decide) rfl ?_
    obtain ⟨g4, h⟩ := gd_e h
    refine r_iaload (pc' := 18) dX9_isPalindrome_17 hm.c1 g4 rfl ?_
    refine r_icmp_ge (tgt := 61) (pc' := 21) dX9_isPalindrome_18 rfl rfl (fun h5 => ?_) (fun h5 => ?_)
    · have h := ifp h5 h
      cases h
      exact hE _ rfl
    · have h := ifn h5 h
      refine r_aload_n (pc' := 22) dX9_isPalindrome_21 rfl 1 rfl rfl ?_
      refine r_getO (pc' := 25) dX9_isPalindrome_22 fa_X9_9 hm.o rfl hm.r1 rfl ?_
      refine r_sipush (pc' := 28) (v := 164) dX9_isPalindrome_25 (by decide) rfl ?_
      refine r_iload_n (pc' := 29) dX9_isPalindrome_28 rfl 0 rfl rfl ?_
      refine r_iadd (pc' := 30) dX9_isPalindrome_29 rfl ?_
      obtain ⟨g6, h⟩ := gd_e h
      refine r_iaload (pc' := 31) dX9_isPalindrome_30 hm.c1 g6 rfl ?_
      refine r_aload_n (pc' := 32) dX9_isPalindrome_31 rfl 1 rfl rfl ?_
      refine r_getO (pc' := 35) dX9_isPalindrome_32 fa_X9_9 hm.o rfl hm.r1 rfl ?_
      refine r_sipush (pc' := 38) (v := 164) dX9_isPalindrome_35 (by decide) rfl ?_
      refine r_aload_n (pc' := 39) dX9_isPalindrome_38 rfl 1 rfl rfl ?_
      refine r_getO (pc' := 42) dX9_isPalindrome_39 fa_X9_9 hm.o rfl hm.r1 rfl ?_
      refine r_iconst (pc' := 43) (v := 4) dX9_isPalindrome_42 (by decide) rfl ?_
      obtain ⟨g7, h⟩ := gd_e h
      refine r_iaload (pc' := 44) dX9_isPalindrome_43 hm.c1 g7 rfl ?_
      refine r_iadd (pc' := 45) dX9_isPalindrome_44 rfl ?_
      refine r_iconst (pc' := 46) (v := 1) dX9_isPalindrome_45 (by decide) rfl ?_
      refine r_isub (pc' := 47) dX9_isPalindrome_46 rfl ?_
      refine r_iload_n (pc' := 48) dX9_isPalindrome_47 rfl 0 rfl rfl ?_
      refine r_isub (pc' := 49) dX9_isPalindrome_48 rfl ?_
      obtain ⟨g8, h⟩ := gd_e h
      refine r_iaload (pc' := 50) dX9_isPalindrome_49 hm.c1 g8 rfl ?_
      refine r_icmp_eq (tgt := 55) (pc' := 53) dX9_isPalindrome_50 rfl rfl (fun h9 => ?_) (fun h9 => ?_)
      · have h := ifp h9 h
        refine r_iinc (pc' := 58) (v := _ + 1) (lv' := [(1, _), (0, _)]) dX9_isPalindrome_55 0 rfl rfl (by decide) rfl rfl ?_
        refine r_goto (tgt := 11) dX9_isPalindrome_58 rfl ?_
        exact ih _ _ h hR hE
      · have h := ifn h9 h
        refine r_iconst (pc' := 54) (v := 0) dX9_isPalindrome_53 (by decide) rfl ?_
        cases h
        exact r_zret dX9_isPalindrome_54 rfl (by decide) (by decide) (by decide) (hR _ _ rfl)
set_option maxHeartbeats 4000000 in
theorem c_X9_isPalindrome {Ω : JO} {I : JI} {S : JS} {Q : JQ} {m : Nat} {r : Bool} {J : JI} (hm : Is9 S m) (h : s_X9_isPalindrome I m = some (r, J)) (hQ : Q (.inl (some (.int (zb r)))) J S) : Call Ω m_X9_isPalindrome [.ref m] I S Q := by
  refine call_of (by decide +kernel) rfl (Nat.le_of_ble_eq_true rfl) ?_
  change AA Ω m_X9_isPalindrome (FQ Ω m_X9_isPalindrome Q) 0 0 0 [(0, .ref m)] [] I S
  unfold s_X9_isPalindrome at h
  refine r_aload_n (pc' := 1) dX9_isPalindrome_0 rfl 0 rfl rfl ?_
  obtain ⟨z2, I1, ez2, h⟩ := bd2_e h
  refine r_callV0 (pc' := 4) (k' := 0) (n' := 0) dX9_isPalindrome_1 mb_X9_mayLook mi_X9_mayLook hm.o (by decide) rfl lk_X9_409 rfl rfl rfl (Nat.le_of_ble_eq_true rfl) rfl (c_X9_mayLook hm ez2 (cpI ?_))
  refine r_if_ne (tgt := 9) (pc' := 7) dX9_isPalindrome_4 rfl rfl (fun h3 => ?_) (fun h3 => ?_)
  · have h := ifp (zb_p0 h3) h
    refine r_iconst (pc' := 10) (v := 0) dX9_isPalindrome_9 (by decide) rfl ?_
    refine r_istore_n (pc' := 11) (lv' := [(1, _), (0, _)]) dX9_isPalindrome_10 rfl (by decide) rfl rfl ?_
    obtain ⟨o11, eo11, h1, h⟩ := bl_e h
    refine l_X9_isPalindrome_L11 (Ω := Ω) hm _ _ _ eo11 (fun r J q => ?_) (fun y10 q => ?_)
    · have h1 := h1 _ q
      cases h1
      exact hQ
    have h := h _ q
    refine r_iconst (pc' := 62) (v := 1) dX9_isPalindrome_61 (by decide) rfl ?_
    cases h
    exact r_zret dX9_isPalindrome_62 rfl (by decide) (by decide) (by decide) hQ
  · have h := ifn (zb_n0 h3) h
    refine r_iconst (pc' := 8) (v := 0) dX9_isPalindrome_7 (by decide) rfl ?_
    cases h
    exact r_zret dX9_isPalindrome_8 rfl (by decide) (by decide) (by decide) hQ
theorem frl_X9_isPalindrome_L11 {I : JI} {m : Nat} {z : Nat} (hz_m : z ≠ m) : ∀ (f : Nat) (w1 : Int32) (o : ((Bool × JI) ⊕ (Int32))), s_X9_isPalindrome_L11 I m f w1 = some o → (∀ (r : Bool) (J : JI), o = .inl (r, J) → J z = I z) := by
  intro f
  induction f with
  | zero =>
    intro w1 o h
    rw [s_X9_isPalindrome_L11] at h
    cases h
  | succ f ih =>
    intro w1 o h
    rw [s_X9_isPalindrome_L11] at h
    obtain ⟨g1, h⟩ := gd_e h
    rcases if_e h with h | h
    · cases h
      intro _ _ q
      cases q
    · obtain ⟨g2, h⟩ := gd_e h
      obtain ⟨g3, h⟩ := gd_e h
      obtain ⟨g4, h⟩ := gd_e h
      rcases if_e h with h | h
      · exact (ih _ _ h)
      · cases h
        intro _ _ q
        cases q
        exact rfl
set_option maxHeartbeats 4000000 in
theorem fr_X9_isPalindrome {I : JI} {m : Nat} {r : Bool} {J : JI} {z : Nat} (h : s_X9_isPalindrome I m = some (r, J)) (hz_m : z ≠ m) : J z = I z := by
  unfold s_X9_isPalindrome at h
  obtain ⟨z2, I1, e1, h⟩ := bd2_e h
  rcases if_e h with h | h
  · obtain ⟨o2, e2, h1, h⟩ := bl_e h
    rcases o2 with y2 | y2
    · have h1 := h1 _ rfl
      cases h1
      exact (((frl_X9_isPalindrome_L11 hz_m _ _ _ e2) _ _ rfl).trans ((fr_X9_mayLook e1 (by omega)).trans rfl))
    have h := h _ rfl
    cases h
    exact ((fr_X9_mayLook e1 (by omega)).trans rfl)
  · cases h
    exact ((fr_X9_mayLook e1 (by omega)).trans rfl)
theorem ffl_X9_isPalindrome_L11 {I : JI} {m : Nat} {k : Nat} (hk0 : k ≠ 0) : ∀ (f : Nat) (w1 : Int32) (o : ((Bool × JI) ⊕ (Int32))), s_X9_isPalindrome_L11 I m f w1 = some o → (∀ (r : Bool) (J : JI), o = .inl (r, J) → J m k = I m k) := by
  intro f
  induction f with
  | zero =>
    intro w1 o h
    rw [s_X9_isPalindrome_L11] at h
    cases h
  | succ f ih =>
    intro w1 o h
    rw [s_X9_isPalindrome_L11] at h
    obtain ⟨g1, h⟩ := gd_e h
    rcases if_e h with h | h
    · cases h
      intro _ _ q
      cases q
    · obtain ⟨g2, h⟩ := gd_e h
      obtain ⟨g3, h⟩ := gd_e h
      obtain ⟨g4, h⟩ := gd_e h
      rcases if_e h with h | h
      · exact (ih _ _ h)
      · cases h
        intro _ _ q
        cases q
        exact rfl
set_option maxHeartbeats 4000000 in
theorem ff_X9_isPalindrome {I : JI} {m : Nat} {r : Bool} {J : JI} {k : Nat} (h : s_X9_isPalindrome I m = some (r, J)) (hk0 : k ≠ 0) : J m k = I m k := by
  unfold s_X9_isPalindrome at h
  obtain ⟨z2, I1, e1, h⟩ := bd2_e h
  rcases if_e h with h | h
  · obtain ⟨o2, e2, h1, h⟩ := bl_e h
    rcases o2 with y2 | y2
    · have h1 := h1 _ rfl
      cases h1
      exact (((ffl_X9_isPalindrome_L11 hk0 _ _ _ e2) _ _ rfl).trans ((ff_X9_mayLook e1 hk0).trans rfl))
    have h := h _ rfl
    cases h
    exact ((ff_X9_mayLook e1 hk0).trans rfl)
  · cases h
    exact ((ff_X9_mayLook e1 hk0).trans rfl)
