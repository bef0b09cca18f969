noncomputable def s_X9_bringYarn (I : JI) (m : Nat) (x1 : Int32) (x2 : Int32) : Option (Int32 × JI) :=
  gd ((I m 6) = 0 ∨ (I m 6) = 1) <| if (s_X9_isColour x1) = true then (if (s_X9_in x2 1 999) = true then (bd2 (s_X9_mayTwo I m (nz (I m 6)) true) fun z17 I16 => if z17 = true then (bd (s_X9_remembers I16 m) fun I19 => bd (s_X9_brings I19 m x1 x2) fun I20 => gd (vp_in (110 + x1) 2030) <| some ((I20 (m + 1) (Int32.toNatClampNeg (110 + x1))), I20)) else (some (0, I16))) else (bd2 (s_X9_mayTwo I m (nz (I m 6)) false) fun z11 I10 => if z11 = true then (bd (s_X9_remembers I10 m) fun I13 => bd (s_X9_brings I13 m x1 x2) fun I14 => gd (vp_in (110 + x1) 2030) <| some ((I14 (m + 1) (Int32.toNatClampNeg (110 + x1))), I14)) else (some (0, I10)))) else (bd2 (s_X9_mayTwo I m (nz (I m 6)) false) fun z4 I3 => if z4 = true then (bd (s_X9_remembers I3 m) fun I6 => bd (s_X9_brings I6 m x1 x2) fun I7 => gd (vp_in (110 + x1) 2030) <| some ((I7 (m + 1) (Int32.toNatClampNeg (110 + x1))), I7)) else (some (0, I3)))
set_option maxHeartbeats 4000000 in
theorem c_X9_bringYarn {Ω : JO} {I : JI} {S : JS} {Q : JQ} {m : Nat} {x1 : Int32} {x2 : Int32} {r : Int32} {J : JI} (hm : Is9 S m) (h : s_X9_bringYarn I m x1 x2 = some (r, J)) (hQ : Q (.inl (some (.int r))) J S) : Call Ω m_X9_bringYarn [.ref m, .int x1, .int x2] I S Q := by
  refine call_of (by decide +kernel) rfl (Nat.le_of_ble_eq_true rfl) ?_
  change AA Ω m_X9_bringYarn (FQ Ω m_X9_bringYarn Q) 0 0 0 [(0, .ref m), (1, .int x1), (2, .int x2)] [] I S
  unfold s_X9_bringYarn at h
  refine r_aload_n (pc' := 1) dX9_bringYarn_0 rfl 0 rfl rfl ?_
  refine r_aload_n (pc' := 2) dX9_bringYarn_1 rfl 0 rfl rfl ?_
  obtain ⟨g1, h⟩ := gd_e h
  refine r_getZ (pc' := 5) dX9_bringYarn_2 fa_X9_53 hm.o rfl g1 rfl ?_
  refine r_iload_n (pc' := 6) dX9_bringYarn_5 rfl 1 rfl rfl ?_
  refine r_callS1 (pc' := 9) (k' := 0) (n' := 0) dX9_bringYarn_6 mb_X9_isColour ms_X9_isColour lk_X9_406 rfl rfl rfl (Nat.le_of_ble_eq_true rfl) rfl (c_X9_isColour rfl (cpI ?_))
  refine r_if_eq (tgt := 27) (pc' := 12) dX9_bringYarn_9 rfl rfl (fun h2 => ?_) (fun h2 => ?_)
  · have h := ifn (zb_n0 h2) h
    refine r_iconst (pc' := 28) (v := 0) dX9_bringYarn_27 (by decide) rfl ?_
    obtain ⟨z4, I3, ez4, h⟩ := bd2_e h
    refine r_callV2 (pc' := 31) (k' := 0) (n' := 0) dX9_bringYarn_28 mb_X9_mayTwo mi_X9_mayTwo hm.o (by decide) rfl lk_X9_393 rfl rfl rfl (Nat.le_of_ble_eq_true rfl) rfl (c_X9_mayTwo (b2 := false) hm ez4 (cpI ?_))
    refine r_if_ne (tgt := 36) (pc' := 34) dX9_bringYarn_31 rfl rfl (fun h5 => ?_) (fun h5 => ?_)
    · have h := ifp (zb_p0 h5) h
      refine r_aload_n (pc' := 37) dX9_bringYarn_36 rfl 0 rfl rfl ?_
      obtain ⟨I6, eI6, h⟩ := bd_e h
      refine r_callV0 (pc' := 40) (k' := 0) (n' := 0) dX9_bringYarn_37 mb_X9_remembers mi_X9_remembers hm.o (by decide) rfl lk_X9_481 rfl rfl rfl (Nat.le_of_ble_eq_true rfl) rfl (c_X9_remembers hm eI6 (cpV ?_))
      refine r_aload_n (pc' := 41) dX9_bringYarn_40 rfl 0 rfl rfl ?_
      refine r_iload_n (pc' := 42) dX9_bringYarn_41 rfl 1 rfl rfl ?_
      refine r_iload_n (pc' := 43) dX9_bringYarn_42 rfl 2 rfl rfl ?_
      obtain ⟨I7, eI7, h⟩ := bd_e h
      refine r_callV2 (pc' := 46) (k' := 0) (n' := 0) dX9_bringYarn_43 mb_X9_brings mi_X9_brings hm.o (by decide) rfl lk_X9_208 rfl rfl rfl (Nat.le_of_ble_eq_true rfl) rfl (c_X9_brings hm eI7 (cpV ?_))
      refine r_aload_n (pc' := 47) dX9_bringYarn_46 rfl 0 rfl rfl ?_
      refine r_getO (pc' := 50) dX9_bringYarn_47 fa_X9_9 hm.o rfl hm.r1 rfl ?_
      refine r_bipush (pc' := 52) (v := 110) dX9_bringYarn_50 (by decide) rfl ?_
      refine r_iload_n (pc' := 53) dX9_bringYarn_52 rfl 1 rfl rfl ?_
      refine r_iadd (pc' := 54) dX9_bringYarn_53 rfl ?_
      obtain ⟨g8, h⟩ := gd_e h
      refine r_iaload (pc' := 55) dX9_bringYarn_54 hm.c1 g8 rfl ?_
      cases h
      exact r_iret dX9_bringYarn_55 rfl (by decide) (by decide) hQ
    · have h := ifn (zb_n0 h5) h
      refine r_iconst (pc' := 35) (v := 0) dX9_bringYarn_34 (by decide) rfl ?_
      cases h
      exact r_iret dX9_bringYarn_35 rfl (by decide) (by decide) hQ
  · have h := ifp (zb_p0 h2) h
    refine r_iload_n (pc' := 13) dX9_bringYarn_12 rfl 2 rfl rfl ?_
    refine r_iconst (pc' := 14) (v := 1) dX9_bringYarn_13 (by decide) rfl ?_
    refine r_sipush (pc' := 17) (v := 999) dX9_bringYarn_14 (by decide) rfl ?_
    refine r_callS3 (pc' := 20) (k' := 0) (n' := 0) dX9_bringYarn_17 mb_X9_in ms_X9_in lk_X9_78 rfl rfl rfl (Nat.le_of_ble_eq_true rfl) rfl (c_X9_in rfl (cpI ?_))
    refine r_if_eq (tgt := 27) (pc' := 23) dX9_bringYarn_20 rfl rfl (fun h9 => ?_) (fun h9 => ?_)
    · have h := ifn (zb_n0 h9) h
      refine r_iconst (pc' := 28) (v := 0) dX9_bringYarn_27 (by decide) rfl ?_
      obtain ⟨z11, I10, ez11, h⟩ := bd2_e h
      refine r_callV2 (pc' := 31) (k' := 0) (n' := 0) dX9_bringYarn_28 mb_X9_mayTwo mi_X9_mayTwo hm.o (by decide) rfl lk_X9_393 rfl rfl rfl (Nat.le_of_ble_eq_true rfl) rfl (c_X9_mayTwo (b2 := false) hm ez11 (cpI ?_))
      refine r_if_ne (tgt := 36) (pc' := 34) dX9_bringYarn_31 rfl rfl (fun h12 => ?_) (fun h12 => ?_)
      · have h := ifp (zb_p0 h12) h
        refine r_aload_n (pc' := 37) dX9_bringYarn_36 rfl 0 rfl rfl ?_
        obtain ⟨I13, eI13, h⟩ := bd_e h
        refine r_callV0 (pc' := 40) (k' := 0) (n' := 0) dX9_bringYarn_37 mb_X9_remembers mi_X9_remembers hm.o (by decide) rfl lk_X9_481 rfl rfl rfl (Nat.le_of_ble_eq_true rfl) rfl (c_X9_remembers hm eI13 (cpV ?_))
        refine r_aload_n (pc' := 41) dX9_bringYarn_40 rfl 0 rfl rfl ?_
        refine r_iload_n (pc' := 42) dX9_bringYarn_41 rfl 1 rfl rfl ?_
        refine r_iload_n (pc' := 43) dX9_bringYarn_42 rfl 2 rfl rfl ?_
        obtain ⟨I14, eI14, h⟩ := bd_e h
        refine r_callV2 (pc' := 46) (k' := 0) (n' := 0) dX9_bringYarn_43 mb_X9_brings mi_X9_brings hm.o (by decide) rfl lk_X9_208 rfl rfl rfl (Nat.le_of_ble_eq_true rfl) rfl (c_X9_brings hm eI14 (cpV ?_))
        refine r_aload_n (pc' := 47) dX9_bringYarn_46 rfl 0 rfl rfl ?_
        refine r_getO (pc' := 50) dX9_bringYarn_47 fa_X9_9 hm.o rfl hm.r1 rfl ?_
        refine r_bipush (pc' := 52) (v := 110) dX9_bringYarn_50 (by decide) rfl ?_
        refine r_iload_n (pc' := 53) dX9_bringYarn_52 rfl 1 rfl rfl ?_
        refine r_iadd (pc' := 54) dX9_bringYarn_53 rfl ?_
        obtain ⟨g15, h⟩ := gd_e h
        refine r_iaload (pc' := 55) dX9_bringYarn_54 hm.c1 g15 rfl ?_
        cases h
        exact r_iret dX9_bringYarn_55 rfl (by decide) (by decide) hQ
      · have h := ifn (zb_n0 h12) h
        refine r_iconst (pc' := 35) (v := 0) dX9_bringYarn_34 (by decide) rfl ?_
        cases h
        exact r_iret dX9_bringYarn_35 rfl (by decide) (by decide) hQ
    · have h := ifp (zb_p0 h9) h
      refine r_iconst (pc' := 24) (v := 1) dX9_bringYarn_23 (by decide) rfl ?_
      refine r_goto (tgt := 28) dX9_bringYarn_24 rfl ?_
      obtain ⟨z17, I16, ez17, h⟩ := bd2_e h
      refine r_callV2 (pc' := 31) (k' := 0) (n' := 0) dX9_bringYarn_28 mb_X9_mayTwo mi_X9_mayTwo hm.o (by decide) rfl lk_X9_393 rfl rfl rfl (Nat.le_of_ble_eq_true rfl) rfl (c_X9_mayTwo (b2 := true) hm ez17 (cpI ?_))
      refine r_if_ne (tgt := 36) (pc' := 34) dX9_bringYarn_31 rfl rfl (fun h18 => ?_) (fun h18 => ?_)
      · have h := ifp (zb_p0 h18) h
        refine r_aload_n (pc' := 37) dX9_bringYarn_36 rfl 0 rfl rfl ?_
        obtain ⟨I19, eI19, h⟩ := bd_e h
        refine r_callV0 (pc' := 40) (k' := 0) (n' := 0) dX9_bringYarn_37 mb_X9_remembers mi_X9_remembers hm.o (by decide) rfl lk_X9_481 rfl rfl rfl (Nat.le_of_ble_eq_true rfl) rfl (c_X9_remembers hm eI19 (cpV ?_))
        refine r_aload_n (pc' := 41) dX9_bringYarn_40 rfl 0 rfl rfl ?_
        refine r_iload_n (pc' := 42) dX9_bringYarn_41 rfl 1 rfl rfl ?_
        refine r_iload_n (pc' := 43) dX9_bringYarn_42 rfl 2 rfl rfl ?_
        obtain ⟨I20, eI20, h⟩ := bd_e h
        refine r_callV2 (pc' := 46) (k' := 0) (n' := 0) dX9_bringYarn_43 mb_X9_brings mi_X9_brings hm.o (by decide) rfl lk_X9_208 rfl rfl rfl (Nat.le_of_ble_eq_true rfl) rfl (c_X9_brings hm eI20 (cpV ?_))
        refine r_aload_n (pc' := 47) dX9_bringYarn_46 rfl 0 rfl rfl ?_
        refine r_getO (pc' := 50) dX9_bringYarn_47 fa_X9_9 hm.o rfl hm.r1 rfl ?_
        refine r_bipush (pc' := 52) (v := 110) dX9_bringYarn_50 (by decide) rfl ?_
        refine r_iload_n (pc' := 53) dX9_bringYarn_52 rfl 1 rfl rfl ?_
        refine r_iadd (pc' := 54) dX9_bringYarn_53 rfl ?_
        obtain ⟨g21, h⟩ := gd_e h
        refine r_iaload (pc' := 55) dX9_bringYarn_54 hm.c1 g21 rfl ?_
        cases h
        exact r_iret dX9_bringYarn_55 rfl (by decide) (by decide) hQ
      · have h := ifn (zb_n0 h18) h
        refine r_iconst (pc' := 35) (v := 0) dX9_bringYarn_34 (by decide) rfl ?_
        cases h
        exact r_iret dX9_bringYarn_35 rfl (by decide) (by decide) hQ
set_option maxHeartbeats 4000000 in
theorem fr_X9_bringYarn {I : JI} {m : Nat} {x1 : Int32} {x2 : Int32} {r : Int32} {J : JI} {z : Nat} (h : s_X9_bringYarn I m x1 x2 = some (r, J)) (hz_m1 : z ≠ (m + 1)) (hz_m3 : z ≠ (m + 3)) (hz_m : z ≠ m) : J z = I z := by
  unfold s_X9_bringYarn at h
  obtain ⟨g1, h⟩ := gd_e h
  rcases if_e h with h | h
  · rcases if_e h with h | h
    · obtain ⟨z17, I16, e2, h⟩ := bd2_e h
      rcases if_e h with h | h
      · obtain ⟨I19, e3, h⟩ := bd_e h
        obtain ⟨I20, e4, h⟩ := bd_e h
        obtain ⟨g5, h⟩ := gd_e h
        cases h
        exact ((fr_X9_brings e4 (by omega)).trans ((fr_X9_remembers e3 (by omega) (by omega)).trans ((fr_X9_mayTwo e2 (by omega)).trans rfl)))
      · cases h
        exact ((fr_X9_mayTwo e2 (by omega)).trans rfl)
    · obtain ⟨z11, I10, e6, h⟩ := bd2_e h
      rcases if_e h with h | h
      · obtain ⟨I13, e7, h⟩ := bd_e h
        obtain ⟨I14, e8, h⟩ := bd_e h
        obtain ⟨g9, h⟩ := gd_e h
        cases h
        exact ((fr_X9_brings e8 (by omega)).trans ((fr_X9_remembers e7 (by omega) (by omega)).trans ((fr_X9_mayTwo e6 (by omega)).trans rfl)))
      · cases h
        exact ((fr_X9_mayTwo e6 (by omega)).trans rfl)
  · obtain ⟨z4, I3, e10, h⟩ := bd2_e h
    rcases if_e h with h | h
    · obtain ⟨I6, e11, h⟩ := bd_e h
      obtain ⟨I7, e12, h⟩ := bd_e h
      obtain ⟨g13, h⟩ := gd_e h
      cases h
      exact ((fr_X9_brings e12 (by omega)).trans ((fr_X9_remembers e11 (by omega) (by omega)).trans ((fr_X9_mayTwo e10 (by omega)).trans rfl)))
    · cases h
      exact ((fr_X9_mayTwo e10 (by omega)).trans rfl)
set_option maxHeartbeats 4000000 in
theorem ff_X9_bringYarn {I : JI} {m : Nat} {x1 : Int32} {x2 : Int32} {r : Int32} {J : JI} {k : Nat} (h : s_X9_bringYarn I m x1 x2 = some (r, J)) (hk0 : k ≠ 0) (hk7 : k ≠ 7) : J m k = I m k := by
  unfold s_X9_bringYarn at h
  obtain ⟨g1, h⟩ := gd_e h
  rcases if_e h with h | h
  · rcases if_e h with h | h
    · obtain ⟨z17, I16, e2, h⟩ := bd2_e h
      rcases if_e h with h | h
      · obtain ⟨I19, e3, h⟩ := bd_e h
        obtain ⟨I20, e4, h⟩ := bd_e h
        obtain ⟨g5, h⟩ := gd_e h
        cases h
        exact ((congrFun (fr_X9_brings e4 (by omega)) k).trans ((ff_X9_remembers e3 hk7).trans ((ff_X9_mayTwo e2 hk0).trans rfl)))
      · cases h
        exact ((ff_X9_mayTwo e2 hk0).trans rfl)
    · obtain ⟨z11, I10, e6, h⟩ := bd2_e h
      rcases if_e h with h | h
      · obtain ⟨I13, e7, h⟩ := bd_e h
        obtain ⟨I14, e8, h⟩ := bd_e h
        obtain ⟨g9, h⟩ := gd_e h
        cases h
        exact ((congrFun (fr_X9_brings e8 (by omega)) k).trans ((ff_X9_remembers e7 hk7).trans ((ff_X9_mayTwo e6 hk0).trans rfl)))
      · cases h
        exact ((ff_X9_mayTwo e6 hk0).trans rfl)
  · obtain ⟨z4, I3, e10, h⟩ := bd2_e h
    rcases if_e h with h | h
    · obtain ⟨I6, e11, h⟩ := bd_e h
      obtain ⟨I7, e12, h⟩ := bd_e h
      obtain ⟨g13, h⟩ := gd_e h
      cases h
      exact ((congrFun (fr_X9_brings e12 (by omega)) k).trans ((ff_X9_remembers e11 hk7).trans ((ff_X9_mayTwo e10 hk0).trans rfl)))
    · cases h
      exact ((ff_X9_mayTwo e10 hk0).trans rfl)
noncomputable def s_X9_oil (I : JI) (m : Nat) (x1 : Int32) : Option (Int32 × JI) :=
  bd2 (s_X9_mayHarness I m x1) fun z2 I1 => if z2 = true then (bd (s_X9_remembers I1 m) fun I4 => bd (s_X9_ofHarness I4 m x1 1) fun v5 => bd (s_X9_oils I4 m x1) fun I6 => some (v5, I6)) else (some (0, I1))
set_option maxHeartbeats 4000000 in
theorem c_X9_oil {Ω : JO} {I : JI} {S : JS} {Q : JQ} {m : Nat} {x1 : Int32} {r : Int32} {J : JI} (hm : Is9 S m) (h : s_X9_oil I m x1 = some (r, J)) (hQ : Q (.inl (some (.int r))) J S) : Call Ω m_X9_oil [.ref m, .int x1] I S Q := by
  refine call_of (by decide +kernel) rfl (Nat.le_of_ble_eq_true rfl) ?_
  change AA Ω m_X9_oil (FQ Ω m_X9_oil Q) 0 0 0 [(0, .ref m), (1, .int x1)] [] I S
  unfold s_X9_oil at h
  refine r_aload_n (pc' := 1) dX9_oil_0 rfl 0 rfl rfl ?_
  refine r_iload_n (pc' := 2) dX9_oil_1 rfl 1 rfl rfl ?_
  obtain ⟨z2, I1, ez2, h⟩ := bd2_e h
  refine r_callV1 (pc' := 5) (k' := 0) (n' := 0) dX9_oil_2 mb_X9_mayHarness mi_X9_mayHarness hm.o (by decide) rfl lk_X9_418 rfl rfl rfl (Nat.le_of_ble_eq_true rfl) rfl (c_X9_mayHarness hm ez2 (cpI ?_))
  refine r_if_ne (tgt := 10) (pc' := 8) dX9_oil_5 rfl rfl (fun h3 => ?_) (fun h3 => ?_)
  · have h := ifp (zb_p0 h3) h
    refine r_aload_n (pc' := 11) dX9_oil_10 rfl 0 rfl rfl ?_
    obtain ⟨I4, eI4, h⟩ := bd_e h
    refine r_callV0 (pc' := 14) (k' := 0) (n' := 0) dX9_oil_11 mb_X9_remembers mi_X9_remembers hm.o (by decide) rfl lk_X9_481 rfl rfl rfl (Nat.le_of_ble_eq_true rfl) rfl (c_X9_remembers hm eI4 (cpV ?_))
    refine r_aload_n (pc' := 15) dX9_oil_14 rfl 0 rfl rfl ?_
    refine r_iload_n (pc' := 16) dX9_oil_15 rfl 1 rfl rfl ?_
    refine r_iconst (pc' := 17) (v := 1) dX9_oil_16 (by decide) rfl ?_
    obtain ⟨v5, ev5, h⟩ := bd_e h
    refine r_callV2 (pc' := 20) (k' := 0) (n' := 0) dX9_oil_17 mb_X9_ofHarness mi_X9_ofHarness hm.o (by decide) rfl lk_X9_346 rfl rfl rfl (Nat.le_of_ble_eq_true rfl) rfl (c_X9_ofHarness hm ev5 (cpI ?_))
    refine r_istore_n (pc' := 21) (lv' := [(2, _), (0, _), (1, _)]) dX9_oil_20 rfl (by decide) rfl rfl ?_
    refine r_aload_n (pc' := 22) dX9_oil_21 rfl 1 rfl rfl ?_
    refine r_iload_n (pc' := 23) dX9_oil_22 rfl 2 rfl rfl ?_
    obtain ⟨I6, eI6, h⟩ := bd_e h
    refine r_callV1 (pc' := 26) (k' := 0) (n' := 0) dX9_oil_23 mb_X9_oils mi_X9_oils hm.o (by decide) rfl lk_X9_229 rfl rfl rfl (Nat.le_of_ble_eq_true rfl) rfl (c_X9_oils hm eI6 (cpV ?_))
    refine r_iload_n (pc' := 27) dX9_oil_26 rfl 0 rfl rfl ?_
    cases h
    exact r_iret dX9_oil_27 rfl (by decide) (by decide) hQ
  · have h := ifn (zb_n0 h3) h
    refine r_iconst (pc' := 9) (v := 0) dX9_oil_8 (by decide) rfl ?_
    cases h
    exact r_iret dX9_oil_9 rfl (by decide) (by decide) hQ
set_option maxHeartbeats 4000000 in
theorem fr_X9_oil {I : JI} {m : Nat} {x1 : Int32} {r : Int32} {J : JI} {z : Nat} (h : s_X9_oil I m x1 = some (r, J)) (hz_m1 : z ≠ (m + 1)) (hz_m3 : z ≠ (m + 3)) (hz_m : z ≠ m) : J z = I z := by
  unfold s_X9_oil at h
  obtain ⟨z2, I1, e1, h⟩ := bd2_e h
  rcases if_e h with h | h
  · obtain ⟨I4, e2, h⟩ := bd_e h
    obtain ⟨o3, e3, h⟩ := bd_e h
    obtain ⟨I6, e4, h⟩ := bd_e h
    cases h
    exact ((fr_X9_oils e4 (by omega)).trans ((fr_X9_remembers e2 (by omega) (by omega)).trans ((fr_X9_mayHarness e1 (by omega)).trans rfl)))
  · cases h
    exact ((fr_X9_mayHarness e1 (by omega)).trans rfl)
set_option maxHeartbeats 4000000 in
theorem ff_X9_oil {I : JI} {m : Nat} {x1 : Int32} {r : Int32} {J : JI} {k : Nat} (h : s_X9_oil I m x1 = some (r, J)) (hk0 : k ≠ 0) (hk7 : k ≠ 7) : J m k = I m k := by
  unfold s_X9_oil at h
  obtain ⟨z2, I1, e1, h⟩ := bd2_e h
  rcases if_e h with h | h
  · obtain ⟨I4, e2, h⟩ := bd_e h
    obtain ⟨o3, e3, h⟩ := bd_e h
    obtain ⟨I6, e4, h⟩ := bd_e h
    cases h
    exact ((congrFun (fr_X9_oils e4 (by omega)) k).trans ((ff_X9_remembers e2 hk7).trans ((ff_X9_mayHarness e1 hk0).trans rfl)))
  · cases h
    exact ((ff_X9_mayHarness e1 hk0).trans rfl)
noncomputable def s_X9_mend (I : JI) (m : Nat) (x1 : Int32) : Option (Int32 × JI) :=
  bd (s_X9_isWarp I m x1) fun z1 => gd ((I m 6) = 0 ∨ (I m 6) = 1) <| if z1 = true then (bd (s_X9_breaks I m x1) fun z10 => if z10 = true then (bd2 (s_X9_may I m (nz (I m 6)) z1 true) fun z19 I18 => if z19 = true then (bd (s_X9_remembers I18 m) fun I21 => bd (s_X9_putsWarp I21 m x1 2 0) fun I22 => bd (s_X9_brokenOnes I22 m) fun v23 => some (v23, I22)) else (some (0, I18))) else (bd2 (s_X9_may I m (nz (I m 6)) z1 false) fun z13 I12 => if z13 = true then (bd (s_X9_remembers I12 m) fun I15 => bd (s_X9_putsWarp I15 m x1 2 0) fun I16 => bd (s_X9_brokenOnes I16 m) fun v17 => some (v17, I16)) else (some (0, I12)))) else (bd2 (s_X9_may I m (nz (I m 6)) z1 false) fun z5 I4 => if z5 = true then (bd (s_X9_remembers I4 m) fun I7 => bd (s_X9_putsWarp I7 m x1 2 0) fun I8 => bd (s_X9_brokenOnes I8 m) fun v9 => some (v9, I8)) else (some (0, I4)))
set_option maxHeartbeats 4000000 in
theorem c_X9_mend {Ω : JO} {I : JI} {S : JS} {Q : JQ} {m : Nat} {x1 : Int32} {r : Int32} {J : JI} (hm : Is9 S m) (h : s_X9_mend I m x1 = some (r, J)) (hQ : Q (.inl (some (.int r))) J S) : Call Ω m_X9_mend [.ref m, .int x1] I S Q := by
  refine call_of (by decide +kernel) rfl (Nat.le_of_ble_eq_true rfl) ?_
  change AA Ω m_X9_mend (FQ Ω m_X9_mend Q) 0 0 0 [(0, .ref m), (1, .int x1)] [] I S
  unfold s_X9_mend at h
  refine r_aload_n (pc' := 1) dX9_mend_0 rfl 0 rfl rfl ?_
  refine r_iload_n (pc' := 2) dX9_mend_1 rfl 1 rfl rfl ?_
  obtain ⟨z1, ez1, h⟩ := bd_e h
  refine r_callV1 (pc' := 5) (k' := 0) (n' := 0) dX9_mend_2 mb_X9_isWarp mi_X9_isWarp hm.o (by decide) rfl lk_X9_397 rfl rfl rfl (Nat.le_of_ble_eq_true rfl) rfl (c_X9_isWarp hm ez1 (cpI ?_))
  refine r_istore_n (pc' := 6) (lv' := [(2, _), (0, _), (1, _)]) dX9_mend_5 rfl (by decide) rfl rfl ?_
  refine r_aload_n (pc' := 7) dX9_mend_6 rfl 1 rfl rfl ?_
  refine r_aload_n (pc' := 8) dX9_mend_7 rfl 1 rfl rfl ?_
  obtain ⟨g2, h⟩ := gd_e h
  refine r_getZ (pc' := 11) dX9_mend_8 fa_X9_53 hm.o rfl g2 rfl ?_
  refine r_iload_n (pc' := 12) dX9_mend_11 rfl 0 rfl rfl ?_
  refine r_iload_n (pc' := 13) dX9_mend_12 rfl 0 rfl rfl ?_
  refine r_if_eq (tgt := 28) (pc' := 16) dX9_mend_13 rfl rfl (fun h3 => ?_) (fun h3 => ?_)
  · have h := ifn (zb_n0 h3) h
    refine r_iconst (pc' := 29) (v := 0) dX9_mend_28 (by decide) rfl ?_
    obtain ⟨z5, I4, ez5, h⟩ := bd2_e h
    refine r_callV3 (pc' := 32) (k' := 0) (n' := 0) dX9_mend_29 mb_X9_may mi_X9_may hm.o (by decide) rfl lk_X9_49 rfl rfl rfl (Nat.le_of_ble_eq_true rfl) rfl (c_X9_may (b3 := false) hm ez5 (cpI ?_))
    refine r_if_ne (tgt := 37) (pc' := 35) dX9_mend_32 rfl rfl (fun h6 => ?_) (fun h6 => ?_)
    · have h := ifp (zb_p0 h6) h
      refine r_aload_n (pc' := 38) dX9_mend_37 rfl 1 rfl rfl ?_
      obtain ⟨I7, eI7, h⟩ := bd_e h
      refine r_callV0 (pc' := 41) (k' := 0) (n' := 0) dX9_mend_38 mb_X9_remembers mi_X9_remembers hm.o (by decide) rfl lk_X9_481 rfl rfl rfl (Nat.le_of_ble_eq_true rfl) rfl (c_X9_remembers hm eI7 (cpV ?_))
      refine r_aload_n (pc' := 42) dX9_mend_41 rfl 1 rfl rfl ?_
      refine r_iload_n (pc' := 43) dX9_mend_42 rfl 2 rfl rfl ?_
      refine r_iconst (pc' := 44) (v := 2) dX9_mend_43 (by decide) rfl ?_
      refine r_iconst (pc' := 45) (v := 0) dX9_mend_44 (by decide) rfl ?_
      obtain ⟨I8, eI8, h⟩ := bd_e h
      refine r_callV3 (pc' := 48) (k' := 0) (n' := 0) dX9_mend_45 mb_X9_putsWarp mi_X9_putsWarp hm.o (by decide) rfl lk_X9_134 rfl rfl rfl (Nat.le_of_ble_eq_true rfl) rfl (c_X9_putsWarp hm eI8 (cpV ?_))
      refine r_aload_n (pc' := 49) dX9_mend_48 rfl 1 rfl rfl ?_
      obtain ⟨v9, ev9, h⟩ := bd_e h
      refine r_callV0 (pc' := 52) (k' := 0) (n' := 0) dX9_mend_49 mb_X9_brokenOnes mi_X9_brokenOnes hm.o (by decide) rfl lk_X9_421 rfl rfl rfl (Nat.le_of_ble_eq_true rfl) rfl (c_X9_brokenOnes hm ev9 (cpI ?_))
      cases h
      exact r_iret dX9_mend_52 rfl (by decide) (by decide) hQ
    · have h := ifn (zb_n0 h6) h
      refine r_iconst (pc' := 36) (v := 0) dX9_mend_35 (by decide) rfl ?_
      cases h
      exact r_iret dX9_mend_36 rfl (by decide) (by decide) hQ
  · have h := ifp (zb_p0 h3) h
    refine r_aload_n (pc' := 17) dX9_mend_16 rfl 1 rfl rfl ?_
    refine r_iload_n (pc' := 18) dX9_mend_17 rfl 2 rfl rfl ?_
    obtain ⟨z10, ez10, h⟩ := bd_e h
    refine r_callV1 (pc' := 21) (k' := 0) (n' := 0) dX9_mend_18 mb_X9_breaks mi_X9_breaks hm.o (by decide) rfl lk_X9_235 rfl rfl rfl (Nat.le_of_ble_eq_true rfl) rfl (c_X9_breaks hm ez10 (cpI ?_))
    refine r_if_eq (tgt := 28) (pc' := 24) dX9_mend_21 rfl rfl (fun h11 => ?_) (fun h11 => ?_)
    · have h := ifn (zb_n0 h11) h
      refine r_iconst (pc' := 29) (v := 0) dX9_mend_28 (by decide) rfl ?_
      obtain ⟨z13, I12, ez13, h⟩ := bd2_e h
      refine r_callV3 (pc' := 32) (k' := 0) (n' := 0) dX9_mend_29 mb_X9_may mi_X9_may hm.o (by decide) rfl lk_X9_49 rfl rfl rfl (Nat.le_of_ble_eq_true rfl) rfl (c_X9_may (b3 := false) hm ez13 (cpI ?_))
      refine r_if_ne (tgt := 37) (pc' := 35) dX9_mend_32 rfl rfl (fun h14 => ?_) (fun h14 => ?_)
      · have h := ifp (zb_p0 h14) h
        refine r_aload_n (pc' := 38) dX9_mend_37 rfl 1 rfl rfl ?_
        obtain ⟨I15, eI15, h⟩ := bd_e h
        refine r_callV0 (pc' := 41) (k' := 0) (n' := 0) dX9_mend_38 mb_X9_remembers mi_X9_remembers hm.o (by decide) rfl lk_X9_481 rfl rfl rfl (Nat.le_of_ble_eq_true rfl) rfl (c_X9_remembers hm eI15 (cpV ?_))
        refine r_aload_n (pc' := 42) dX9_mend_41 rfl 1 rfl rfl ?_
        refine r_iload_n (pc' := 43) dX9_mend_42 rfl 2 rfl rfl ?_
        refine r_iconst (pc' := 44) (v := 2) dX9_mend_43 (by decide) rfl ?_
        refine r_iconst (pc' := 45) (v := 0) dX9_mend_44 (by decide) rfl ?_
        obtain ⟨I16, eI16, h⟩ := bd_e h
        refine r_callV3 (pc' := 48) (k' := 0) (n' := 0) dX9_mend_45 mb_X9_putsWarp mi_X9_putsWarp hm.o (by decide) rfl lk_X9_134 rfl rfl rfl (Nat.le_of_ble_eq_true rfl) rfl (c_X9_putsWarp hm eI16 (cpV ?_))
        refine r_aload_n (pc' := 49) dX9_mend_48 rfl 1 rfl rfl ?_
        obtain ⟨v17, ev17, h⟩ := bd_e h
        refine r_callV0 (pc' := 52) (k' := 0) (n' := 0) dX9_mend_49 mb_X9_brokenOnes mi_X9_brokenOnes hm.o (by decide) rfl lk_X9_421 rfl rfl rfl (Nat.le_of_ble_eq_true rfl) rfl (c_X9_brokenOnes hm ev17 (cpI ?_))
        cases h
        exact r_iret dX9_mend_52 rfl (by decide) (by decide) hQ
      · have h := ifn (zb_n0 h14) h
        refine r_iconst (pc' := 36) (v := 0) dX9_mend_35 (by decide) rfl ?_
        cases h
        exact r_iret dX9_mend_36 rfl (by decide) (by decide) hQ
    · have h := ifp (zb_p0 h11) h
      refine r_iconst (pc' := 25) (v := 1) dX9_mend_24 (by decide) rfl ?_
      refine r_goto (tgt := 29) dX9_mend_25 rfl ?_
      obtain ⟨z19, I18, ez19, h⟩ := bd2_e h
      refine r_callV3 (pc' := 32) (k' := 0) (n' := 0) dX9_mend_29 mb_X9_may mi_X9_may hm.o (by decide) rfl lk_X9_49 rfl rfl rfl (Nat.le_of_ble_eq_true rfl) rfl (c_X9_may (b3 := true) hm ez19 (cpI ?_))
      refine r_if_ne (tgt := 37) (pc' := 35) dX9_mend_32 rfl rfl (fun h20 => ?_) (fun h20 => ?_)
      · have h := ifp (zb_p0 h20) h
        refine r_aload_n (pc' := 38) dX9_mend_37 rfl 1 rfl rfl ?_
        obtain ⟨I21, eI21, h⟩ := bd_e h
        refine r_callV0 (pc' := 41) (k' := 0) (n' := 0) dX9_mend_38 mb_X9_remembers mi_X9_remembers hm.o (by decide) rfl lk_X9_481 rfl rfl rfl (Nat.le_of_ble_eq_true rfl) rfl (c_X9_remembers hm eI21 (cpV ?_))
        refine r_aload_n (pc' := 42) dX9_mend_41 rfl 1 rfl rfl ?_
        refine r_iload_n (pc' := 43) dX9_mend_42 rfl 2 rfl rfl ?_
        refine r_iconst (pc' := 44) (v := 2) dX9_mend_43 (by decide) rfl ?_
        refine r_iconst (pc' := 45) (v := 0) dX9_mend_44 (by decide) rfl ?_
        obtain ⟨I22, eI22, h⟩ := bd_e h
        refine r_callV3 (pc' := 48) (k' := 0) (n' := 0) dX9_mend_45 mb_X9_putsWarp mi_X9_putsWarp hm.o (by decide) rfl lk_X9_134 rfl rfl rfl (Nat.le_of_ble_eq_true rfl) rfl (c_X9_putsWarp hm eI22 (cpV ?_))
        refine r_aload_n (pc' := 49) dX9_mend_48 rfl 1 rfl rfl ?_
        obtain ⟨v23, ev23, h⟩ := bd_e h
        refine r_callV0 (pc' := 52) (k' := 0) (n' := 0) dX9_mend_49 mb_X9_brokenOnes mi_X9_brokenOnes hm.o (by decide) rfl lk_X9_421 rfl rfl rfl (Nat.le_of_ble_eq_true rfl) rfl (c_X9_brokenOnes hm ev23 (cpI ?_))
        cases h
        exact r_iret dX9_mend_52 rfl (by decide) (by decide) hQ
      · have h := ifn (zb_n0 h20) h
        refine r_iconst (pc' := 36) (v := 0) dX9_mend_35 (by decide) rfl ?_
        cases h
        exact r_iret dX9_mend_36 rfl (by decide) (by decide) hQ
set_option maxHeartbeats 4000000 in
theorem fr_X9_mend {I : JI} {m : Nat} {x1 : Int32} {r : Int32} {J : JI} {z : Nat} (h : s_X9_mend I m x1 = some (r, J)) (hz_m1 : z ≠ (m + 1)) (hz_m3 : z ≠ (m + 3)) (hz_m : z ≠ m) : J z = I z := by
  unfold s_X9_mend at h
  obtain ⟨o1, e1, h⟩ := bd_e h
  obtain ⟨g2, h⟩ := gd_e h
  rcases if_e h with h | h
  · obtain ⟨o3, e3, h⟩ := bd_e h
    rcases if_e h with h | h
    · obtain ⟨z19, I18, e4, h⟩ := bd2_e h
      rcases if_e h with h | h
      · obtain ⟨I21, e5, h⟩ := bd_e h
        obtain ⟨I22, e6, h⟩ := bd_e h
        obtain ⟨o7, e7, h⟩ := bd_e h
        cases h
        exact ((fr_X9_putsWarp e6 (by omega)).trans ((fr_X9_remembers e5 (by omega) (by omega)).trans ((fr_X9_may e4 (by omega)).trans rfl)))
      · cases h
        exact ((fr_X9_may e4 (by omega)).trans rfl)
    · obtain ⟨z13, I12, e8, h⟩ := bd2_e h
      rcases if_e h with h | h
      · obtain ⟨I15, e9, h⟩ := bd_e h
        obtain ⟨I16, e10, h⟩ := bd_e h
        obtain ⟨o11, e11, h⟩ := bd_e h
        cases h
        exact ((fr_X9_putsWarp e10 (by omega)).trans ((fr_X9_remembers e9 (by omega) (by omega)).trans ((fr_X9_may e8 (by omega)).trans rfl)))
      · cases h
        exact ((fr_X9_may e8 (by omega)).trans rfl)
  · obtain ⟨z5, I4, e12, h⟩ := bd2_e h
    rcases if_e h with h | h
    · obtain ⟨I7, e13, h⟩ := bd_e h
      obtain ⟨I8, e14, h⟩ := bd_e h
      obtain ⟨o15, e15, h⟩ := bd_e h
      cases h
      exact ((fr_X9_putsWarp e14 (by omega)).trans ((fr_X9_remembers e13 (by omega) (by omega)).trans ((fr_X9_may e12 (by omega)).trans rfl)))
    · cases h
      exact ((fr_X9_may e12 (by omega)).trans rfl)
set_option maxHeartbeats 4000000 in
theorem ff_X9_mend {I : JI} {m : Nat} {x1 : Int32} {r : Int32} {J : JI} {k : Nat} (h : s_X9_mend I m x1 = some (r, J)) (hk0 : k ≠ 0) (hk7 : k ≠ 7) : J m k = I m k := by
  unfold s_X9_mend at h
  obtain ⟨o1, e1, h⟩ := bd_e h
  obtain ⟨g2, h⟩ := gd_e h
  rcases if_e h with h | h
  · obtain ⟨o3, e3, h⟩ := bd_e h
    rcases if_e h with h | h
    · obtain ⟨z19, I18, e4, h⟩ := bd2_e h
      rcases if_e h with h | h
      · obtain ⟨I21, e5, h⟩ := bd_e h
        obtain ⟨I22, e6, h⟩ := bd_e h
        obtain ⟨o7, e7, h⟩ := bd_e h
        cases h
        exact ((congrFun (fr_X9_putsWarp e6 (by omega)) k).trans ((ff_X9_remembers e5 hk7).trans ((ff_X9_may e4 hk0).trans rfl)))
      · cases h
        exact ((ff_X9_may e4 hk0).trans rfl)
    · obtain ⟨z13, I12, e8, h⟩ := bd2_e h
      rcases if_e h with h | h
      · obtain ⟨I15, e9, h⟩ := bd_e h
        obtain ⟨I16, e10, h⟩ := bd_e h
        obtain ⟨o11, e11, h⟩ := bd_e h
        cases h
        exact ((congrFun (fr_X9_putsWarp e10 (by omega)) k).trans ((ff_X9_remembers e9 hk7).trans ((ff_X9_may e8 hk0).trans rfl)))
      · cases h
        exact ((ff_X9_may e8 hk0).trans rfl)
  · obtain ⟨z5, I4, e12, h⟩ := bd2_e h
    rcases if_e h with h | h
    · obtain ⟨I7, e13, h⟩ := bd_e h
      obtain ⟨I8, e14, h⟩ := bd_e h
      obtain ⟨o15, e15, h⟩ := bd_e h
      cases h
      exact ((congrFun (fr_X9_putsWarp e14 (by omega)) k).trans ((ff_X9_remembers e13 hk7).trans ((ff_X9_may e12 hk0).trans rfl)))
    · cases h
      exact ((ff_X9_may e12 hk0).trans rfl)
noncomputable def s_X9_undo (I : JI) (m : Nat) : Option (Int32 × JI) :=
  if (I m 7) ≤ 0 then (bd2 (s_X9_may I m false true true) fun z3 I2 => if z3 = true then (lx (stI I2 m 7 ((I2 m 7) - 1)) fun I5 => bd (s_X9_lays I5 (m + 3) (m + 1) 16240 ((I5 m 7) * 2030) 2030 0) fun I6 => some ((I6 m 7), I6)) else (some (0, I2))) else (bd2 (s_X9_may I m true true true) fun z8 I7 => if z8 = true then (lx (stI I7 m 7 ((I7 m 7) - 1)) fun I10 => bd (s_X9_lays I10 (m + 3) (m + 1) 16240 ((I10 m 7) * 2030) 2030 0) fun I11 => some ((I11 m 7), I11)) else (some (0, I7)))
set_option maxHeartbeats 4000000 in
theorem c_X9_undo {Ω : JO} {I : JI} {S : JS} {Q : JQ} {m : Nat} {r : Int32} {J : JI} (hm : Is9 S m) (h : s_X9_undo I m = some (r, J)) (hQ : Q (.inl (some (.int r))) J S) : Call Ω m_X9_undo [.ref m] I S Q := by
  refine call_of (by decide +kernel) rfl (Nat.le_of_ble_eq_true rfl) ?_
  change AA Ω m_X9_undo (FQ Ω m_X9_undo Q) 0 0 0 [(0, .ref m)] [] I S
  unfold s_X9_undo at h
  refine r_aload_n (pc' := 1) dX9_undo_0 rfl 0 rfl rfl ?_
  refine r_aload_n (pc' := 2) dX9_undo_1 rfl 0 rfl rfl ?_
  refine r_getI (pc' := 5) dX9_undo_2 fa_X9_321 hm.o rfl rfl ?_
  refine r_if_le (tgt := 12) (pc' := 8) dX9_undo_5 rfl rfl (fun h1 => ?_) (fun h1 => ?_)
  · have h := ifp h1 h
    refine r_iconst (pc' := 13) (v := 0) dX9_undo_12 (by decide) rfl ?_
    refine r_iconst (pc' := 14) (v := 1) dX9_undo_13 (by decide) rfl ?_
    refine r_iconst (pc' := 15) (v := 1) dX9_undo_14 (by decide) rfl ?_
    obtain ⟨z3, I2, ez3, h⟩ := bd2_e h
    refine r_callV3 (pc' := 18) (k' := 0) (n' := 0) dX9_undo_15 mb_X9_may mi_X9_may hm.o (by decide) rfl lk_X9_49 rfl rfl rfl (Nat.le_of_ble_eq_true rfl) rfl (c_X9_may (b1 := false) (b2 := true) (b3 := true) hm ez3 (cpI ?_))
    refine r_if_ne (tgt := 23) (pc' := 21) dX9_undo_18 rfl rfl (fun h4 => ?_) (fun h4 => ?_)
    · have h := ifp (zb_p0 h4) h
      refine r_aload_n (pc' := 24) dX9_undo_23 rfl 0 rfl rfl ?_
      refine r_dup (pc' := 25) dX9_undo_24 rfl rfl ?_
      refine r_getI (pc' := 28) dX9_undo_25 fa_X9_321 hm.o rfl rfl ?_
      refine r_iconst (pc' := 29) (v := 1) dX9_undo_28 (by decide) rfl ?_
      refine r_isub (pc' := 30) dX9_undo_29 rfl ?_
      refine r_putI (pc' := 33) dX9_undo_30 fa_X9_321 hm.o rfl rfl ?_
      have h := lx_e h
      refine r_aload_n (pc' := 34) dX9_undo_33 rfl 0 rfl rfl ?_
      refine r_getO (pc' := 37) dX9_undo_34 fa_X9_16 hm.o rfl hm.r3 rfl ?_
      refine r_aload_n (pc' := 38) dX9_undo_37 rfl 0 rfl rfl ?_
      refine r_getI (pc' := 41) dX9_undo_38 fa_X9_321 hm.o rfl rfl ?_
      refine r_sipush (pc' := 44) (v := 2030) dX9_undo_41 (by decide) rfl ?_
      refine r_imul (pc' := 45) dX9_undo_44 rfl ?_
      refine r_aload_n (pc' := 46) dX9_undo_45 rfl 0 rfl rfl ?_
      refine r_getO (pc' := 49) dX9_undo_46 fa_X9_9 hm.o rfl hm.r1 rfl ?_
      refine r_iconst (pc' := 50) (v := 0) dX9_undo_49 (by decide) rfl ?_
      obtain ⟨I6, eI6, h⟩ := bd_e h
      refine r_callS4 (pc' := 53) (k' := 0) (n' := 0) dX9_undo_50 mb_X9_lays ms_X9_lays lk_X9_57 rfl rfl rfl (Nat.le_of_ble_eq_true rfl) rfl (c_X9_lays hm.c3 (by decide) hm.c1 (by decide) eI6 (cpV ?_))
      refine r_aload_n (pc' := 54) dX9_undo_53 rfl 0 rfl rfl ?_
      refine r_getI (pc' := 57) dX9_undo_54 fa_X9_321 hm.o rfl rfl ?_
      cases h
      exact r_iret dX9_undo_57 rfl (by decide) (by decide) hQ
    · have h := ifn (zb_n0 h4) h
      refine r_iconst (pc' := 22) (v := 0) dX9_undo_21 (by decide) rfl ?_
      cases h
      exact r_iret dX9_undo_22 rfl (by decide) (by decide) hQ
  · have h := ifn h1 h
    refine r_iconst (pc' := 9) (v := 1) dX9_undo_8 (by decide) rfl ?_
    refine r_goto (tgt := 13) dX9_undo_9 rfl ?_
    refine r_iconst (pc' := 14) (v := 1) dX9_undo_13 (by decide) rfl ?_
    refine r_iconst (pc' := 15) (v := 1) dX9_undo_14 (by decide) rfl ?_
    obtain ⟨z8, I7, ez8, h⟩ := bd2_e h
    refine r_callV3 (pc' := 18) (k' := 0) (n' := 0) dX9_undo_15 mb_X9_may mi_X9_may hm.o (by decide) rfl lk_X9_49 rfl rfl rfl (Nat.le_of_ble_eq_true rfl) rfl (c_X9_may (b1 := true) (b2 := true) (b3 := true) hm ez8 (cpI ?_))
    refine r_if_ne (tgt := 23) (pc' := 21) dX9_undo_18 rfl rfl (fun h9 => ?_) (fun h9 => ?_)
    · have h := ifp (zb_p0 h9) h
      refine r_aload_n (pc' := 24) dX9_undo_23 rfl 0 rfl rfl ?_
      refine r_dup (pc' := 25) dX9_undo_24 rfl rfl ?_
      refine r_getI (pc' := 28) dX9_undo_25 fa_X9_321 hm.o rfl rfl ?_
      refine r_iconst (pc' := 29) (v := 1) dX9_undo_28 (by decide) rfl ?_
      refine r_isub (pc' := 30) dX9_undo_29 rfl ?_
      refine r_putI (pc' := 33) dX9_undo_30 fa_X9_321 hm.o rfl rfl ?_
      have h := lx_e h
      refine r_aload_n (pc' := 34) dX9_undo_33 rfl 0 rfl rfl ?_
      refine r_getO (pc' := 37) dX9_undo_34 fa_X9_16 hm.o rfl hm.r3 rfl ?_
      refine r_aload_n (pc' := 38) dX9_undo_37 rfl 0 rfl rfl ?_
      refine r_getI (pc' := 41) dX9_undo_38 fa_X9_321 hm.o rfl rfl ?_
      refine r_sipush (pc' := 44) (v := 2030) dX9_undo_41 (by decide) rfl ?_
      refine r_imul (pc' := 45) dX9_undo_44 rfl ?_
      refine r_aload_n (pc' := 46) dX9_undo_45 rfl 0 rfl rfl ?_
      refine r_getO (pc' := 49) dX9_undo_46 fa_X9_9 hm.o rfl hm.r1 rfl ?_
      refine r_iconst (pc' := 50) (v := 0) dX9_undo_49 (by decide) rfl ?_
      obtain ⟨I11, eI11, h⟩ := bd_e h
      refine r_callS4 (pc' := 53) (k' := 0) (n' := 0) dX9_undo_50 mb_X9_lays ms_X9_lays lk_X9_57 rfl rfl rfl (Nat.le_of_ble_eq_true rfl) rfl (c_X9_lays hm.c3 (by decide) hm.c1 (by decide) eI11 (cpV ?_))
      refine r_aload_n (pc' := 54) dX9_undo_53 rfl 0 rfl rfl ?_
      refine r_getI (pc' := 57) dX9_undo_54 fa_X9_321 hm.o rfl rfl ?_
      cases h
      exact r_iret dX9_undo_57 rfl (by decide) (by decide) hQ
    · have h := ifn (zb_n0 h9) h
      refine r_iconst (pc' := 22) (v := 0) dX9_undo_21 (by decide) rfl ?_
      cases h
      exact r_iret dX9_undo_22 rfl (by decide) (by decide) hQ
set_option maxHeartbeats 4000000 in
theorem fr_X9_undo {I : JI} {m : Nat} {r : Int32} {J : JI} {z : Nat} (h : s_X9_undo I m = some (r, J)) (hz_m1 : z ≠ (m + 1)) (hz_m : z ≠ m) : J z = I z := by
  unfold s_X9_undo at h
  rcases if_e h with h | h
  · obtain ⟨z3, I2, e1, h⟩ := bd2_e h
    rcases if_e h with h | h
    · have h := lx_e h
      obtain ⟨I6, e2, h⟩ := bd_e h
      cases h
      exact ((fr_X9_lays e2 (by omega)).trans ((fr_stI (by omega)).trans ((fr_X9_may e1 (by omega)).trans rfl)))
    · cases h
      exact ((fr_X9_may e1 (by omega)).trans rfl)
  · obtain ⟨z8, I7, e3, h⟩ := bd2_e h
    rcases if_e h with h | h
    · have h := lx_e h
      obtain ⟨I11, e4, h⟩ := bd_e h
      cases h
      exact ((fr_X9_lays e4 (by omega)).trans ((fr_stI (by omega)).trans ((fr_X9_may e3 (by omega)).trans rfl)))
    · cases h
      exact ((fr_X9_may e3 (by omega)).trans rfl)
set_option maxHeartbeats 4000000 in
theorem ff_X9_undo {I : JI} {m : Nat} {r : Int32} {J : JI} {k : Nat} (h : s_X9_undo I m = some (r, J)) (hk0 : k ≠ 0) (hk7 : k ≠ 7) : J m k = I m k := by
  unfold s_X9_undo at h
  rcases if_e h with h | h
  · obtain ⟨z3, I2, e1, h⟩ := bd2_e h
    rcases if_e h with h | h
    · have h := lx_e h
      obtain ⟨I6, e2, h⟩ := bd_e h
      cases h
      exact ((congrFun (fr_X9_lays e2 (by omega)) k).trans ((ff_stI hk7).trans ((ff_X9_may e1 hk0).trans rfl)))
    · cases h
      exact ((ff_X9_may e1 hk0).trans rfl)
  · obtain ⟨z8, I7, e3, h⟩ := bd2_e h
    rcases if_e h with h | h
    · have h := lx_e h
      obtain ⟨I11, e4, h⟩ := bd_e h
      cases h
      exact ((congrFun (fr_X9_lays e4 (by omega)) k).trans ((ff_stI hk7).trans ((ff_X9_may e3 hk0).trans rfl)))
    · cases h
      exact ((ff_X9_may e3 hk0).trans rfl)
noncomputable def s_X9_undoCount (I : JI) (m : Nat) : Option (Int32 × JI) :=
  bd2 (s_X9_told I m (I m 7)) fun v2 I1 => some (v2, I1)
set_option maxHeartbeats 4000000 in
theorem c_X9_undoCount {Ω : JO} {I : JI} {S : JS} {Q : JQ} {m : Nat} {r : Int32} {J : JI} (hm : Is9 S m) (h : s_X9_undoCount I m = some (r, J)) (hQ : Q (.inl (some (.int r))) J S) : Call Ω m_X9_undoCount [.ref m] I S Q := by
  refine call_of (by decide +kernel) rfl (Nat.le_of_ble_eq_true rfl) ?_
  change AA Ω m_X9_undoCount (FQ Ω m_X9_undoCount Q) 0 0 0 [(0, .ref m)] [] I S
  unfold s_X9_undoCount at h
  refine r_aload_n (pc' := 1) dX9_undoCount_0 rfl 0 rfl rfl ?_
  refine r_aload_n (pc' := 2) dX9_undoCount_1 rfl 0 rfl rfl ?_
  refine r_getI (pc' := 5) dX9_undoCount_2 fa_X9_321 hm.o rfl rfl ?_
  obtain ⟨v2, I1, ev2, h⟩ := bd2_e h
  refine r_callV1 (pc' := 8) (k' := 0) (n' := 0) dX9_undoCount_5 mb_X9_told mi_X9_told hm.o (by decide) rfl lk_X9_71 rfl rfl rfl (Nat.le_of_ble_eq_true rfl) rfl (c_X9_told hm ev2 (cpI ?_))
  cases h
  exact r_iret dX9_undoCount_8 rfl (by decide) (by decide) hQ
set_option maxHeartbeats 4000000 in
theorem fr_X9_undoCount {I : JI} {m : Nat} {r : Int32} {J : JI} {z : Nat} (h : s_X9_undoCount I m = some (r, J)) (hz_m : z ≠ m) : J z = I z := by
  unfold s_X9_undoCount at h
  obtain ⟨v2, I1, e1, h⟩ := bd2_e h
  cases h
  exact ((fr_X9_told e1 (by omega)).trans rfl)
set_option maxHeartbeats 4000000 in
theorem ff_X9_undoCount {I : JI} {m : Nat} {r : Int32} {J : JI} {k : Nat} (h : s_X9_undoCount I m = some (r, J)) (hk0 : k ≠ 0) : J m k = I m k := by
  unfold s_X9_undoCount at h
  obtain ⟨v2, I1, e1, h⟩ := bd2_e h
  cases h
  exact ((ff_X9_told e1 hk0).trans rfl)
noncomputable def s_X9_isSlot (x0 : Int32) : Bool :=
  (s_X9_in x0 0 1)
set_option maxHeartbeats 4000000 in
theorem c_X9_isSlot {Ω : JO} {I : JI} {S : JS} {Q : JQ} {x0 : Int32} {r : Bool} (h : s_X9_isSlot x0 = r) (hQ : Q (.inl (some (.int (zb r)))) I S) : Call Ω m_X9_isSlot [.int x0] I S Q := by
  refine call_of (by decide +kernel) rfl (Nat.le_of_ble_eq_true rfl) ?_
  change AA Ω m_X9_isSlot (FQ Ω m_X9_isSlot Q) 0 0 0 [(0, .int x0)] [] I S
  unfold s_X9_isSlot at h
  refine r_iload_n (pc' := 1) dX9_isSlot_0 rfl 0 rfl rfl ?_
  refine r_iconst (pc' := 2) (v := 0) dX9_isSlot_1 (by decide) rfl ?_
  refine r_iconst (pc' := 3) (v := 1) dX9_isSlot_2 (by decide) rfl ?_
  refine r_callS3 (pc' := 6) (k' := 0) (n' := 0) dX9_isSlot_3 mb_X9_in ms_X9_in lk_X9_78 rfl rfl rfl (Nat.le_of_ble_eq_true rfl) rfl (c_X9_in rfl (cpI ?_))
  subst h
  exact r_zret dX9_isSlot_6 rfl (zb01 _) (by decide) (by decide) hQ
noncomputable def s_X9_saveState (I : JI) (m : Nat) (x1 : Int32) : Option (Int32 × JI) :=
  gd ((I m 6) = 0 ∨ (I m 6) = 1) <| bd2 (s_X9_mayTwo I m (nz (I m 6)) (s_X9_isSlot x1)) fun z3 I2 => if z3 = true then (bd (s_X9_lays I2 (m + 1) (m + 4) 2030 0 4060 (x1 * 2030)) fun I5 => gd (vp_in x1 2) <| lx (stI I5 (m + 5) (Int32.toNatClampNeg x1) (vp_nar .boolean 1)) fun I7 => gd (vp_in 5 2030) <| some ((I7 (m + 1) (Int32.toNatClampNeg 5)), I7)) else (some (0, I2))
set_option maxHeartbeats 4000000 in
theorem c_X9_saveState {Ω : JO} {I : JI} {S : JS} {Q : JQ} {m : Nat} {x1 : Int32} {r : Int32} {J : JI} (hm : Is9 S m) (h : s_X9_saveState I m x1 = some (r, J)) (hQ : Q (.inl (some (.int r))) J S) : Call Ω m_X9_saveState [.ref m, .int x1] I S Q := by
  refine call_of (by decide +kernel) rfl (Nat.le_of_ble_eq_true rfl) ?_
  change AA Ω m_X9_saveState (FQ Ω m_X9_saveState Q) 0 0 0 [(0, .ref m), (1, .int x1)] [] I S
  unfold s_X9_saveState at h
  refine r_aload_n (pc' := 1) dX9_saveState_0 rfl 0 rfl rfl ?_
  refine r_aload_n (pc' := 2) dX9_saveState_1 rfl 0 rfl rfl ?_
  obtain ⟨g1, h⟩ := gd_e h
  refine r_getZ (pc' := 5) dX9_saveState_2 fa_X9_53 hm.o rfl g1 rfl ?_
  refine r_iload_n (pc' := 6) dX9_saveState_5 rfl 1 rfl rfl ?_
  refine r_callS1 (pc' := 9) (k' := 0) (n' := 0) dX9_saveState_6 mb_X9_isSlot ms_X9_isSlot lk_X9_484 rfl rfl rfl (Nat.le_of_ble_eq_true rfl) rfl (c_X9_isSlot rfl (cpI ?_))
  obtain ⟨z3, I2, ez3, h⟩ := bd2_e h
  refine r_callV2 (pc' := 12) (k' := 0) (n' := 0) dX9_saveState_9 mb_X9_mayTwo mi_X9_mayTwo hm.o (by decide) rfl lk_X9_393 rfl rfl rfl (Nat.le_of_ble_eq_true rfl) rfl (c_X9_mayTwo hm ez3 (cpI ?_))
  refine r_if_ne (tgt := 17) (pc' := 15) dX9_saveState_12 rfl rfl (fun h4 => ?_) (fun h4 => ?_)
  · have h := ifp (zb_p0 h4) h
    refine r_aload_n (pc' := 18) dX9_saveState_17 rfl 0 rfl rfl ?_
    refine r_getO (pc' := 21) dX9_saveState_18 fa_X9_9 hm.o rfl hm.r1 rfl ?_
    refine r_iconst (pc' := 22) (v := 0) dX9_saveState_21 (by decide) rfl ?_
    refine r_aload_n (pc' := 23) dX9_saveState_22 rfl 0 rfl rfl ?_
    refine r_getO (pc' := 26) dX9_saveState_23 fa_X9_19 hm.o rfl hm.r4 rfl ?_
    refine r_iload_n (pc' := 27) dX9_saveState_26 rfl 1 rfl rfl ?_
    refine r_sipush (pc' := 30) (v := 2030) dX9_saveState_27 (by decide) rfl ?_
    refine r_imul (pc' := 31) dX9_saveState_30 rfl ?_
    obtain ⟨I5, eI5, h⟩ := bd_e h
    refine r_callS4 (pc' := 34) (k' := 0) (n' := 0) dX9_saveState_31 mb_X9_lays ms_X9_lays lk_X9_57 rfl rfl rfl (Nat.le_of_ble_eq_true rfl) rfl (c_X9_lays hm.c1 (by decide) hm.c4 (by decide) eI5 (cpV ?_))
    refine r_aload_n (pc' := 35) dX9_saveState_34 rfl 0 rfl rfl ?_
    refine r_getO (pc' := 38) dX9_saveState_35 fa_X9_22 hm.o rfl hm.r5 rfl ?_
    refine r_iload_n (pc' := 39) dX9_saveState_38 rfl 1 rfl rfl ?_
    refine r_iconst (pc' := 40) (v := 1) dX9_saveState_39 (by decide) rfl ?_
    obtain ⟨g6, h⟩ := gd_e h
    refine r_zastore (pc' := 41) dX9_saveState_40 hm.c5 g6 rfl ?_
    have h := lx_e h
    refine r_aload_n (pc' := 42) dX9_saveState_41 rfl 0 rfl rfl ?_
    refine r_getO (pc' := 45) dX9_saveState_42 fa_X9_9 hm.o rfl hm.r1 rfl ?_
    refine r_iconst (pc' := 46) (v := 5) dX9_saveState_45 (by decide) rfl ?_
    obtain ⟨g8, h⟩ := gd_e h
    refine r_iaload (pc' := 47) dX9_saveState_46 hm.c1 g8 rfl ?_
    cases h
    exact r_iret dX9_saveState_47 rfl (by decide) (by decide) hQ
  · have h := ifn (zb_n0 h4) h
    refine r_iconst (pc' := 16) (v := 0) dX9_saveState_15 (by decide) rfl ?_
    cases h
    exact r_iret dX9_saveState_16 rfl (by decide) (by decide) hQ
set_option maxHeartbeats 4000000 in
theorem fr_X9_saveState {I : JI} {m : Nat} {x1 : Int32} {r : Int32} {J : JI} {z : Nat} (h : s_X9_saveState I m x1 = some (r, J)) (hz_m4 : z ≠ (m + 4)) (hz_m5 : z ≠ (m + 5)) (hz_m : z ≠ m) : J z = I z := by
  unfold s_X9_saveState at h
  obtain ⟨g1, h⟩ := gd_e h
  obtain ⟨z3, I2, e2, h⟩ := bd2_e h
  rcases if_e h with h | h
  · obtain ⟨I5, e3, h⟩ := bd_e h
    obtain ⟨g4, h⟩ := gd_e h
    have h := lx_e h
    obtain ⟨g5, h⟩ := gd_e h
    cases h
    exact ((fr_stI (by omega)).trans ((fr_X9_lays e3 (by omega)).trans ((fr_X9_mayTwo e2 (by omega)).trans rfl)))
  · cases h
    exact ((fr_X9_mayTwo e2 (by omega)).trans rfl)
set_option maxHeartbeats 4000000 in
theorem ff_X9_saveState {I : JI} {m : Nat} {x1 : Int32} {r : Int32} {J : JI} {k : Nat} (h : s_X9_saveState I m x1 = some (r, J)) (hk0 : k ≠ 0) : J m k = I m k := by
  unfold s_X9_saveState at h
  obtain ⟨g1, h⟩ := gd_e h
  obtain ⟨z3, I2, e2, h⟩ := bd2_e h
  rcases if_e h with h | h
  · obtain ⟨I5, e3, h⟩ := bd_e h
    obtain ⟨g4, h⟩ := gd_e h
    have h := lx_e h
    obtain ⟨g5, h⟩ := gd_e h
    cases h
    exact ((congrFun (fr_stI (by omega)) k).trans ((congrFun (fr_X9_lays e3 (by omega)) k).trans ((ff_X9_mayTwo e2 hk0).trans rfl)))
  · cases h
    exact ((ff_X9_mayTwo e2 hk0).trans rfl)
noncomputable def s_X9_restoreState (I : JI) (m : Nat) (x1 : Int32) : Option (Int32 × JI) :=
  if (s_X9_isSlot x1) = true then (gd (vp_in x1 2) <| gd ((I (m + 5) (Int32.toNatClampNeg x1)) = 0 ∨ (I (m + 5) (Int32.toNatClampNeg x1)) = 1) <| if (nz (I (m + 5) (Int32.toNatClampNeg x1))) = true then (bd2 (s_X9_mayTwo I m (s_X9_isSlot x1) true) fun z18 I17 => if z18 = true then (bd (s_X9_lays I17 (m + 4) (m + 1) 4060 (x1 * 2030) 2030 0) fun I20 => lx (stI I20 m 7 0) fun I21 => gd (vp_in 5 2030) <| some ((I21 (m + 1) (Int32.toNatClampNeg 5)), I21)) else (some (0, I17))) else (bd2 (s_X9_mayTwo I m (s_X9_isSlot x1) false) fun z12 I11 => if z12 = true then (bd (s_X9_lays I11 (m + 4) (m + 1) 4060 (x1 * 2030) 2030 0) fun I14 => lx (stI I14 m 7 0) fun I15 => gd (vp_in 5 2030) <| some ((I15 (m + 1) (Int32.toNatClampNeg 5)), I15)) else (some (0, I11)))) else (bd2 (s_X9_mayTwo I m (s_X9_isSlot x1) false) fun z3 I2 => if z3 = true then (bd (s_X9_lays I2 (m + 4) (m + 1) 4060 (x1 * 2030) 2030 0) fun I5 => lx (stI I5 m 7 0) fun I6 => gd (vp_in 5 2030) <| some ((I6 (m + 1) (Int32.toNatClampNeg 5)), I6)) else (some (0, I2)))
set_option maxHeartbeats 4000000 in
theorem c_X9_restoreState {Ω : JO} {I : JI} {S : JS} {Q : JQ} {m : Nat} {x1 : Int32} {r : Int32} {J : JI} (hm : Is9 S m) (h : s_X9_restoreState I m x1 = some (r, J)) (hQ : Q (.inl (some (.int r))) J S) : Call Ω m_X9_restoreState [.ref m, .int x1] I S Q := by
  refine call_of (by decide +kernel) rfl (Nat.le_of_ble_eq_true rfl) ?_
  change AA Ω m_X9_restoreState (FQ Ω m_X9_restoreState Q) 0 0 0 [(0, .ref m), (1, .int x1)] [] I S
  unfold s_X9_restoreState at h
  refine r_iload_n (pc' := 1) dX9_restoreState_0 rfl 1 rfl rfl ?_
  refine r_callS1 (pc' := 4) (k' := 0) (n' := 0) dX9_restoreState_1 mb_X9_isSlot ms_X9_isSlot lk_X9_484 rfl rfl rfl (Nat.le_of_ble_eq_true rfl) rfl (c_X9_isSlot rfl (cpI ?_))
  refine r_istore_n (pc' := 5) (lv' := [(2, _), (0, _), (1, _)]) dX9_restoreState_4 rfl (by decide) rfl rfl ?_
  refine r_aload_n (pc' := 6) dX9_restoreState_5 rfl 1 rfl rfl ?_
  refine r_iload_n (pc' := 7) dX9_restoreState_6 rfl 0 rfl rfl ?_
  refine r_iload_n (pc' := 8) dX9_restoreState_7 rfl 0 rfl rfl ?_
  refine r_if_eq (tgt := 24) (pc' := 11) dX9_restoreState_8 rfl rfl (fun h1 => ?_) (fun h1 => ?_)
  · have h := ifn (zb_n0 h1) h
    refine r_iconst (pc' := 25) (v := 0) dX9_restoreState_24 (by decide) rfl ?_
    obtain ⟨z3, I2, ez3, h⟩ := bd2_e h
    refine r_callV2 (pc' := 28) (k' := 0) (n' := 0) dX9_restoreState_25 mb_X9_mayTwo mi_X9_mayTwo hm.o (by decide) rfl lk_X9_393 rfl rfl rfl (Nat.le_of_ble_eq_true rfl) rfl (c_X9_mayTwo (b2 := false) hm ez3 (cpI ?_))
    refine r_if_ne (tgt := 33) (pc' := 31) dX9_restoreState_28 rfl rfl (fun h4 => ?_) (fun h4 => ?_)
    · have h := ifp (zb_p0 h4) h
      refine r_aload_n (pc' := 34) dX9_restoreState_33 rfl 1 rfl rfl ?_
      refine r_getO (pc' := 37) dX9_restoreState_34 fa_X9_19 hm.o rfl hm.r4 rfl ?_
      refine r_iload_n (pc' := 38) dX9_restoreState_37 rfl 2 rfl rfl ?_
      refine r_sipush (pc' := 41) (v := 2030) dX9_restoreState_38 (by decide) rfl ?_
      refine r_imul (pc' := 42) dX9_restoreState_41 rfl ?_
      refine r_aload_n (pc' := 43) dX9_restoreState_42 rfl 1 rfl rfl ?_
      refine r_getO (pc' := 46) dX9_restoreState_43 fa_X9_9 hm.o rfl hm.r1 rfl ?_
      refine r_iconst (pc' := 47) (v := 0) dX9_restoreState_46 (by decide) rfl ?_
      obtain ⟨I5, eI5, h⟩ := bd_e h
      refine r_callS4 (pc' := 50) (k' := 0) (n' := 0) dX9_restoreState_47 mb_X9_lays ms_X9_lays lk_X9_57 rfl rfl rfl (Nat.le_of_ble_eq_true rfl) rfl (c_X9_lays hm.c4 (by decide) hm.c1 (by decide) eI5 (cpV ?_))
      refine r_aload_n (pc' := 51) dX9_restoreState_50 rfl 1 rfl rfl ?_
      refine r_iconst (pc' := 52) (v := 0) dX9_restoreState_51 (by decide) rfl ?_
      refine r_putI (pc' := 55) dX9_restoreState_52 fa_X9_321 hm.o rfl rfl ?_
      have h := lx_e h
      refine r_aload_n (pc' := 56) dX9_restoreState_55 rfl 1 rfl rfl ?_
      refine r_getO (pc' := 59) dX9_restoreState_56 fa_X9_9 hm.o rfl hm.r1 rfl ?_
      refine r_iconst (pc' := 60) (v := 5) dX9_restoreState_59 (by decide) rfl ?_
      obtain ⟨g7, h⟩ := gd_e h
      refine r_iaload (pc' := 61) dX9_restoreState_60 hm.c1 g7 rfl ?_
      cases h
      exact r_iret dX9_restoreState_61 rfl (by decide) (by decide) hQ
    · have h := ifn (zb_n0 h4) h
      refine r_iconst (pc' := 32) (v := 0) dX9_restoreState_31 (by decide) rfl ?_
      cases h
      exact r_iret dX9_restoreState_32 rfl (by decide) (by decide) hQ
  · have h := ifp (zb_p0 h1) h
    refine r_aload_n (pc' := 12) dX9_restoreState_11 rfl 1 rfl rfl ?_
    refine r_getO (pc' := 15) dX9_restoreState_12 fa_X9_22 hm.o rfl hm.r5 rfl ?_
    refine r_iload_n (pc' := 16) dX9_restoreState_15 rfl 2 rfl rfl ?_
    obtain ⟨g8, h⟩ := gd_e h
    obtain ⟨g9, h⟩ := gd_e h
    refine r_zaloadZ (pc' := 17) dX9_restoreState_16 hm.c5 g8 g9 rfl ?_
    refine r_if_eq (tgt := 24) (pc' := 20) dX9_restoreState_17 rfl rfl (fun h10 => ?_) (fun h10 => ?_)
    · have h := ifn (zb_n0 h10) h
      refine r_iconst (pc' := 25) (v := 0) dX9_restoreState_24 (by decide) rfl ?_
      obtain ⟨z12, I11, ez12, h⟩ := bd2_e h
      refine r_callV2 (pc' := 28) (k' := 0) (n' := 0) dX9_restoreState_25 mb_X9_mayTwo mi_X9_mayTwo hm.o (by decide) rfl lk_X9_393 rfl rfl rfl (Nat.le_of_ble_eq_true rfl) rfl (c_X9_mayTwo (b2 := false) hm ez12 (cpI ?_))
      refine r_if_ne (tgt := 33) (pc' := 31) dX9_restoreState_28 rfl rfl (fun h13 => ?_) (fun h13 => ?_)
      · have h := ifp (zb_p0 h13) h
        refine r_aload_n (pc' := 34) dX9_restoreState_33 rfl 1 rfl rfl ?_
        refine r_getO (pc' := 37) dX9_restoreState_34 fa_X9_19 hm.o rfl hm.r4 rfl ?_
        refine r_iload_n (pc' := 38) dX9_restoreState_37 rfl 2 rfl rfl ?_
        refine r_sipush (pc' := 41) (v := 2030) dX9_restoreState_38 (by decide) rfl ?_
        refine r_imul (pc' := 42) dX9_restoreState_41 rfl ?_
        refine r_aload_n (pc' := 43) dX9_restoreState_42 rfl 1 rfl rfl ?_
        refine r_getO (pc' := 46) dX9_restoreState_43 fa_X9_9 hm.o rfl hm.r1 rfl ?_
        refine r_iconst (pc' := 47) (v := 0) dX9_restoreState_46 (by decide) rfl ?_
        obtain ⟨I14, eI14, h⟩ := bd_e h
        refine r_callS4 (pc' := 50) (k' := 0) (n' := 0) dX9_restoreState_47 mb_X9_lays ms_X9_lays lk_X9_57 rfl rfl rfl (Nat.le_of_ble_eq_true rfl) rfl (c_X9_lays hm.c4 (by decide) hm.c1 (by decide) eI14 (cpV ?_))
        refine r_aload_n (pc' := 51) dX9_restoreState_50 rfl 1 rfl rfl ?_
        refine r_iconst (pc' := 52) (v := 0) dX9_restoreState_51 (by decide) rfl ?_
        refine r_putI (pc' := 55) dX9_restoreState_52 fa_X9_321 hm.o rfl rfl ?_
        have h := lx_e h
        refine r_aload_n (pc' := 56) dX9_restoreState_55 rfl 1 rfl rfl ?_
        refine r_getO (pc' := 59) dX9_restoreState_56 fa_X9_9 hm.o rfl hm.r1 rfl ?_
        refine r_iconst (pc' := 60) (v := 5) dX9_restoreState_59 (by decide) rfl ?_
        obtain ⟨g16, h⟩ := gd_e h
        refine r_iaload (pc' := 61) dX9_restoreState_60 hm.c1 g16 rfl ?_
        cases h
        exact r_iret dX9_restoreState_61 rfl (by decide) (by decide) hQ
      · have h := ifn (zb_n0 h13) h
        refine r_iconst (pc' := 32) (v := 0) dX9_restoreState_31 (by decide) rfl ?_
        cases h
        exact r_iret dX9_restoreState_32 rfl (by decide) (by decide) hQ
    · have h := ifp (zb_p0 h10) h
      refine r_iconst (pc' := 21) (v := 1) dX9_restoreState_20 (by decide) rfl ?_
      refine r_goto (tgt := 25) dX9_restoreState_21 rfl ?_
      obtain ⟨z18, I17, ez18, h⟩ := bd2_e h
      refine r_callV2 (pc' := 28) (k' := 0) (n' := 0) dX9_restoreState_25 mb_X9_mayTwo mi_X9_mayTwo hm.o (by decide) rfl lk_X9_393 rfl rfl rfl (Nat.le_of_ble_eq_true rfl) rfl (c_X9_mayTwo (b2 := true) hm ez18 (cpI ?_))
      refine r_if_ne (tgt := 33) (pc' := 31) dX9_restoreState_28 rfl rfl (fun h19 => ?_) (fun h19 => ?_)
      · have h := ifp (zb_p0 h19) h
        refine r_aload_n (pc' := 34) dX9_restoreState_33 rfl 1 rfl rfl ?_
        refine r_getO (pc' := 37) dX9_restoreState_34 fa_X9_19 hm.o rfl hm.r4 rfl ?_
        refine r_iload_n (pc' := 38) dX9_restoreState_37 rfl 2 rfl rfl ?_
        refine r_sipush (pc' := 41) (v := 2030) dX9_restoreState_38 (by decide) rfl ?_
        refine r_imul (pc' := 42) dX9_restoreState_41 rfl ?_
        refine r_aload_n (pc' := 43) dX9_restoreState_42 rfl 1 rfl rfl ?_
        refine r_getO (pc' := 46) dX9_restoreState_43 fa_X9_9 hm.o rfl hm.r1 rfl ?_
        refine r_iconst (pc' := 47) (v := 0) dX9_restoreState_46 (by decide) rfl ?_
        obtain ⟨I20, eI20, h⟩ := bd_e h
        refine r_callS4 (pc' := 50) (k' := 0) (n' := 0) dX9_restoreState_47 mb_X9_lays ms_X9_lays lk_X9_57 rfl rfl rfl (Nat.le_of_ble_eq_true rfl) rfl (c_X9_lays hm.c4 (by decide) hm.c1 (by decide) eI20 (cpV ?_))
        refine r_aload_n (pc' := 51) dX9_restoreState_50 rfl 1 rfl rfl ?_
        refine r_iconst (pc' := 52) (v := 0) dX9_restoreState_51 (by decide) rfl ?_
        refine r_putI (pc' := 55) dX9_restoreState_52 fa_X9_321 hm.o rfl rfl ?_
        have h := lx_e h
        refine r_aload_n (pc' := 56) dX9_restoreState_55 rfl 1 rfl rfl ?_
        refine r_getO (pc' := 59) dX9_restoreState_56 fa_X9_9 hm.o rfl hm.r1 rfl ?_
        refine r_iconst (pc' := 60) (v := 5) dX9_restoreState_59 (by decide) rfl ?_
        obtain ⟨g22, h⟩ := gd_e h
        refine r_iaload (pc' := 61) dX9_restoreState_60 hm.c1 g22 rfl ?_
        cases h
        exact r_iret dX9_restoreState_61 rfl (by decide) (by decide) hQ
      · have h := ifn (zb_n0 h19) h
        refine r_iconst (pc' := 32) (v := 0) dX9_restoreState_31 (by decide) rfl ?_
        cases h
        exact r_iret dX9_restoreState_32 rfl (by decide) (by decide) hQ
set_option maxHeartbeats 4000000 in
theorem fr_X9_restoreState {I : JI} {m : Nat} {x1 : Int32} {r : Int32} {J : JI} {z : Nat} (h : s_X9_restoreState I m x1 = some (r, J)) (hz_m1 : z ≠ (m + 1)) (hz_m : z ≠ m) : J z = I z := by
  unfold s_X9_restoreState at h
  rcases if_e h with h | h
  · obtain ⟨g1, h⟩ := gd_e h
    obtain ⟨g2, h⟩ := gd_e h
    rcases if_e h with h | h
    · obtain ⟨z18, I17, e3, h⟩ := bd2_e h
      rcases if_e h with h | h
      · obtain ⟨I20, e4, h⟩ := bd_e h
        have h := lx_e h
        obtain ⟨g5, h⟩ := gd_e h
        cases h
        exact ((fr_stI (by omega)).trans ((fr_X9_lays e4 (by omega)).trans ((fr_X9_mayTwo e3 (by omega)).trans rfl)))
      · cases h
        exact ((fr_X9_mayTwo e3 (by omega)).trans rfl)
    · obtain ⟨z12, I11, e6, h⟩ := bd2_e h
      rcases if_e h with h | h
      · obtain ⟨I14, e7, h⟩ := bd_e h
        have h := lx_e h
        obtain ⟨g8, h⟩ := gd_e h
        cases h
        exact ((fr_stI (by omega)).trans ((fr_X9_lays e7 (by omega)).trans ((fr_X9_mayTwo e6 (by omega)).trans rfl)))
      · cases h
        exact ((fr_X9_mayTwo e6 (by omega)).trans rfl)
  · obtain ⟨z3, I2, e9, h⟩ := bd2_e h
    rcases if_e h with h | h
    · obtain ⟨I5, e10, h⟩ := bd_e h
      have h := lx_e h
      obtain ⟨g11, h⟩ := gd_e h
      cases h
      exact ((fr_stI (by omega)).trans ((fr_X9_lays e10 (by omega)).trans ((fr_X9_mayTwo e9 (by omega)).trans rfl)))
    · cases h
      exact ((fr_X9_mayTwo e9 (by omega)).trans rfl)
set_option maxHeartbeats 4000000 in
theorem ff_X9_restoreState {I : JI} {m : Nat} {x1 : Int32} {r : Int32} {J : JI} {k : Nat} (h : s_X9_restoreState I m x1 = some (r, J)) (hk0 : k ≠ 0) (hk7 : k ≠ 7) : J m k = I m k := by
  unfold s_X9_restoreState at h
  rcases if_e h with h | h
  · obtain ⟨g1, h⟩ := gd_e h
    obtain ⟨g2, h⟩ := gd_e h
    rcases if_e h with h | h
    · obtain ⟨z18, I17, e3, h⟩ := bd2_e h
      rcases if_e h with h | h
      · obtain ⟨I20, e4, h⟩ := bd_e h
        have h := lx_e h
        obtain ⟨g5, h⟩ := gd_e h
        cases h
        exact ((ff_stI hk7).trans ((congrFun (fr_X9_lays e4 (by omega)) k).trans ((ff_X9_mayTwo e3 hk0).trans rfl)))
      · cases h
        exact ((ff_X9_mayTwo e3 hk0).trans rfl)
    · obtain ⟨z12, I11, e6, h⟩ := bd2_e h
      rcases if_e h with h | h
      · obtain ⟨I14, e7, h⟩ := bd_e h
        have h := lx_e h
        obtain ⟨g8, h⟩ := gd_e h
        cases h
        exact ((ff_stI hk7).trans ((congrFun (fr_X9_lays e7 (by omega)) k).trans ((ff_X9_mayTwo e6 hk0).trans rfl)))
      · cases h
        exact ((ff_X9_mayTwo e6 hk0).trans rfl)
  · obtain ⟨z3, I2, e9, h⟩ := bd2_e h
    rcases if_e h with h | h
    · obtain ⟨I5, e10, h⟩ := bd_e h
      have h := lx_e h
      obtain ⟨g11, h⟩ := gd_e h
      cases h
      exact ((ff_stI hk7).trans ((congrFun (fr_X9_lays e10 (by omega)) k).trans ((ff_X9_mayTwo e9 hk0).trans rfl)))
    · cases h
      exact ((ff_X9_mayTwo e9 hk0).trans rfl)
