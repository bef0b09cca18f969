noncomputable def s_X5_fail (I : JI) (p P : Nat) (x1 : Int32) : Option (Bool × JI) :=
  lx (stI I p 2 x1) fun I1 => lx (stI I1 p 3 (I1 (p + 1) 5)) fun I2 => some (false, I2)
set_option maxHeartbeats 4000000 in
theorem c_X5_fail {Ω : JO} {I : JI} {S : JS} {Q : JQ} {p : Nat} {P : Nat} {x1 : Int32} {r : Bool} {J : JI} (hp : Is5 S p P) (h : s_X5_fail I p P x1 = some (r, J)) (hQ : Q (.inl (some (.int (zb r)))) J S) : Call Ω m_X5_fail [.ref p, .int x1] I S Q := by
  refine call_of (by decide +kernel) rfl (Nat.le_of_ble_eq_true rfl) ?_
  change AA Ω m_X5_fail (FQ Ω m_X5_fail Q) 0 0 0 [(0, .ref p), (1, .int x1)] [] I S
  unfold s_X5_fail at h
  refine r_aload_n (pc' := 1) dX5_fail_0 rfl 0 rfl rfl ?_
  refine r_iload_n (pc' := 2) dX5_fail_1 rfl 1 rfl rfl ?_
  refine r_putI (pc' := 5) dX5_fail_2 fa_X5_25 hp.o rfl rfl ?_
  have h := lx_e h
  refine r_aload_n (pc' := 6) dX5_fail_5 rfl 0 rfl rfl ?_
  refine r_aload_n (pc' := 7) dX5_fail_6 rfl 0 rfl rfl ?_
  refine r_getO (pc' := 10) dX5_fail_7 fa_X5_12 hp.o rfl hp.r0 rfl ?_
  refine r_getI (pc' := 13) dX5_fail_10 fa_X5_65 hp.c0.o rfl rfl ?_
  refine r_putI (pc' := 16) dX5_fail_13 fa_X5_29 hp.o rfl rfl ?_
  have h := lx_e h
  refine r_iconst (pc' := 17) (v := 0) dX5_fail_16 (by decide) rfl ?_
  cases h
  exact r_zret dX5_fail_17 rfl (by decide) (by decide) (by decide) hQ
set_option maxHeartbeats 4000000 in
theorem fr_X5_fail {I : JI} {p : Nat} {P : Nat} {x1 : Int32} {r : Bool} {J : JI} {z : Nat} (h : s_X5_fail I p P x1 = some (r, J)) (hzp : z < p ∨ p + 2 ≤ z) (hzP : z < P ∨ P + 24 ≤ z) : J z = I z := by
  unfold s_X5_fail at h
  have h := lx_e h
  have h := lx_e h
  cases h
  exact ((fr_stI (by omega)).trans ((fr_stI (by omega)).trans rfl))
noncomputable def s_X5_seeNumber (I : JI) (p P : Nat) (x1 : Int32) (x2 : Int32) : Option (Bool × JI) :=
  if (I (p + 1) 4) = 2 then (lx (stI I p 4 (I (p + 1) 6)) fun I2 => if (I2 p 4) < x1 then (bd2 (s_X5_fail I2 p P 2) fun z5 I4 => if z5 = true then (some (true, I4)) else (some (false, I4))) else (if (I2 p 4) ≤ x2 then (some (true, I2)) else (bd2 (s_X5_fail I2 p P 2) fun z9 I8 => if z9 = true then (some (true, I8)) else (some (false, I8))))) else (bd2 (s_X5_fail I p P 1) fun z12 I11 => some (z12, I11))
set_option maxHeartbeats 4000000 in
theorem c_X5_seeNumber {Ω : JO} {I : JI} {S : JS} {Q : JQ} {p : Nat} {P : Nat} {x1 : Int32} {x2 : Int32} {r : Bool} {J : JI} (hp : Is5 S p P) (h : s_X5_seeNumber I p P x1 x2 = some (r, J)) (hQ : Q (.inl (some (.int (zb r)))) J S) : Call Ω m_X5_seeNumber [.ref p, .int x1, .int x2] I S Q := by
  refine call_of (by decide +kernel) rfl (Nat.le_of_ble_eq_true rfl) ?_
  change AA Ω m_X5_seeNumber (FQ Ω m_X5_seeNumber Q) 0 0 0 [(0, .ref p), (1, .int x1), (2, .int x2)] [] I S
  unfold s_X5_seeNumber at h
  refine r_aload_n (pc' := 1) dX5_seeNumber_0 rfl 0 rfl rfl ?_
  refine r_getO (pc' := 4) dX5_seeNumber_1 fa_X5_12 hp.o rfl hp.r0 rfl ?_
  refine r_getI (pc' := 7) dX5_seeNumber_4 fa_X5_49 hp.c0.o rfl rfl ?_
  refine r_iconst (pc' := 8) (v := 2) dX5_seeNumber_7 (by decide) rfl ?_
  refine r_icmp_eq (tgt := 17) (pc' := 11) dX5_seeNumber_8 rfl rfl (fun h1 => ?_) (fun h1 => ?_)
  · have h := ifp h1 h
    refine r_aload_n (pc' := 18) dX5_seeNumber_17 rfl 0 rfl rfl ?_
    refine r_aload_n (pc' := 19) dX5_seeNumber_18 rfl 0 rfl rfl ?_
    refine r_getO (pc' := 22) dX5_seeNumber_19 fa_X5_12 hp.o rfl hp.r0 rfl ?_
    refine r_getI (pc' := 25) dX5_seeNumber_22 fa_X5_68 hp.c0.o rfl rfl ?_
    refine r_putI (pc' := 28) dX5_seeNumber_25 fa_X5_32 hp.o rfl rfl ?_
    have h := lx_e h
    refine r_aload_n (pc' := 29) dX5_seeNumber_28 rfl 0 rfl rfl ?_
    refine r_getI (pc' := 32) dX5_seeNumber_29 fa_X5_32 hp.o rfl rfl ?_
    refine r_iload_n (pc' := 33) dX5_seeNumber_32 rfl 1 rfl rfl ?_
    refine r_icmp_lt (tgt := 44) (pc' := 36) dX5_seeNumber_33 rfl rfl (fun h3 => ?_) (fun h3 => ?_)
    · have h := ifp h3 h
      refine r_aload_n (pc' := 45) dX5_seeNumber_44 rfl 0 rfl rfl ?_
      refine r_iconst (pc' := 46) (v := 2) dX5_seeNumber_45 (by decide) rfl ?_
      obtain ⟨z5, I4, ez5, h⟩ := bd2_e h
      refine r_callV1 (pc' := 49) (k' := 0) (n' := 0) dX5_seeNumber_46 mb_X5_fail mi_X5_fail hp.o (by decide) rfl lk_X5_52 rfl rfl rfl (Nat.le_of_ble_eq_true rfl) rfl (c_X5_fail hp ez5 (cpI ?_))
      refine r_if_eq (tgt := 56) (pc' := 52) dX5_seeNumber_49 rfl rfl (fun h6 => ?_) (fun h6 => ?_)
      · have h := ifn (zb_n0 h6) h
        refine r_iconst (pc' := 57) (v := 0) dX5_seeNumber_56 (by decide) rfl ?_
        cases h
        exact r_zret dX5_seeNumber_57 rfl (by decide) (by decide) (by decide) hQ
      · have h := ifp (zb_p0 h6) h
        refine r_iconst (pc' := 53) (v := 1) dX5_seeNumber_52 (by decide) rfl ?_
        refine r_goto (tgt := 57) dX5_seeNumber_53 rfl ?_
        cases h
        exact r_zret dX5_seeNumber_57 rfl (by decide) (by decide) (by decide) hQ
    · have h := ifn h3 h
      refine r_aload_n (pc' := 37) dX5_seeNumber_36 rfl 0 rfl rfl ?_
      refine r_getI (pc' := 40) dX5_seeNumber_37 fa_X5_32 hp.o rfl rfl ?_
      refine r_iload_n (pc' := 41) dX5_seeNumber_40 rfl 2 rfl rfl ?_
      refine r_icmp_le (tgt := 52) (pc' := 44) dX5_seeNumber_41 rfl rfl (fun h7 => ?_) (fun h7 => ?_)
      · have h := ifp h7 h
        refine r_iconst (pc' := 53) (v := 1) dX5_seeNumber_52 (by decide) rfl ?_
        refine r_goto (tgt := 57) dX5_seeNumber_53 rfl ?_
        cases h
        exact r_zret dX5_seeNumber_57 rfl (by decide) (by decide) (by decide) hQ
      · have h := ifn h7 h
        refine r_aload_n (pc' := 45) dX5_seeNumber_44 rfl 0 rfl rfl ?_
        refine r_iconst (pc' := 46) (v := 2) dX5_seeNumber_45 (by decide) rfl ?_
        obtain ⟨z9, I8, ez9, h⟩ := bd2_e h
        refine r_callV1 (pc' := 49) (k' := 0) (n' := 0) dX5_seeNumber_46 mb_X5_fail mi_X5_fail hp.o (by decide) rfl lk_X5_52 rfl rfl rfl (Nat.le_of_ble_eq_true rfl) rfl (c_X5_fail hp ez9 (cpI ?_))
        refine r_if_eq (tgt := 56) (pc' := 52) dX5_seeNumber_49 rfl rfl (fun h10 => ?_) (fun h10 => ?_)
        · have h := ifn (zb_n0 h10) h
          refine r_iconst (pc' := 57) (v := 0) dX5_seeNumber_56 (by decide) rfl ?_
          cases h
          exact r_zret dX5_seeNumber_57 rfl (by decide) (by decide) (by decide) hQ
        · have h := ifp (zb_p0 h10) h
          refine r_iconst (pc' := 53) (v := 1) dX5_seeNumber_52 (by decide) rfl ?_
          refine r_goto (tgt := 57) dX5_seeNumber_53 rfl ?_
          cases h
          exact r_zret dX5_seeNumber_57 rfl (by decide) (by decide) (by decide) hQ
  · have h := ifn h1 h
    refine r_aload_n (pc' := 12) dX5_seeNumber_11 rfl 0 rfl rfl ?_
    refine r_iconst (pc' := 13) (v := 1) dX5_seeNumber_12 (by decide) rfl ?_
    obtain ⟨z12, I11, ez12, h⟩ := bd2_e h
    refine r_callV1 (pc' := 16) (k' := 0) (n' := 0) dX5_seeNumber_13 mb_X5_fail mi_X5_fail hp.o (by decide) rfl lk_X5_52 rfl rfl rfl (Nat.le_of_ble_eq_true rfl) rfl (c_X5_fail hp ez12 (cpI ?_))
    cases h
    exact r_zret dX5_seeNumber_16 rfl (zb01 _) (by decide) (by decide) hQ
set_option maxHeartbeats 4000000 in
theorem fr_X5_seeNumber {I : JI} {p : Nat} {P : Nat} {x1 : Int32} {x2 : Int32} {r : Bool} {J : JI} {z : Nat} (h : s_X5_seeNumber I p P x1 x2 = some (r, J)) (hzp : z < p ∨ p + 2 ≤ z) (hzP : z < P ∨ P + 24 ≤ z) : J z = I z := by
  unfold s_X5_seeNumber at h
  rcases if_e h with h | h
  · have h := lx_e h
    rcases if_e h with h | h
    · obtain ⟨z5, I4, e1, h⟩ := bd2_e h
      rcases if_e h with h | h
      · cases h
        exact ((fr_X5_fail e1 (by omega) (by omega)).trans ((fr_stI (by omega)).trans rfl))
      · cases h
        exact ((fr_X5_fail e1 (by omega) (by omega)).trans ((fr_stI (by omega)).trans rfl))
    · rcases if_e h with h | h
      · cases h
        exact ((fr_stI (by omega)).trans rfl)
      · obtain ⟨z9, I8, e2, h⟩ := bd2_e h
        rcases if_e h with h | h
        · cases h
          exact ((fr_X5_fail e2 (by omega) (by omega)).trans ((fr_stI (by omega)).trans rfl))
        · cases h
          exact ((fr_X5_fail e2 (by omega) (by omega)).trans ((fr_stI (by omega)).trans rfl))
  · obtain ⟨z12, I11, e3, h⟩ := bd2_e h
    cases h
    exact ((fr_X5_fail e3 (by omega) (by omega)).trans rfl)
noncomputable def s_X5_takeNumber (I : JI) (p P : Nat) (x1 : Int32) (x2 : Int32) : Option (Bool × JI) :=
  bd2 (s_X5_seeNumber I p P x1 x2) fun z2 I1 => if z2 = true then (bd (s_X2_advance I1 (p + 1)) fun I4 => some (true, I4)) else (some (false, I1))
set_option maxHeartbeats 4000000 in
theorem c_X5_takeNumber {Ω : JO} {I : JI} {S : JS} {Q : JQ} {p : Nat} {P : Nat} {x1 : Int32} {x2 : Int32} {r : Bool} {J : JI} (hp : Is5 S p P) (h : s_X5_takeNumber I p P x1 x2 = some (r, J)) (hQ : Q (.inl (some (.int (zb r)))) J S) : Call Ω m_X5_takeNumber [.ref p, .int x1, .int x2] I S Q := by
  refine call_of (by decide +kernel) rfl (Nat.le_of_ble_eq_true rfl) ?_
  change AA Ω m_X5_takeNumber (FQ Ω m_X5_takeNumber Q) 0 0 0 [(0, .ref p), (1, .int x1), (2, .int x2)] [] I S
  unfold s_X5_takeNumber at h
  refine r_aload_n (pc' := 1) dX5_takeNumber_0 rfl 0 rfl rfl ?_
  refine r_iload_n (pc' := 2) dX5_takeNumber_1 rfl 1 rfl rfl ?_
  refine r_iload_n (pc' := 3) dX5_takeNumber_2 rfl 2 rfl rfl ?_
  obtain ⟨z2, I1, ez2, h⟩ := bd2_e h
  refine r_callV2 (pc' := 6) (k' := 0) (n' := 0) dX5_takeNumber_3 mb_X5_seeNumber mi_X5_seeNumber hp.o (by decide) rfl lk_X5_71 rfl rfl rfl (Nat.le_of_ble_eq_true rfl) rfl (c_X5_seeNumber hp ez2 (cpI ?_))
  refine r_if_ne (tgt := 11) (pc' := 9) dX5_takeNumber_6 rfl rfl (fun h3 => ?_) (fun h3 => ?_)
  · have h := ifp (zb_p0 h3) h
    refine r_aload_n (pc' := 12) dX5_takeNumber_11 rfl 0 rfl rfl ?_
    refine r_getO (pc' := 15) dX5_takeNumber_12 fa_X5_12 hp.o rfl hp.r0 rfl ?_
    obtain ⟨I4, eI4, h⟩ := bd_e h
    refine r_callV0 (pc' := 18) (k' := 0) (n' := 0) dX5_takeNumber_15 mb_X2_advance mi_X2_advance hp.c0.o (by decide) rfl lk_X5_56 rfl rfl rfl (Nat.le_of_ble_eq_true rfl) rfl (c_X2_advance hp.c0 eI4 (cpV ?_))
    refine r_iconst (pc' := 19) (v := 1) dX5_takeNumber_18 (by decide) rfl ?_
    cases h
    exact r_zret dX5_takeNumber_19 rfl (by decide) (by decide) (by decide) hQ
  · have h := ifn (zb_n0 h3) h
    refine r_iconst (pc' := 10) (v := 0) dX5_takeNumber_9 (by decide) rfl ?_
    cases h
    exact r_zret dX5_takeNumber_10 rfl (by decide) (by decide) (by decide) hQ
set_option maxHeartbeats 4000000 in
theorem fr_X5_takeNumber {I : JI} {p : Nat} {P : Nat} {x1 : Int32} {x2 : Int32} {r : Bool} {J : JI} {z : Nat} (h : s_X5_takeNumber I p P x1 x2 = some (r, J)) (hzp : z < p ∨ p + 2 ≤ z) (hzP : z < P ∨ P + 24 ≤ z) : J z = I z := by
  unfold s_X5_takeNumber at h
  obtain ⟨z2, I1, e1, h⟩ := bd2_e h
  rcases if_e h with h | h
  · obtain ⟨I4, e2, h⟩ := bd_e h
    cases h
    exact ((fr_X2_advance e2 (by omega)).trans ((fr_X5_seeNumber e1 (by omega) (by omega)).trans rfl))
  · cases h
    exact ((fr_X5_seeNumber e1 (by omega) (by omega)).trans rfl)
noncomputable def s_X5_readHeader (I : JI) (p P : Nat) : Option (Bool × JI) :=
  bd (s_X2_isWord I (p + 1) "loom") fun z1 => if z1 = true then (bd (s_X2_advance I (p + 1)) fun I3 => bd2 (s_X5_takeNumber I3 p P 2 8) fun z5 I4 => if z5 = true then (lx (stI I4 P 0 (I4 p 4)) fun I7 => bd2 (s_X5_takeNumber I7 p P 1 200) fun z9 I8 => if z9 = true then (lx (stI I8 P 1 (I8 p 4)) fun I11 => some (true, I11)) else (some (false, I8))) else (some (false, I4))) else (bd2 (s_X5_fail I p P 1) fun z13 I12 => some (z13, I12))
set_option maxHeartbeats 4000000 in
theorem c_X5_readHeader {Ω : JO} {I : JI} {S : JS} {Q : JQ} {p : Nat} {P : Nat} {r : Bool} {J : JI} (hp : Is5 S p P) (h : s_X5_readHeader I p P = some (r, J)) (hQ : Q (.inl (some (.int (zb r)))) J S) : Call Ω m_X5_readHeader [.ref p] I S Q := by
  refine call_of (by decide +kernel) rfl (Nat.le_of_ble_eq_true rfl) ?_
  change AA Ω m_X5_readHeader (FQ Ω m_X5_readHeader Q) 0 0 0 [(0, .ref p)] [] I S
  unfold s_X5_readHeader at h
  refine r_aload_n (pc' := 1) dX5_readHeader_0 rfl 0 rfl rfl ?_
  refine r_getO (pc' := 4) dX5_readHeader_1 fa_X5_12 hp.o rfl hp.r0 rfl ?_
  refine r_ldcS (pc' := 6) (tx := "loom") dX5_readHeader_4 sw_X5_91 rfl ?_
  obtain ⟨z1, ez1, h⟩ := bd_e h
  refine r_callV1 (pc' := 9) (k' := 0) (n' := 0) dX5_readHeader_6 mb_X2_isWord mi_X2_isWord hp.c0.o (by decide) rfl lk_X5_92 rfl rfl rfl (Nat.le_of_ble_eq_true rfl) rfl (c_X2_isWord hp.c0 sw_X5_91 ez1 (cpI ?_))
  refine r_if_ne (tgt := 18) (pc' := 12) dX5_readHeader_9 rfl rfl (fun h2 => ?_) (fun h2 => ?_)
  · have h := ifp (zb_p0 h2) h
    refine r_aload_n (pc' := 19) dX5_readHeader_18 rfl 0 rfl rfl ?_
    refine r_getO (pc' := 22) dX5_readHeader_19 fa_X5_12 hp.o rfl hp.r0 rfl ?_
    obtain ⟨I3, eI3, h⟩ := bd_e h
    refine r_callV0 (pc' := 25) (k' := 0) (n' := 0) dX5_readHeader_22 mb_X2_advance mi_X2_advance hp.c0.o (by decide) rfl lk_X5_56 rfl rfl rfl (Nat.le_of_ble_eq_true rfl) rfl (c_X2_advance hp.c0 eI3 (cpV ?_))
    refine r_aload_n (pc' := 26) dX5_readHeader_25 rfl 0 rfl rfl ?_
    refine r_iconst (pc' := 27) (v := 2) dX5_readHeader_26 (by decide) rfl ?_
    refine r_bipush (pc' := 29) (v := 8) dX5_readHeader_27 (by decide) rfl ?_
    obtain ⟨z5, I4, ez5, h⟩ := bd2_e h
    refine r_callV2 (pc' := 32) (k' := 0) (n' := 0) dX5_readHeader_29 mb_X5_takeNumber mi_X5_takeNumber hp.o (by decide) rfl lk_X5_96 rfl rfl rfl (Nat.le_of_ble_eq_true rfl) rfl (c_X5_takeNumber hp ez5 (cpI ?_))
    refine r_if_ne (tgt := 37) (pc' := 35) dX5_readHeader_32 rfl rfl (fun h6 => ?_) (fun h6 => ?_)
    · have h := ifp (zb_p0 h6) h
      refine r_aload_n (pc' := 38) dX5_readHeader_37 rfl 0 rfl rfl ?_
      refine r_getO (pc' := 41) dX5_readHeader_38 fa_X5_21 hp.o rfl hp.r1 rfl ?_
      refine r_aload_n (pc' := 42) dX5_readHeader_41 rfl 0 rfl rfl ?_
      refine r_getI (pc' := 45) dX5_readHeader_42 fa_X5_32 hp.o rfl rfl ?_
      refine r_putI (pc' := 48) dX5_readHeader_45 fa_X5_81 hp.c1.o rfl rfl ?_
      have h := lx_e h
      refine r_aload_n (pc' := 49) dX5_readHeader_48 rfl 0 rfl rfl ?_
      refine r_iconst (pc' := 50) (v := 1) dX5_readHeader_49 (by decide) rfl ?_
      refine r_sipush (pc' := 53) (v := 200) dX5_readHeader_50 (by decide) rfl ?_
      obtain ⟨z9, I8, ez9, h⟩ := bd2_e h
      refine r_callV2 (pc' := 56) (k' := 0) (n' := 0) dX5_readHeader_53 mb_X5_takeNumber mi_X5_takeNumber hp.o (by decide) rfl lk_X5_96 rfl rfl rfl (Nat.le_of_ble_eq_true rfl) rfl (c_X5_takeNumber hp ez9 (cpI ?_))
      refine r_if_ne (tgt := 61) (pc' := 59) dX5_readHeader_56 rfl rfl (fun h10 => ?_) (fun h10 => ?_)
      · have h := ifp (zb_p0 h10) h
        refine r_aload_n (pc' := 62) dX5_readHeader_61 rfl 0 rfl rfl ?_
        refine r_getO (pc' := 65) dX5_readHeader_62 fa_X5_21 hp.o rfl hp.r1 rfl ?_
        refine r_aload_n (pc' := 66) dX5_readHeader_65 rfl 0 rfl rfl ?_
        refine r_getI (pc' := 69) dX5_readHeader_66 fa_X5_32 hp.o rfl rfl ?_
        refine r_putI (pc' := 72) dX5_readHeader_69 fa_X5_99 hp.c1.o rfl rfl ?_
        have h := lx_e h
        refine r_iconst (pc' := 73) (v := 1) dX5_readHeader_72 (by decide) rfl ?_
        cases h
        exact r_zret dX5_readHeader_73 rfl (by decide) (by decide) (by decide) hQ
      · have h := ifn (zb_n0 h10) h
        refine r_iconst (pc' := 60) (v := 0) dX5_readHeader_59 (by decide) rfl ?_
        cases h
        exact r_zret dX5_readHeader_60 rfl (by decide) (by decide) (by decide) hQ
    · have h := ifn (zb_n0 h6) h
      refine r_iconst (pc' := 36) (v := 0) dX5_readHeader_35 (by decide) rfl ?_
      cases h
      exact r_zret dX5_readHeader_36 rfl (by decide) (by decide) (by decide) hQ
  · have h := ifn (zb_n0 h2) h
    refine r_aload_n (pc' := 13) dX5_readHeader_12 rfl 0 rfl rfl ?_
    refine r_iconst (pc' := 14) (v := 1) dX5_readHeader_13 (by decide) rfl ?_
    obtain ⟨z13, I12, ez13, h⟩ := bd2_e h
    refine r_callV1 (pc' := 17) (k' := 0) (n' := 0) dX5_readHeader_14 mb_X5_fail mi_X5_fail hp.o (by decide) rfl lk_X5_52 rfl rfl rfl (Nat.le_of_ble_eq_true rfl) rfl (c_X5_fail hp ez13 (cpI ?_))
    cases h
    exact r_zret dX5_readHeader_17 rfl (zb01 _) (by decide) (by decide) hQ
set_option maxHeartbeats 4000000 in
theorem fr_X5_readHeader {I : JI} {p : Nat} {P : Nat} {r : Bool} {J : JI} {z : Nat} (h : s_X5_readHeader I p P = some (r, J)) (hzp : z < p ∨ p + 2 ≤ z) (hzP : z < P ∨ P + 24 ≤ z) : J z = I z := by
  unfold s_X5_readHeader at h
  obtain ⟨o1, e1, h⟩ := bd_e h
  rcases if_e h with h | h
  · obtain ⟨I3, e2, h⟩ := bd_e h
    obtain ⟨z5, I4, e3, h⟩ := bd2_e h
    rcases if_e h with h | h
    · have h := lx_e h
      obtain ⟨z9, I8, e4, h⟩ := bd2_e h
      rcases if_e h with h | h
      · have h := lx_e h
        cases h
        exact ((fr_stI (by omega)).trans ((fr_X5_takeNumber e4 (by omega) (by omega)).trans ((fr_stI (by omega)).trans ((fr_X5_takeNumber e3 (by omega) (by omega)).trans ((fr_X2_advance e2 (by omega)).trans rfl)))))
      · cases h
        exact ((fr_X5_takeNumber e4 (by omega) (by omega)).trans ((fr_stI (by omega)).trans ((fr_X5_takeNumber e3 (by omega) (by omega)).trans ((fr_X2_advance e2 (by omega)).trans rfl))))
    · cases h
      exact ((fr_X5_takeNumber e3 (by omega) (by omega)).trans ((fr_X2_advance e2 (by omega)).trans rfl))
  · obtain ⟨z13, I12, e5, h⟩ := bd2_e h
    cases h
    exact ((fr_X5_fail e5 (by omega) (by omega)).trans rfl)
noncomputable def s_X5_takeColour (I : JI) (p P : Nat) : Option (Bool × JI) :=
  lx (stI I p 4 (s_X2_colour I (p + 1))) fun I1 => if (I1 p 4) = (-1) then (bd2 (s_X5_fail I1 p P 1) fun z5 I4 => some (z5, I4)) else (bd (s_X2_advance I1 (p + 1)) fun I3 => some (true, I3))
set_option maxHeartbeats 4000000 in
theorem c_X5_takeColour {Ω : JO} {I : JI} {S : JS} {Q : JQ} {p : Nat} {P : Nat} {r : Bool} {J : JI} (hp : Is5 S p P) (h : s_X5_takeColour I p P = some (r, J)) (hQ : Q (.inl (some (.int (zb r)))) J S) : Call Ω m_X5_takeColour [.ref p] I S Q := by
  refine call_of (by decide +kernel) rfl (Nat.le_of_ble_eq_true rfl) ?_
  change AA Ω m_X5_takeColour (FQ Ω m_X5_takeColour Q) 0 0 0 [(0, .ref p)] [] I S
  unfold s_X5_takeColour at h
  refine r_aload_n (pc' := 1) dX5_takeColour_0 rfl 0 rfl rfl ?_
  refine r_aload_n (pc' := 2) dX5_takeColour_1 rfl 0 rfl rfl ?_
  refine r_getO (pc' := 5) dX5_takeColour_2 fa_X5_12 hp.o rfl hp.r0 rfl ?_
  refine r_callV0 (pc' := 8) (k' := 0) (n' := 0) dX5_takeColour_5 mb_X2_colour mi_X2_colour hp.c0.o (by decide) rfl lk_X5_87 rfl rfl rfl (Nat.le_of_ble_eq_true rfl) rfl (c_X2_colour hp.c0 rfl (cpI ?_))
  refine r_putI (pc' := 11) dX5_takeColour_8 fa_X5_32 hp.o rfl rfl ?_
  have h := lx_e h
  refine r_aload_n (pc' := 12) dX5_takeColour_11 rfl 0 rfl rfl ?_
  refine r_getI (pc' := 15) dX5_takeColour_12 fa_X5_32 hp.o rfl rfl ?_
  refine r_iconst (pc' := 16) (v := -1) dX5_takeColour_15 (by decide) rfl ?_
  refine r_icmp_ne (tgt := 25) (pc' := 19) dX5_takeColour_16 rfl rfl (fun h2 => ?_) (fun h2 => ?_)
  · have h := ifn h2 h
    refine r_aload_n (pc' := 26) dX5_takeColour_25 rfl 0 rfl rfl ?_
    refine r_getO (pc' := 29) dX5_takeColour_26 fa_X5_12 hp.o rfl hp.r0 rfl ?_
    obtain ⟨I3, eI3, h⟩ := bd_e h
    refine r_callV0 (pc' := 32) (k' := 0) (n' := 0) dX5_takeColour_29 mb_X2_advance mi_X2_advance hp.c0.o (by decide) rfl lk_X5_56 rfl rfl rfl (Nat.le_of_ble_eq_true rfl) rfl (c_X2_advance hp.c0 eI3 (cpV ?_))
    refine r_iconst (pc' := 33) (v := 1) dX5_takeColour_32 (by decide) rfl ?_
    cases h
    exact r_zret dX5_takeColour_33 rfl (by decide) (by decide) (by decide) hQ
  · have h := ifp h2 h
    refine r_aload_n (pc' := 20) dX5_takeColour_19 rfl 0 rfl rfl ?_
    refine r_iconst (pc' := 21) (v := 1) dX5_takeColour_20 (by decide) rfl ?_
    obtain ⟨z5, I4, ez5, h⟩ := bd2_e h
    refine r_callV1 (pc' := 24) (k' := 0) (n' := 0) dX5_takeColour_21 mb_X5_fail mi_X5_fail hp.o (by decide) rfl lk_X5_52 rfl rfl rfl (Nat.le_of_ble_eq_true rfl) rfl (c_X5_fail hp ez5 (cpI ?_))
    cases h
    exact r_zret dX5_takeColour_24 rfl (zb01 _) (by decide) (by decide) hQ
set_option maxHeartbeats 4000000 in
theorem fr_X5_takeColour {I : JI} {p : Nat} {P : Nat} {r : Bool} {J : JI} {z : Nat} (h : s_X5_takeColour I p P = some (r, J)) (hzp : z < p ∨ p + 2 ≤ z) (hzP : z < P ∨ P + 24 ≤ z) : J z = I z := by
  unfold s_X5_takeColour at h
  have h := lx_e h
  rcases if_e h with h | h
  · obtain ⟨z5, I4, e1, h⟩ := bd2_e h
    cases h
    exact ((fr_X5_fail e1 (by omega) (by omega)).trans ((fr_stI (by omega)).trans rfl))
  · obtain ⟨I3, e2, h⟩ := bd_e h
    cases h
    exact ((fr_X2_advance e2 (by omega)).trans ((fr_stI (by omega)).trans rfl))
noncomputable def s_X5_seeHarness (I : JI) (p P : Nat) : Option (Bool × JI) :=
  bd2 (s_X5_seeNumber I p P 0 ((I P 0) - 1)) fun z2 I1 => some (z2, I1)
set_option maxHeartbeats 4000000 in
theorem c_X5_seeHarness {Ω : JO} {I : JI} {S : JS} {Q : JQ} {p : Nat} {P : Nat} {r : Bool} {J : JI} (hp : Is5 S p P) (h : s_X5_seeHarness I p P = some (r, J)) (hQ : Q (.inl (some (.int (zb r)))) J S) : Call Ω m_X5_seeHarness [.ref p] I S Q := by
  refine call_of (by decide +kernel) rfl (Nat.le_of_ble_eq_true rfl) ?_
  change AA Ω m_X5_seeHarness (FQ Ω m_X5_seeHarness Q) 0 0 0 [(0, .ref p)] [] I S
  unfold s_X5_seeHarness at h
  refine r_aload_n (pc' := 1) dX5_seeHarness_0 rfl 0 rfl rfl ?_
  refine r_iconst (pc' := 2) (v := 0) dX5_seeHarness_1 (by decide) rfl ?_
  refine r_aload_n (pc' := 3) dX5_seeHarness_2 rfl 0 rfl rfl ?_
  refine r_getO (pc' := 6) dX5_seeHarness_3 fa_X5_21 hp.o rfl hp.r1 rfl ?_
  refine r_getI (pc' := 9) dX5_seeHarness_6 fa_X5_81 hp.c1.o rfl rfl ?_
  refine r_iconst (pc' := 10) (v := 1) dX5_seeHarness_9 (by decide) rfl ?_
  refine r_isub (pc' := 11) dX5_seeHarness_10 rfl ?_
  obtain ⟨z2, I1, ez2, h⟩ := bd2_e h
  refine r_callV2 (pc' := 14) (k' := 0) (n' := 0) dX5_seeHarness_11 mb_X5_seeNumber mi_X5_seeNumber hp.o (by decide) rfl lk_X5_71 rfl rfl rfl (Nat.le_of_ble_eq_true rfl) rfl (c_X5_seeNumber hp ez2 (cpI ?_))
  cases h
  exact r_zret dX5_seeHarness_14 rfl (zb01 _) (by decide) (by decide) hQ
set_option maxHeartbeats 4000000 in
theorem fr_X5_seeHarness {I : JI} {p : Nat} {P : Nat} {r : Bool} {J : JI} {z : Nat} (h : s_X5_seeHarness I p P = some (r, J)) (hzp : z < p ∨ p + 2 ≤ z) (hzP : z < P ∨ P + 24 ≤ z) : J z = I z := by
  unfold s_X5_seeHarness at h
  obtain ⟨z2, I1, e1, h⟩ := bd2_e h
  cases h
  exact ((fr_X5_seeNumber e1 (by omega) (by omega)).trans rfl)
noncomputable def s_X5_readWarps_L42 (p P : Nat) (q1 : Int32) : Nat → Int32 → JI → Option ((Bool × JI) ⊕ (Int32 × JI))
  | 0, _, _ => none
  | f + 1, w2, I => if 500 ≤ w2 then (some (.inr (w2, I))) else (if w2 = 0 then (bd2 (s_X5_seeHarness I p P) fun z9 I8 => if z9 = true then (lx (x3_addWarpB I8 P) fun z12 => lx (x3_addWarp I8 P (I8 p 4) q1) fun I11 => if z12 = true then (bd (s_X2_advance I11 (p + 1)) fun I14 => s_X5_readWarps_L42 p P q1 f (w2 + 1) I14) else (bd2 (s_X5_fail I11 p P 4) fun z16 I15 => some (.inl (z16, I15)))) else (some (.inl (false, I8)))) else (if (I (p + 1) 4) = 2 then (bd2 (s_X5_seeHarness I p P) fun z19 I18 => if z19 = true then (lx (x3_addWarpB I18 P) fun z22 => lx (x3_addWarp I18 P (I18 p 4) q1) fun I21 => if z22 = true then (bd (s_X2_advance I21 (p + 1)) fun I24 => s_X5_readWarps_L42 p P q1 f (w2 + 1) I24) else (bd2 (s_X5_fail I21 p P 4) fun z26 I25 => some (.inl (z26, I25)))) else (some (.inl (false, I18)))) else (some (.inr (w2, I)))))
noncomputable def s_X5_readWarps (I : JI) (p P : Nat) : Option (Bool × JI) :=
  if (I (P + 10) 3) ≤ 0 then (bd (s_X2_advance I (p + 1)) fun I2 => bd2 (s_X5_takeColour I2 p P) fun z4 I3 => if z4 = true then (bl (s_X5_readWarps_L42 p P (I3 p 4) lf 0 I3) fun (y27, I28) => some (true, I28)) else (some (false, I3))) else (bd2 (s_X5_fail I p P 3) fun z31 I30 => some (z31, I30))
set_option maxHeartbeats 4000000 in
theorem l_X5_readWarps_L42 {Ω : JO} {S : JS} {Q : JQ} {p : Nat} {P : Nat} {q1 : Int32} (hp : Is5 S p P) : ∀ (f : Nat) (w2 : Int32) (I : JI) (o : ((Bool × JI) ⊕ (Int32 × JI))), s_X5_readWarps_L42 p P q1 f w2 I = some o → (∀ (r : Bool) (J : JI), o = .inl (r, J) → Q (.inl (some (.int (zb r)))) J S) → (∀ (y2 : Int32) (J : JI) , o = .inr (y2, J) → AA Ω m_X5_readWarps (FQ Ω m_X5_readWarps Q) 0 0 107 [(2, .int y2), (1, .int q1), (0, .ref p)] [] J S) → AA Ω m_X5_readWarps (FQ Ω m_X5_readWarps Q) 0 0 42 [(2, .int w2), (1, .int q1), (0, .ref p)] [] I S := by
  intro f
  induction f with
  | zero =>
    intro w2 I o h hR hE
    rw [s_X5_readWarps_L42] at h
    cases h
  | succ f ih =>
    intro w2 I o h hR hE
    rw [s_X5_readWarps_L42] at h
    refine r_iload_n (pc' := 43) dX5_readWarps_42 rfl 0 rfl rfl ?_
    refine r_sipush (pc' := 46) (v := 500) dX5_readWarps_43 (by decide) rfl ?_
    refine r_icmp_ge (tgt := 107) (pc' := 49) dX5_readWarps_46 rfl rfl (fun h6 => ?_) (fun h6 => ?_)
    · have h := ifp h6 h
      cases h
      exact hE _ _ rfl
    · have h := ifn h6 h
      refine r_iload_n (pc' := 50) dX5_readWarps_49 rfl 0 rfl rfl ?_
      refine r_if_eq (tgt := 64) (pc' := 53) dX5_readWarps_50 rfl rfl (fun h7 => ?_) (fun h7 => ?_)
      · have h := ifp h7 h
        refine r_aload_n (pc' := 65) dX5_readWarps_64 rfl 2 rfl rfl ?_
        obtain ⟨z9, I8, ez9, h⟩ := bd2_e h
        refine r_callV0 (pc' := 68) (k' := 0) (n' := 0) dX5_readWarps_65 mb_X5_seeHarness mi_X5_seeHarness hp.o (by decide) rfl lk_X5_84 rfl rfl rfl (Nat.le_of_ble_eq_true rfl) rfl (c_X5_seeHarness hp ez9 (cpI ?_))
        refine r_if_ne (tgt := 73) (pc' := 71) dX5_readWarps_68 rfl rfl (fun h10 => ?_) (fun h10 => ?_)
        · have h := ifp (zb_p0 h10) h
          refine r_aload_n (pc' := 74) dX5_readWarps_73 rfl 2 rfl rfl ?_
          refine r_getO (pc' := 77) dX5_readWarps_74 fa_X5_21 hp.o rfl hp.r1 rfl ?_
          refine r_aload_n (pc' := 78) dX5_readWarps_77 rfl 2 rfl rfl ?_
          refine r_getI (pc' := 81) dX5_readWarps_78 fa_X5_32 hp.o rfl rfl ?_
          refine r_iload_n (pc' := 82) dX5_readWarps_81 rfl 1 rfl rfl ?_
          refine r_callV2 (pc' := 85) (k' := 0) (n' := 0) dX5_readWarps_82 mb_X3_addWarp mi_X3_addWarp hp.c1.o (by decide) rfl lk_X5_184 rfl rfl rfl (Nat.le_of_ble_eq_true rfl) rfl (c_X3_addWarp hp.c1 (cpI ?_))
          have h := lx_e h
          have h := lx_e h
          refine r_if_ne (tgt := 94) (pc' := 88) dX5_readWarps_85 rfl rfl (fun h13 => ?_) (fun h13 => ?_)
          · have h := ifp (zb_p0 h13) h
            refine r_aload_n (pc' := 95) dX5_readWarps_94 rfl 2 rfl rfl ?_
            refine r_getO (pc' := 98) dX5_readWarps_95 fa_X5_12 hp.o rfl hp.r0 rfl ?_
            obtain ⟨I14, eI14, h⟩ := bd_e h
            refine r_callV0 (pc' := 101) (k' := 0) (n' := 0) dX5_readWarps_98 mb_X2_advance mi_X2_advance hp.c0.o (by decide) rfl lk_X5_56 rfl rfl rfl (Nat.le_of_ble_eq_true rfl) rfl (c_X2_advance hp.c0 eI14 (cpV ?_))
            refine r_iinc (pc' := 104) (v := _ + 1) (lv' := [(2, _), (1, _), (0, _)]) dX5_readWarps_101 0 rfl rfl (by decide) rfl rfl ?_
            refine r_goto (tgt := 42) dX5_readWarps_104 rfl ?_
            exact ih _ _ _ h hR hE
          · have h := ifn (zb_n0 h13) h
            refine r_aload_n (pc' := 89) dX5_readWarps_88 rfl 2 rfl rfl ?_
            refine r_iconst (pc' := 90) (v := 4) dX5_readWarps_89 (by decide) rfl ?_
            obtain ⟨z16, I15, ez16, h⟩ := bd2_e h
            refine r_callV1 (pc' := 93) (k' := 0) (n' := 0) dX5_readWarps_90 mb_X5_fail mi_X5_fail hp.o (by decide) rfl lk_X5_52 rfl rfl rfl (Nat.le_of_ble_eq_true rfl) rfl (c_X5_fail hp ez16 (cpI ?_))
            cases h
            exact r_zret dX5_readWarps_93 rfl (zb01 _) (by decide) (by decide) (hR _ _ rfl)
        · have h := ifn (zb_n0 h10) h
          refine r_iconst (pc' := 72) (v := 0) dX5_readWarps_71 (by decide) rfl ?_
          cases h
          exact r_zret dX5_readWarps_72 rfl (by decide) (by decide) (by decide) (hR _ _ rfl)
      · have h := ifn h7 h
        refine r_aload_n (pc' := 54) dX5_readWarps_53 rfl 2 rfl rfl ?_
        refine r_getO (pc' := 57) dX5_readWarps_54 fa_X5_12 hp.o rfl hp.r0 rfl ?_
        refine r_getI (pc' := 60) dX5_readWarps_57 fa_X5_49 hp.c0.o rfl rfl ?_
        refine r_iconst (pc' := 61) (v := 2) dX5_readWarps_60 (by decide) rfl ?_
        refine r_icmp_ne (tgt := 107) (pc' := 64) dX5_readWarps_61 rfl rfl (fun h17 => ?_) (fun h17 => ?_)
        · have h := ifn h17 h
          cases h
          exact hE _ _ rfl
        · have h := ifp h17 h
          refine r_aload_n (pc' := 65) dX5_readWarps_64 rfl 2 rfl rfl ?_
          obtain ⟨z19, I18, ez19, h⟩ := bd2_e h
          refine r_callV0 (pc' := 68) (k' := 0) (n' := 0) dX5_readWarps_65 mb_X5_seeHarness mi_X5_seeHarness hp.o (by decide) rfl lk_X5_84 rfl rfl rfl (Nat.le_of_ble_eq_true rfl) rfl (c_X5_seeHarness hp ez19 (cpI ?_))
          refine r_if_ne (tgt := 73) (pc' := 71) dX5_readWarps_68 rfl rfl (fun h20 => ?_) (fun h20 => ?_)
          · have h := ifp (zb_p0 h20) h
            refine r_aload_n (pc' := 74) dX5_readWarps_73 rfl 2 rfl rfl ?_
            refine r_getO (pc' := 77) dX5_readWarps_74 fa_X5_21 hp.o rfl hp.r1 rfl ?_
            refine r_aload_n (pc' := 78) dX5_readWarps_77 rfl 2 rfl rfl ?_
            refine r_getI (pc' := 81) dX5_readWarps_78 fa_X5_32 hp.o rfl rfl ?_
            refine r_iload_n (pc' := 82) dX5_readWarps_81 rfl 1 rfl rfl ?_
            refine r_callV2 (pc' := 85) (k' := 0) (n' := 0) dX5_readWarps_82 mb_X3_addWarp mi_X3_addWarp hp.c1.o (by decide) rfl lk_X5_184 rfl rfl rfl (Nat.le_of_ble_eq_true rfl) rfl (c_X3_addWarp hp.c1 (cpI ?_))
            have h := lx_e h
            have h := lx_e h
            refine r_if_ne (tgt := 94) (pc' := 88) dX5_readWarps_85 rfl rfl (fun h23 => ?_) (fun h23 => ?_)
            · have h := ifp (zb_p0 h23) h
              refine r_aload_n (pc' := 95) dX5_readWarps_94 rfl 2 rfl rfl ?_
              refine r_getO (pc' := 98) dX5_readWarps_95 fa_X5_12 hp.o rfl hp.r0 rfl ?_
              obtain ⟨I24, eI24, h⟩ := bd_e h
              refine r_callV0 (pc' := 101) (k' := 0) (n' := 0) dX5_readWarps_98 mb_X2_advance mi_X2_advance hp.c0.o (by decide) rfl lk_X5_56 rfl rfl rfl (Nat.le_of_ble_eq_true rfl) rfl (c_X2_advance hp.c0 eI24 (cpV ?_))
              refine r_iinc (pc' := 104) (v := _ + 1) (lv' := [(2, _), (1, _), (0, _)]) dX5_readWarps_101 0 rfl rfl (by decide) rfl rfl ?_
              refine r_goto (tgt := 42) dX5_readWarps_104 rfl ?_
              exact ih _ _ _ h hR hE
            · have h := ifn (zb_n0 h23) h
              refine r_aload_n (pc' := 89) dX5_readWarps_88 rfl 2 rfl rfl ?_
              refine r_iconst (pc' := 90) (v := 4) dX5_readWarps_89 (by decide) rfl ?_
              obtain ⟨z26, I25, ez26, h⟩ := bd2_e h
              refine r_callV1 (pc' := 93) (k' := 0) (n' := 0) dX5_readWarps_90 mb_X5_fail mi_X5_fail hp.o (by decide) rfl lk_X5_52 rfl rfl rfl (Nat.le_of_ble_eq_true rfl) rfl (c_X5_fail hp ez26 (cpI ?_))
              cases h
              exact r_zret dX5_readWarps_93 rfl (zb01 _) (by decide) (by decide) (hR _ _ rfl)
          · have h := ifn (zb_n0 h20) h
            refine r_iconst (pc' := 72) (v := 0) dX5_readWarps_71 (by decide) rfl ?_
            cases h
            exact r_zret dX5_readWarps_72 rfl (by decide) (by decide) (by decide) (hR _ _ rfl)
set_option maxHeartbeats 4000000 in
theorem c_X5_readWarps {Ω : JO} {I : JI} {S : JS} {Q : JQ} {p : Nat} {P : Nat} {r : Bool} {J : JI} (hp : Is5 S p P) (h : s_X5_readWarps I p P = some (r, J)) (hQ : Q (.inl (some (.int (zb r)))) J S) : Call Ω m_X5_readWarps [.ref p] I S Q := by
  refine call_of (by decide +kernel) rfl (Nat.le_of_ble_eq_true rfl) ?_
  change AA Ω m_X5_readWarps (FQ Ω m_X5_readWarps Q) 0 0 0 [(0, .ref p)] [] I S
  unfold s_X5_readWarps at h
  refine r_aload_n (pc' := 1) dX5_readWarps_0 rfl 0 rfl rfl ?_
  refine r_getO (pc' := 4) dX5_readWarps_1 fa_X5_21 hp.o rfl hp.r1 rfl ?_
  refine r_getO (pc' := 7) dX5_readWarps_4 fa_X5_172 hp.c1.o rfl hp.c1.r11 rfl ?_
  refine r_getI (pc' := 10) dX5_readWarps_7 fa_X5_176 hp.c1.c11.o rfl rfl ?_
  refine r_if_le (tgt := 19) (pc' := 13) dX5_readWarps_10 rfl rfl (fun h1 => ?_) (fun h1 => ?_)
  · have h := ifp h1 h
    refine r_aload_n (pc' := 20) dX5_readWarps_19 rfl 0 rfl rfl ?_
    refine r_getO (pc' := 23) dX5_readWarps_20 fa_X5_12 hp.o rfl hp.r0 rfl ?_
    obtain ⟨I2, eI2, h⟩ := bd_e h
    refine r_callV0 (pc' := 26) (k' := 0) (n' := 0) dX5_readWarps_23 mb_X2_advance mi_X2_advance hp.c0.o (by decide) rfl lk_X5_56 rfl rfl rfl (Nat.le_of_ble_eq_true rfl) rfl (c_X2_advance hp.c0 eI2 (cpV ?_))
    refine r_aload_n (pc' := 27) dX5_readWarps_26 rfl 0 rfl rfl ?_
    obtain ⟨z4, I3, ez4, h⟩ := bd2_e h
    refine r_callV0 (pc' := 30) (k' := 0) (n' := 0) dX5_readWarps_27 mb_X5_takeColour mi_X5_takeColour hp.o (by decide) rfl lk_X5_181 rfl rfl rfl (Nat.le_of_ble_eq_true rfl) rfl (c_X5_takeColour hp ez4 (cpI ?_))
    refine r_if_ne (tgt := 35) (pc' := 33) dX5_readWarps_30 rfl rfl (fun h5 => ?_) (fun h5 => ?_)
    · have h := ifp (zb_p0 h5) h
      refine r_aload_n (pc' := 36) dX5_readWarps_35 rfl 0 rfl rfl ?_
      refine r_getI (pc' := 39) dX5_readWarps_36 fa_X5_32 hp.o rfl rfl ?_
      refine r_istore_n (pc' := 40) (lv' := [(1, _), (0, _)]) dX5_readWarps_39 rfl (by decide) rfl rfl ?_
      refine r_iconst (pc' := 41) (v := 0) dX5_readWarps_40 (by decide) rfl ?_
      refine r_istore_n (pc' := 42) (lv' := [(2, _), (1, _), (0, _)]) dX5_readWarps_41 rfl (by decide) rfl rfl ?_
      obtain ⟨o29, eo29, h1, h⟩ := bl_e h
      refine l_X5_readWarps_L42 (Ω := Ω) hp _ _ _ _ eo29 (fun r J q => ?_) (fun y27 I28 q => ?_)
      · have h1 := h1 _ q
        cases h1
        exact hQ
      have h := h _ q
      refine r_iconst (pc' := 108) (v := 1) dX5_readWarps_107 (by decide) rfl ?_
      cases h
      exact r_zret dX5_readWarps_108 rfl (by decide) (by decide) (by decide) hQ
    · have h := ifn (zb_n0 h5) h
      refine r_iconst (pc' := 34) (v := 0) dX5_readWarps_33 (by decide) rfl ?_
      cases h
      exact r_zret dX5_readWarps_34 rfl (by decide) (by decide) (by decide) hQ
  · have h := ifn h1 h
    refine r_aload_n (pc' := 14) dX5_readWarps_13 rfl 0 rfl rfl ?_
    refine r_iconst (pc' := 15) (v := 3) dX5_readWarps_14 (by decide) rfl ?_
    obtain ⟨z31, I30, ez31, h⟩ := bd2_e h
    refine r_callV1 (pc' := 18) (k' := 0) (n' := 0) dX5_readWarps_15 mb_X5_fail mi_X5_fail hp.o (by decide) rfl lk_X5_52 rfl rfl rfl (Nat.le_of_ble_eq_true rfl) rfl (c_X5_fail hp ez31 (cpI ?_))
    cases h
    exact r_zret dX5_readWarps_18 rfl (zb01 _) (by decide) (by decide) hQ
theorem frl_X5_readWarps_L42 {p : Nat} {P : Nat} {q1 : Int32} {z : Nat} (hzp : z < p ∨ p + 2 ≤ z) (hzP : z < P ∨ P + 24 ≤ z) : ∀ (f : Nat) (w2 : Int32) (I : JI) (o : ((Bool × JI) ⊕ (Int32 × JI))), s_X5_readWarps_L42 p P q1 f w2 I = some o → (∀ (r : Bool) (J : JI), o = .inl (r, J) → J z = I z) ∧ (∀ (y2 : Int32) (J : JI), o = .inr (y2, J) → J z = I z) := by
  intro f
  induction f with
  | zero =>
    intro w2 I o h
    rw [s_X5_readWarps_L42] at h
    cases h
  | succ f ih =>
    intro w2 I o h
    rw [s_X5_readWarps_L42] at h
    rcases if_e h with h | h
    · cases h
      refine ⟨?_, ?_⟩
      · intro _ _ q
        cases q
      · intro _ _ q
        cases q
        exact rfl
    · rcases if_e h with h | h
      · obtain ⟨z9, I8, e1, h⟩ := bd2_e h
        rcases if_e h with h | h
        · have h := lx_e h
          have h := lx_e h
          rcases if_e h with h | h
          · obtain ⟨I14, e2, h⟩ := bd_e h
            refine ⟨?_, ?_⟩
            · intro _ _ q
              exact ((ih _ _ _ h).1 _ _ q).trans ((fr_X2_advance e2 (by omega)).trans ((fr_x3_addWarp (by omega)).trans ((fr_X5_seeHarness e1 (by omega) (by omega)).trans rfl)))
            · intro _ _ q
              exact ((ih _ _ _ h).2 _ _ q).trans ((fr_X2_advance e2 (by omega)).trans ((fr_x3_addWarp (by omega)).trans ((fr_X5_seeHarness e1 (by omega) (by omega)).trans rfl)))
          · obtain ⟨z16, I15, e3, h⟩ := bd2_e h
            cases h
            refine ⟨?_, ?_⟩
            · intro _ _ q
              cases q
              exact ((fr_X5_fail e3 (by omega) (by omega)).trans ((fr_x3_addWarp (by omega)).trans ((fr_X5_seeHarness e1 (by omega) (by omega)).trans rfl)))
            · intro _ _ q
              cases q
        · cases h
          refine ⟨?_, ?_⟩
          · intro _ _ q
            cases q
            exact ((fr_X5_seeHarness e1 (by omega) (by omega)).trans rfl)
          · intro _ _ q
            cases q
      · rcases if_e h with h | h
        · obtain ⟨z19, I18, e4, h⟩ := bd2_e h
          rcases if_e h with h | h
          · have h := lx_e h
            have h := lx_e h
            rcases if_e h with h | h
            · obtain ⟨I24, e5, h⟩ := bd_e h
              refine ⟨?_, ?_⟩
              · intro _ _ q
                exact ((ih _ _ _ h).1 _ _ q).trans ((fr_X2_advance e5 (by omega)).trans ((fr_x3_addWarp (by omega)).trans ((fr_X5_seeHarness e4 (by omega) (by omega)).trans rfl)))
              · intro _ _ q
                exact ((ih _ _ _ h).2 _ _ q).trans ((fr_X2_advance e5 (by omega)).trans ((fr_x3_addWarp (by omega)).trans ((fr_X5_seeHarness e4 (by omega) (by omega)).trans rfl)))
            · obtain ⟨z26, I25, e6, h⟩ := bd2_e h
              cases h
              refine ⟨?_, ?_⟩
              · intro _ _ q
                cases q
                exact ((fr_X5_fail e6 (by omega) (by omega)).trans ((fr_x3_addWarp (by omega)).trans ((fr_X5_seeHarness e4 (by omega) (by omega)).trans rfl)))
              · intro _ _ q
                cases q
          · cases h
            refine ⟨?_, ?_⟩
            · intro _ _ q
              cases q
              exact ((fr_X5_seeHarness e4 (by omega) (by omega)).trans rfl)
            · intro _ _ q
              cases q
        · cases h
          refine ⟨?_, ?_⟩
          · intro _ _ q
            cases q
          · intro _ _ q
            cases q
            exact rfl
set_option maxHeartbeats 4000000 in
theorem fr_X5_readWarps {I : JI} {p : Nat} {P : Nat} {r : Bool} {J : JI} {z : Nat} (h : s_X5_readWarps I p P = some (r, J)) (hzp : z < p ∨ p + 2 ≤ z) (hzP : z < P ∨ P + 24 ≤ z) : J z = I z := by
  unfold s_X5_readWarps at h
  rcases if_e h with h | h
  · obtain ⟨I2, e1, h⟩ := bd_e h
    obtain ⟨z4, I3, e2, h⟩ := bd2_e h
    rcases if_e h with h | h
    · obtain ⟨o3, e3, h1, h⟩ := bl_e h
      rcases o3 with y3 | y3
      · have h1 := h1 _ rfl
        cases h1
        exact (((frl_X5_readWarps_L42 hzp hzP _ _ _ _ e3).1 _ _ rfl).trans ((fr_X5_takeColour e2 (by omega) (by omega)).trans ((fr_X2_advance e1 (by omega)).trans rfl)))
      have h := h _ rfl
      obtain ⟨y27, I28⟩ := y3
      cases h
      exact (((frl_X5_readWarps_L42 hzp hzP _ _ _ _ e3).2 _ _ rfl).trans ((fr_X5_takeColour e2 (by omega) (by omega)).trans ((fr_X2_advance e1 (by omega)).trans rfl)))
    · cases h
      exact ((fr_X5_takeColour e2 (by omega) (by omega)).trans ((fr_X2_advance e1 (by omega)).trans rfl))
  · obtain ⟨z31, I30, e4, h⟩ := bd2_e h
    cases h
    exact ((fr_X5_fail e4 (by omega) (by omega)).trans rfl)
noncomputable def s_X5_readCard_L43 (p P : Nat) (q1 : Int32) : Nat → Int32 → Int32 → JI → Option ((Bool × JI) ⊕ (Int32 × Int32 × JI))
  | 0, _, _, _ => none
  | f + 1, w2, w3, I => if 500 ≤ w3 then (some (.inr (w2, w3, I))) else (if (I (p + 1) 4) = 2 then (bd2 (s_X5_seeHarness I p P) fun z9 I8 => if z9 = true then (if (hasB w2 (I8 p 4)) = true then (bd2 (s_X5_fail I8 p P 3) fun z15 I14 => some (.inl (z15, I14))) else (lx (w2 ||| ((1 : Int32) <<< ((I8 p 4) &&& 31))) fun v12 => bd (s_X2_advance I8 (p + 1)) fun I13 => s_X5_readCard_L43 p P q1 f v12 (w3 + 1) I13)) else (some (.inl (false, I8)))) else (some (.inr (w2, w3, I))))
noncomputable def s_X5_readCard (I : JI) (p P : Nat) : Option (Bool × JI) :=
  if (I P 7) < 12 then (bd (s_X2_advance I (p + 1)) fun I2 => bd2 (s_X5_takeColour I2 p P) fun z4 I3 => if z4 = true then (bl (s_X5_readCard_L43 p P (I3 p 4) lf 0 0 I3) fun (y16, y17, I18) => lx (x3_addCard I18 P y16 (I3 p 4)) fun I20 => some (true, I20)) else (some (false, I3))) else (bd2 (s_X5_fail I p P 4) fun z22 I21 => some (z22, I21))
set_option maxHeartbeats 4000000 in
theorem l_X5_readCard_L43 {Ω : JO} {S : JS} {Q : JQ} {p : Nat} {P : Nat} {q1 : Int32} (hp : Is5 S p P) : ∀ (f : Nat) (w2 : Int32) (w3 : Int32) (I : JI) (o : ((Bool × JI) ⊕ (Int32 × Int32 × JI))), s_X5_readCard_L43 p P q1 f w2 w3 I = some o → (∀ (r : Bool) (J : JI), o = .inl (r, J) → Q (.inl (some (.int (zb r)))) J S) → (∀ (y2 : Int32) (y3 : Int32) (J : JI) , o = .inr (y2, y3, J) → AA Ω m_X5_readCard (FQ Ω m_X5_readCard Q) 0 0 109 [(2, .int y2), (3, .int y3), (1, .int q1), (0, .ref p)] [] J S) → AA Ω m_X5_readCard (FQ Ω m_X5_readCard Q) 0 0 43 [(2, .int w2), (3, .int w3), (1, .int q1), (0, .ref p)] [] I S := by
  intro f
  induction f with
  | zero =>
    intro w2 w3 I o h hR hE
    rw [s_X5_readCard_L43] at h
    cases h
  | succ f ih =>
    intro w2 w3 I o h hR hE
    rw [s_X5_readCard_L43] at h
    refine r_iload_n (pc' := 44) dX5_readCard_43 rfl 1 rfl rfl ?_
    refine r_sipush (pc' := 47) (v := 500) dX5_readCard_44 (by decide) rfl ?_
    refine r_icmp_ge (tgt := 109) (pc' := 50) dX5_readCard_47 rfl rfl (fun h6 => ?_) (fun h6 => ?_)
    · have h := ifp h6 h
      cases h
      exact hE _ _ _ rfl
    · have h := ifn h6 h
      refine r_aload_n (pc' := 51) dX5_readCard_50 rfl 3 rfl rfl ?_
      refine r_getO (pc' := 54) dX5_readCard_51 fa_X5_12 hp.o rfl hp.r0 rfl ?_
      refine r_getI (pc' := 57) dX5_readCard_54 fa_X5_49 hp.c0.o rfl rfl ?_
      refine r_iconst (pc' := 58) (v := 2) dX5_readCard_57 (by decide) rfl ?_
      refine r_icmp_ne (tgt := 109) (pc' := 61) dX5_readCard_58 rfl rfl (fun h7 => ?_) (fun h7 => ?_)
      · have h := ifn h7 h
        cases h
        exact hE _ _ _ rfl
      · have h := ifp h7 h
        refine r_aload_n (pc' := 62) dX5_readCard_61 rfl 3 rfl rfl ?_
        obtain ⟨z9, I8, ez9, h⟩ := bd2_e h
        refine r_callV0 (pc' := 65) (k' := 0) (n' := 0) dX5_readCard_62 mb_X5_seeHarness mi_X5_seeHarness hp.o (by decide) rfl lk_X5_84 rfl rfl rfl (Nat.le_of_ble_eq_true rfl) rfl (c_X5_seeHarness hp ez9 (cpI ?_))
        refine r_if_ne (tgt := 70) (pc' := 68) dX5_readCard_65 rfl rfl (fun h10 => ?_) (fun h10 => ?_)
        · have h := ifp (zb_p0 h10) h
          refine r_iload_n (pc' := 71) dX5_readCard_70 rfl 0 rfl rfl ?_
          refine r_aload_n (pc' := 72) dX5_readCard_71 rfl 3 rfl rfl ?_
          refine r_getI (pc' := 75) dX5_readCard_72 fa_X5_32 hp.o rfl rfl ?_
          refine r_callSN2 (pc' := 78) (k' := 0) (n' := 0) dX5_readCard_75 mb_X8_has ms_X8_has ln_X5_187 rfl rfl rfl (Nat.le_of_ble_eq_true rfl) rfl (c_X8_has  (cpI ?_))
          refine r_if_eq (tgt := 87) (pc' := 81) dX5_readCard_78 rfl rfl (fun h11 => ?_) (fun h11 => ?_)
          · have h := ifn (zb_n0 h11) h
            refine r_iload_n (pc' := 88) dX5_readCard_87 rfl 0 rfl rfl ?_
            refine r_iconst (pc' := 89) (v := 1) dX5_readCard_88 (by decide) rfl ?_
            refine r_aload_n (pc' := 90) dX5_readCard_89 rfl 3 rfl rfl ?_
            refine r_getI (pc' := 93) dX5_readCard_90 fa_X5_32 hp.o rfl rfl ?_
            refine r_ishl (pc' := 94) dX5_readCard_93 rfl ?_
            refine r_ior (pc' := 95) dX5_readCard_94 rfl ?_
            refine r_istore_n (pc' := 96) (lv' := [(2, _), (3, _), (1, _), (0, _)]) dX5_readCard_95 rfl (by decide) rfl rfl ?_
            have h := lx_e h
            refine r_aload_n (pc' := 97) dX5_readCard_96 rfl 3 rfl rfl ?_
            refine r_getO (pc' := 100) dX5_readCard_97 fa_X5_12 hp.o rfl hp.r0 rfl ?_
            obtain ⟨I13, eI13, h⟩ := bd_e h
            refine r_callV0 (pc' := 103) (k' := 0) (n' := 0) dX5_readCard_100 mb_X2_advance mi_X2_advance hp.c0.o (by decide) rfl lk_X5_56 rfl rfl rfl (Nat.le_of_ble_eq_true rfl) rfl (c_X2_advance hp.c0 eI13 (cpV ?_))
            refine r_iinc (pc' := 106) (v := _ + 1) (lv' := [(3, _), (2, _), (1, _), (0, _)]) dX5_readCard_103 1 rfl rfl (by decide) rfl rfl ?_
            refine r_goto (tgt := 43) dX5_readCard_106 rfl ?_
            refine aa_locs (ks := [1, 0, 2, 3]) (lv' := [(2, _), (3, _), (1, _), (0, _)]) rfl ?_
            exact ih _ _ _ _ h hR hE
          · have h := ifp (zb_p0 h11) h
            refine r_aload_n (pc' := 82) dX5_readCard_81 rfl 3 rfl rfl ?_
            refine r_iconst (pc' := 83) (v := 3) dX5_readCard_82 (by decide) rfl ?_
            obtain ⟨z15, I14, ez15, h⟩ := bd2_e h
            refine r_callV1 (pc' := 86) (k' := 0) (n' := 0) dX5_readCard_83 mb_X5_fail mi_X5_fail hp.o (by decide) rfl lk_X5_52 rfl rfl rfl (Nat.le_of_ble_eq_true rfl) rfl (c_X5_fail hp ez15 (cpI ?_))
            cases h
            exact r_zret dX5_readCard_86 rfl (zb01 _) (by decide) (by decide) (hR _ _ rfl)
        · have h := ifn (zb_n0 h10) h
          refine r_iconst (pc' := 69) (v := 0) dX5_readCard_68 (by decide) rfl ?_
          cases h
          exact r_zret dX5_readCard_69 rfl (by decide) (by decide) (by decide) (hR _ _ rfl)
set_option maxHeartbeats 4000000 in
theorem c_X5_readCard {Ω : JO} {I : JI} {S : JS} {Q : JQ} {p : Nat} {P : Nat} {r : Bool} {J : JI} (hp : Is5 S p P) (h : s_X5_readCard I p P = some (r, J)) (hQ : Q (.inl (some (.int (zb r)))) J S) : Call Ω m_X5_readCard [.ref p] I S Q := by
  refine call_of (by decide +kernel) rfl (Nat.le_of_ble_eq_true rfl) ?_
  change AA Ω m_X5_readCard (FQ Ω m_X5_readCard Q) 0 0 0 [(0, .ref p)] [] I S
  unfold s_X5_readCard at h
  refine r_aload_n (pc' := 1) dX5_readCard_0 rfl 0 rfl rfl ?_
  refine r_getO (pc' := 4) dX5_readCard_1 fa_X5_21 hp.o rfl hp.r1 rfl ?_
  refine r_getI (pc' := 7) dX5_readCard_4 fa_X5_75 hp.c1.o rfl rfl ?_
  refine r_bipush (pc' := 9) (v := 12) dX5_readCard_7 (by decide) rfl ?_
  refine r_icmp_lt (tgt := 18) (pc' := 12) dX5_readCard_9 rfl rfl (fun h1 => ?_) (fun h1 => ?_)
  · have h := ifp h1 h
    refine r_aload_n (pc' := 19) dX5_readCard_18 rfl 0 rfl rfl ?_
    refine r_getO (pc' := 22) dX5_readCard_19 fa_X5_12 hp.o rfl hp.r0 rfl ?_
    obtain ⟨I2, eI2, h⟩ := bd_e h
    refine r_callV0 (pc' := 25) (k' := 0) (n' := 0) dX5_readCard_22 mb_X2_advance mi_X2_advance hp.c0.o (by decide) rfl lk_X5_56 rfl rfl rfl (Nat.le_of_ble_eq_true rfl) rfl (c_X2_advance hp.c0 eI2 (cpV ?_))
    refine r_aload_n (pc' := 26) dX5_readCard_25 rfl 0 rfl rfl ?_
    obtain ⟨z4, I3, ez4, h⟩ := bd2_e h
    refine r_callV0 (pc' := 29) (k' := 0) (n' := 0) dX5_readCard_26 mb_X5_takeColour mi_X5_takeColour hp.o (by decide) rfl lk_X5_181 rfl rfl rfl (Nat.le_of_ble_eq_true rfl) rfl (c_X5_takeColour hp ez4 (cpI ?_))
    refine r_if_ne (tgt := 34) (pc' := 32) dX5_readCard_29 rfl rfl (fun h5 => ?_) (fun h5 => ?_)
    · have h := ifp (zb_p0 h5) h
      refine r_aload_n (pc' := 35) dX5_readCard_34 rfl 0 rfl rfl ?_
      refine r_getI (pc' := 38) dX5_readCard_35 fa_X5_32 hp.o rfl rfl ?_
      refine r_istore_n (pc' := 39) (lv' := [(1, _), (0, _)]) dX5_readCard_38 rfl (by decide) rfl rfl ?_
      refine r_iconst (pc' := 40) (v := 0) dX5_readCard_39 (by decide) rfl ?_
      refine r_istore_n (pc' := 41) (lv' := [(2, _), (1, _), (0, _)]) dX5_readCard_40 rfl (by decide) rfl rfl ?_
      refine r_iconst (pc' := 42) (v := 0) dX5_readCard_41 (by decide) rfl ?_
      refine r_istore_n (pc' := 43) (lv' := [(3, _), (2, _), (1, _), (0, _)]) dX5_readCard_42 rfl (by decide) rfl rfl ?_
      refine aa_locs (ks := [1, 0, 2, 3]) (lv' := [(2, _), (3, _), (1, _), (0, _)]) rfl ?_
      obtain ⟨o19, eo19, h1, h⟩ := bl_e h
      refine l_X5_readCard_L43 (Ω := Ω) hp _ _ _ _ _ eo19 (fun r J q => ?_) (fun y16 y17 I18 q => ?_)
      · have h1 := h1 _ q
        cases h1
        exact hQ
      have h := h _ q
      refine r_aload_n (pc' := 110) dX5_readCard_109 rfl 3 rfl rfl ?_
      refine r_getO (pc' := 113) dX5_readCard_110 fa_X5_21 hp.o rfl hp.r1 rfl ?_
      refine r_iload_n (pc' := 114) dX5_readCard_113 rfl 0 rfl rfl ?_
      refine r_iload_n (pc' := 115) dX5_readCard_114 rfl 2 rfl rfl ?_
      refine r_callV2 (pc' := 118) (k' := 0) (n' := 0) dX5_readCard_115 mb_X3_addCard mi_X3_addCard hp.c1.o (by decide) rfl lk_X5_190 rfl rfl rfl (Nat.le_of_ble_eq_true rfl) rfl (c_X3_addCard hp.c1 (cpV ?_))
      have h := lx_e h
      refine r_iconst (pc' := 119) (v := 1) dX5_readCard_118 (by decide) rfl ?_
      cases h
      exact r_zret dX5_readCard_119 rfl (by decide) (by decide) (by decide) hQ
    · have h := ifn (zb_n0 h5) h
      refine r_iconst (pc' := 33) (v := 0) dX5_readCard_32 (by decide) rfl ?_
      cases h
      exact r_zret dX5_readCard_33 rfl (by decide) (by decide) (by decide) hQ
  · have h := ifn h1 h
    refine r_aload_n (pc' := 13) dX5_readCard_12 rfl 0 rfl rfl ?_
    refine r_iconst (pc' := 14) (v := 4) dX5_readCard_13 (by decide) rfl ?_
    obtain ⟨z22, I21, ez22, h⟩ := bd2_e h
    refine r_callV1 (pc' := 17) (k' := 0) (n' := 0) dX5_readCard_14 mb_X5_fail mi_X5_fail hp.o (by decide) rfl lk_X5_52 rfl rfl rfl (Nat.le_of_ble_eq_true rfl) rfl (c_X5_fail hp ez22 (cpI ?_))
    cases h
    exact r_zret dX5_readCard_17 rfl (zb01 _) (by decide) (by decide) hQ
theorem frl_X5_readCard_L43 {p : Nat} {P : Nat} {q1 : Int32} {z : Nat} (hzp : z < p ∨ p + 2 ≤ z) (hzP : z < P ∨ P + 24 ≤ z) : ∀ (f : Nat) (w2 : Int32) (w3 : Int32) (I : JI) (o : ((Bool × JI) ⊕ (Int32 × Int32 × JI))), s_X5_readCard_L43 p P q1 f w2 w3 I = some o → (∀ (r : Bool) (J : JI), o = .inl (r, J) → J z = I z) ∧ (∀ (y2 : Int32) (y3 : Int32) (J : JI), o = .inr (y2, y3, J) → J z = I z) := by
  intro f
  induction f with
  | zero =>
    intro w2 w3 I o h
    rw [s_X5_readCard_L43] at h
    cases h
  | succ f ih =>
    intro w2 w3 I o h
    rw [s_X5_readCard_L43] at h
    rcases if_e h with h | h
    · cases h
      refine ⟨?_, ?_⟩
      · intro _ _ q
        cases q
      · intro _ _ _ q
        cases q
        exact rfl
    · rcases if_e h with h | h
      · obtain ⟨z9, I8, e1, h⟩ := bd2_e h
        rcases if_e h with h | h
        · rcases if_e h with h | h
          · obtain ⟨z15, I14, e2, h⟩ := bd2_e h
            cases h
            refine ⟨?_, ?_⟩
            · intro _ _ q
              cases q
              exact ((fr_X5_fail e2 (by omega) (by omega)).trans ((fr_X5_seeHarness e1 (by omega) (by omega)).trans rfl))
            · intro _ _ _ q
              cases q
          · have h := lx_e h
            obtain ⟨I13, e3, h⟩ := bd_e h
            refine ⟨?_, ?_⟩
            · intro _ _ q
              exact ((ih _ _ _ _ h).1 _ _ q).trans ((fr_X2_advance e3 (by omega)).trans ((fr_X5_seeHarness e1 (by omega) (by omega)).trans rfl))
            · intro _ _ _ q
              exact ((ih _ _ _ _ h).2 _ _ _ q).trans ((fr_X2_advance e3 (by omega)).trans ((fr_X5_seeHarness e1 (by omega) (by omega)).trans rfl))
        · cases h
          refine ⟨?_, ?_⟩
          · intro _ _ q
            cases q
            exact ((fr_X5_seeHarness e1 (by omega) (by omega)).trans rfl)
          · intro _ _ _ q
            cases q
      · cases h
        refine ⟨?_, ?_⟩
        · intro _ _ q
          cases q
        · intro _ _ _ q
          cases q
          exact rfl
set_option maxHeartbeats 4000000 in
theorem fr_X5_readCard {I : JI} {p : Nat} {P : Nat} {r : Bool} {J : JI} {z : Nat} (h : s_X5_readCard I p P = some (r, J)) (hzp : z < p ∨ p + 2 ≤ z) (hzP : z < P ∨ P + 24 ≤ z) : J z = I z := by
  unfold s_X5_readCard at h
  rcases if_e h with h | h
  · obtain ⟨I2, e1, h⟩ := bd_e h
    obtain ⟨z4, I3, e2, h⟩ := bd2_e h
    rcases if_e h with h | h
    · obtain ⟨o3, e3, h1, h⟩ := bl_e h
      rcases o3 with y3 | y3
      · have h1 := h1 _ rfl
        cases h1
        exact (((frl_X5_readCard_L43 hzp hzP _ _ _ _ _ e3).1 _ _ rfl).trans ((fr_X5_takeColour e2 (by omega) (by omega)).trans ((fr_X2_advance e1 (by omega)).trans rfl)))
      have h := h _ rfl
      obtain ⟨y16, y17, I18⟩ := y3
      have h := lx_e h
      cases h
      exact ((fr_x3_addCard (by omega)).trans (((frl_X5_readCard_L43 hzp hzP _ _ _ _ _ e3).2 _ _ _ rfl).trans ((fr_X5_takeColour e2 (by omega) (by omega)).trans ((fr_X2_advance e1 (by omega)).trans rfl))))
    · cases h
      exact ((fr_X5_takeColour e2 (by omega) (by omega)).trans ((fr_X2_advance e1 (by omega)).trans rfl))
  · obtain ⟨z22, I21, e4, h⟩ := bd2_e h
    cases h
    exact ((fr_X5_fail e4 (by omega) (by omega)).trans rfl)
noncomputable def s_X5_seeCard (I : JI) (p P : Nat) : Option (Bool × JI) :=
  bd2 (s_X5_seeNumber I p P 0 ((I P 7) - 1)) fun z2 I1 => some (z2, I1)
set_option maxHeartbeats 4000000 in
theorem c_X5_seeCard {Ω : JO} {I : JI} {S : JS} {Q : JQ} {p : Nat} {P : Nat} {r : Bool} {J : JI} (hp : Is5 S p P) (h : s_X5_seeCard I p P = some (r, J)) (hQ : Q (.inl (some (.int (zb r)))) J S) : Call Ω m_X5_seeCard [.ref p] I S Q := by
  refine call_of (by decide +kernel) rfl (Nat.le_of_ble_eq_true rfl) ?_
  change AA Ω m_X5_seeCard (FQ Ω m_X5_seeCard Q) 0 0 0 [(0, .ref p)] [] I S
  unfold s_X5_seeCard at h
  refine r_aload_n (pc' := 1) dX5_seeCard_0 rfl 0 rfl rfl ?_
  refine r_iconst (pc' := 2) (v := 0) dX5_seeCard_1 (by decide) rfl ?_
  refine r_aload_n (pc' := 3) dX5_seeCard_2 rfl 0 rfl rfl ?_
  refine r_getO (pc' := 6) dX5_seeCard_3 fa_X5_21 hp.o rfl hp.r1 rfl ?_
  refine r_getI (pc' := 9) dX5_seeCard_6 fa_X5_75 hp.c1.o rfl rfl ?_
  refine r_iconst (pc' := 10) (v := 1) dX5_seeCard_9 (by decide) rfl ?_
  refine r_isub (pc' := 11) dX5_seeCard_10 rfl ?_
  obtain ⟨z2, I1, ez2, h⟩ := bd2_e h
  refine r_callV2 (pc' := 14) (k' := 0) (n' := 0) dX5_seeCard_11 mb_X5_seeNumber mi_X5_seeNumber hp.o (by decide) rfl lk_X5_71 rfl rfl rfl (Nat.le_of_ble_eq_true rfl) rfl (c_X5_seeNumber hp ez2 (cpI ?_))
  cases h
  exact r_zret dX5_seeCard_14 rfl (zb01 _) (by decide) (by decide) hQ
set_option maxHeartbeats 4000000 in
theorem fr_X5_seeCard {I : JI} {p : Nat} {P : Nat} {r : Bool} {J : JI} {z : Nat} (h : s_X5_seeCard I p P = some (r, J)) (hzp : z < p ∨ p + 2 ≤ z) (hzP : z < P ∨ P + 24 ≤ z) : J z = I z := by
  unfold s_X5_seeCard at h
  obtain ⟨z2, I1, e1, h⟩ := bd2_e h
  cases h
  exact ((fr_X5_seeNumber e1 (by omega) (by omega)).trans rfl)
noncomputable def s_X5_readCardOfDeck (I : JI) (p P : Nat) : Option (Bool × JI) :=
  bd2 (s_X5_seeCard I p P) fun z2 I1 => if z2 = true then (lx (x0_addCardB I1 (P + 5)) fun z5 => lx (x0_addCard I1 (P + 5) (I1 p 4)) fun I4 => if z5 = true then (bd (s_X2_advance I4 (p + 1)) fun I7 => some (true, I7)) else (bd2 (s_X5_fail I4 p P 4) fun z9 I8 => some (z9, I8))) else (some (false, I1))
set_option maxHeartbeats 4000000 in
theorem c_X5_readCardOfDeck {Ω : JO} {I : JI} {S : JS} {Q : JQ} {p : Nat} {P : Nat} {r : Bool} {J : JI} (hp : Is5 S p P) (h : s_X5_readCardOfDeck I p P = some (r, J)) (hQ : Q (.inl (some (.int (zb r)))) J S) : Call Ω m_X5_readCardOfDeck [.ref p] I S Q := by
  refine call_of (by decide +kernel) rfl (Nat.le_of_ble_eq_true rfl) ?_
  change AA Ω m_X5_readCardOfDeck (FQ Ω m_X5_readCardOfDeck Q) 0 0 0 [(0, .ref p)] [] I S
  unfold s_X5_readCardOfDeck at h
  refine r_aload_n (pc' := 1) dX5_readCardOfDeck_0 rfl 0 rfl rfl ?_
  obtain ⟨z2, I1, ez2, h⟩ := bd2_e h
  refine r_callV0 (pc' := 4) (k' := 0) (n' := 0) dX5_readCardOfDeck_1 mb_X5_seeCard mi_X5_seeCard hp.o (by decide) rfl lk_X5_78 rfl rfl rfl (Nat.le_of_ble_eq_true rfl) rfl (c_X5_seeCard hp ez2 (cpI ?_))
  refine r_if_ne (tgt := 9) (pc' := 7) dX5_readCardOfDeck_4 rfl rfl (fun h3 => ?_) (fun h3 => ?_)
  · have h := ifp (zb_p0 h3) h
    refine r_aload_n (pc' := 10) dX5_readCardOfDeck_9 rfl 0 rfl rfl ?_
    refine r_getO (pc' := 13) dX5_readCardOfDeck_10 fa_X5_21 hp.o rfl hp.r1 rfl ?_
    refine r_getO (pc' := 16) dX5_readCardOfDeck_13 fa_X5_194 hp.c1.o rfl hp.c1.r10 rfl ?_
    refine r_aload_n (pc' := 17) dX5_readCardOfDeck_16 rfl 0 rfl rfl ?_
    refine r_getI (pc' := 20) dX5_readCardOfDeck_17 fa_X5_32 hp.o rfl rfl ?_
    refine r_callV1 (pc' := 23) (k' := 0) (n' := 0) dX5_readCardOfDeck_20 mb_X0_addCard mi_X0_addCard hp.c1.c10.o (by decide) rfl lk_X5_217 rfl rfl rfl (Nat.le_of_ble_eq_true rfl) rfl (c_X0_addCard hp.c1.c10 (cpI ?_))
    have h := lx_e h
    have h := lx_e h
    refine r_if_ne (tgt := 32) (pc' := 26) dX5_readCardOfDeck_23 rfl rfl (fun h6 => ?_) (fun h6 => ?_)
    · have h := ifp (zb_p0 h6) h
      refine r_aload_n (pc' := 33) dX5_readCardOfDeck_32 rfl 0 rfl rfl ?_
      refine r_getO (pc' := 36) dX5_readCardOfDeck_33 fa_X5_12 hp.o rfl hp.r0 rfl ?_
      obtain ⟨I7, eI7, h⟩ := bd_e h
      refine r_callV0 (pc' := 39) (k' := 0) (n' := 0) dX5_readCardOfDeck_36 mb_X2_advance mi_X2_advance hp.c0.o (by decide) rfl lk_X5_56 rfl rfl rfl (Nat.le_of_ble_eq_true rfl) rfl (c_X2_advance hp.c0 eI7 (cpV ?_))
      refine r_iconst (pc' := 40) (v := 1) dX5_readCardOfDeck_39 (by decide) rfl ?_
      cases h
      exact r_zret dX5_readCardOfDeck_40 rfl (by decide) (by decide) (by decide) hQ
    · have h := ifn (zb_n0 h6) h
      refine r_aload_n (pc' := 27) dX5_readCardOfDeck_26 rfl 0 rfl rfl ?_
      refine r_iconst (pc' := 28) (v := 4) dX5_readCardOfDeck_27 (by decide) rfl ?_
      obtain ⟨z9, I8, ez9, h⟩ := bd2_e h
      refine r_callV1 (pc' := 31) (k' := 0) (n' := 0) dX5_readCardOfDeck_28 mb_X5_fail mi_X5_fail hp.o (by decide) rfl lk_X5_52 rfl rfl rfl (Nat.le_of_ble_eq_true rfl) rfl (c_X5_fail hp ez9 (cpI ?_))
      cases h
      exact r_zret dX5_readCardOfDeck_31 rfl (zb01 _) (by decide) (by decide) hQ
  · have h := ifn (zb_n0 h3) h
    refine r_iconst (pc' := 8) (v := 0) dX5_readCardOfDeck_7 (by decide) rfl ?_
    cases h
    exact r_zret dX5_readCardOfDeck_8 rfl (by decide) (by decide) (by decide) hQ
set_option maxHeartbeats 4000000 in
theorem fr_X5_readCardOfDeck {I : JI} {p : Nat} {P : Nat} {r : Bool} {J : JI} {z : Nat} (h : s_X5_readCardOfDeck I p P = some (r, J)) (hzp : z < p ∨ p + 2 ≤ z) (hzP : z < P ∨ P + 24 ≤ z) : J z = I z := by
  unfold s_X5_readCardOfDeck at h
  obtain ⟨z2, I1, e1, h⟩ := bd2_e h
  rcases if_e h with h | h
  · have h := lx_e h
    have h := lx_e h
    rcases if_e h with h | h
    · obtain ⟨I7, e2, h⟩ := bd_e h
      cases h
      exact ((fr_X2_advance e2 (by omega)).trans ((fr_x0_addCard (by omega)).trans ((fr_X5_seeCard e1 (by omega) (by omega)).trans rfl)))
    · obtain ⟨z9, I8, e3, h⟩ := bd2_e h
      cases h
      exact ((fr_X5_fail e3 (by omega) (by omega)).trans ((fr_x0_addCard (by omega)).trans ((fr_X5_seeCard e1 (by omega) (by omega)).trans rfl)))
  · cases h
    exact ((fr_X5_seeCard e1 (by omega) (by omega)).trans rfl)
noncomputable def s_X5_readOpening (I : JI) (p P : Nat) : Option (Bool × JI) :=
  if (decide (3 ≤ I (P + 5) 7)) = true then (bd2 (s_X5_fail I p P 4) fun z40 I39 => some (z40, I39)) else (bd (s_X2_isWord I (p + 1) "repeat") fun z2 => bd (s_X2_isWord I (p + 1) "mirror") fun z3 => if z3 = true then (bd (s_X2_advance I (p + 1)) fun I22 => if z2 = true then (bd2 (s_X5_seeNumber I22 p P 1 20) fun z30 I29 => if z30 = true then (lx (200 + (I29 p 4)) fun v32 => bd (s_X2_advance I29 (p + 1)) fun I33 => if (I33 (p + 1) 4) = 4 then (lx (x0_openPart I33 (P + 5) v32) fun I35 => bd (s_X2_advance I35 (p + 1)) fun I36 => some (true, I36)) else (bd2 (s_X5_fail I33 p P 1) fun z38 I37 => some (z38, I37))) else (some (false, I29))) else (if (I22 (p + 1) 4) = 4 then (lx (x0_openPart I22 (P + 5) 101) fun I25 => bd (s_X2_advance I25 (p + 1)) fun I26 => some (true, I26)) else (bd2 (s_X5_fail I22 p P 1) fun z28 I27 => some (z28, I27)))) else (bd (s_X2_advance I (p + 1)) fun I5 => if z2 = true then (bd2 (s_X5_seeNumber I5 p P 1 20) fun z13 I12 => if z13 = true then (lx (200 + (I12 p 4)) fun v15 => bd (s_X2_advance I12 (p + 1)) fun I16 => if (I16 (p + 1) 4) = 4 then (lx (x0_openPart I16 (P + 5) v15) fun I18 => bd (s_X2_advance I18 (p + 1)) fun I19 => some (true, I19)) else (bd2 (s_X5_fail I16 p P 1) fun z21 I20 => some (z21, I20))) else (some (false, I12))) else (if (I5 (p + 1) 4) = 4 then (lx (x0_openPart I5 (P + 5) 102) fun I8 => bd (s_X2_advance I8 (p + 1)) fun I9 => some (true, I9)) else (bd2 (s_X5_fail I5 p P 1) fun z11 I10 => some (z11, I10)))))
set_option maxHeartbeats 4000000 in
theorem c_X5_readOpening {Ω : JO} {I : JI} {S : JS} {Q : JQ} {p : Nat} {P : Nat} {r : Bool} {J : JI} (hp : Is5 S p P) (h : s_X5_readOpening I p P = some (r, J)) (hQ : Q (.inl (some (.int (zb r)))) J S) : Call Ω m_X5_readOpening [.ref p] I S Q := by
  refine call_of (by decide +kernel) rfl (Nat.le_of_ble_eq_true rfl) ?_
  change AA Ω m_X5_readOpening (FQ Ω m_X5_readOpening Q) 0 0 0 [(0, .ref p)] [] I S
  unfold s_X5_readOpening at h
  refine r_aload_n (pc' := 1) dX5_readOpening_0 rfl 0 rfl rfl ?_
  refine r_getO (pc' := 4) dX5_readOpening_1 fa_X5_21 hp.o rfl hp.r1 rfl ?_
  refine r_getO (pc' := 7) dX5_readOpening_4 fa_X5_194 hp.c1.o rfl hp.c1.r10 rfl ?_
  refine r_callV0 (pc' := 10) (k' := 0) (n' := 0) dX5_readOpening_7 mb_X0_isNestingFull mi_X0_isNestingFull hp.c1.c10.o (by decide) rfl lk_X5_219 rfl rfl rfl (Nat.le_of_ble_eq_true rfl) rfl (c_X0_isNestingFull hp.c1.c10 (cpI ?_))
  refine r_if_eq (tgt := 19) (pc' := 13) dX5_readOpening_10 rfl rfl (fun h1 => ?_) (fun h1 => ?_)
  · have h := ifn (zb_n0 h1) h
    refine r_aload_n (pc' := 20) dX5_readOpening_19 rfl 0 rfl rfl ?_
    refine r_getO (pc' := 23) dX5_readOpening_20 fa_X5_12 hp.o rfl hp.r0 rfl ?_
    refine r_ldcS (pc' := 25) (tx := "repeat") dX5_readOpening_23 sw_X5_205 rfl ?_
    obtain ⟨z2, ez2, h⟩ := bd_e h
    refine r_callV1 (pc' := 28) (k' := 0) (n' := 0) dX5_readOpening_25 mb_X2_isWord mi_X2_isWord hp.c0.o (by decide) rfl lk_X5_92 rfl rfl rfl (Nat.le_of_ble_eq_true rfl) rfl (c_X2_isWord hp.c0 sw_X5_205 ez2 (cpI ?_))
    refine r_istore_n (pc' := 29) (lv' := [(1, _), (0, _)]) dX5_readOpening_28 rfl (by decide) rfl rfl ?_
    refine r_aload_n (pc' := 30) dX5_readOpening_29 rfl 1 rfl rfl ?_
    refine r_getO (pc' := 33) dX5_readOpening_30 fa_X5_12 hp.o rfl hp.r0 rfl ?_
    refine r_ldcS (pc' := 35) (tx := "mirror") dX5_readOpening_33 sw_X5_207 rfl ?_
    obtain ⟨z3, ez3, h⟩ := bd_e h
    refine r_callV1 (pc' := 38) (k' := 0) (n' := 0) dX5_readOpening_35 mb_X2_isWord mi_X2_isWord hp.c0.o (by decide) rfl lk_X5_92 rfl rfl rfl (Nat.le_of_ble_eq_true rfl) rfl (c_X2_isWord hp.c0 sw_X5_207 ez3 (cpI ?_))
    refine r_if_eq (tgt := 46) (pc' := 41) dX5_readOpening_38 rfl rfl (fun h4 => ?_) (fun h4 => ?_)
    · have h := ifn (zb_n0 h4) h
      refine r_bipush (pc' := 48) (v := 102) dX5_readOpening_46 (by decide) rfl ?_
      refine r_istore_n (pc' := 49) (lv' := [(2, _), (1, _), (0, _)]) dX5_readOpening_48 rfl (by decide) rfl rfl ?_
      refine r_aload_n (pc' := 50) dX5_readOpening_49 rfl 2 rfl rfl ?_
      refine r_getO (pc' := 53) dX5_readOpening_50 fa_X5_12 hp.o rfl hp.r0 rfl ?_
      obtain ⟨I5, eI5, h⟩ := bd_e h
      refine r_callV0 (pc' := 56) (k' := 0) (n' := 0) dX5_readOpening_53 mb_X2_advance mi_X2_advance hp.c0.o (by decide) rfl lk_X5_56 rfl rfl rfl (Nat.le_of_ble_eq_true rfl) rfl (c_X2_advance hp.c0 eI5 (cpV ?_))
      refine r_iload_n (pc' := 57) dX5_readOpening_56 rfl 1 rfl rfl ?_
      refine r_if_eq (tgt := 88) (pc' := 60) dX5_readOpening_57 rfl rfl (fun h6 => ?_) (fun h6 => ?_)
      · have h := ifn (zb_n0 h6) h
        refine r_aload_n (pc' := 89) dX5_readOpening_88 rfl 2 rfl rfl ?_
        refine r_getO (pc' := 92) dX5_readOpening_89 fa_X5_12 hp.o rfl hp.r0 rfl ?_
        refine r_getI (pc' := 95) dX5_readOpening_92 fa_X5_49 hp.c0.o rfl rfl ?_
        refine r_iconst (pc' := 96) (v := 4) dX5_readOpening_95 (by decide) rfl ?_
        refine r_icmp_eq (tgt := 105) (pc' := 99) dX5_readOpening_96 rfl rfl (fun h7 => ?_) (fun h7 => ?_)
        · have h := ifp h7 h
          refine r_aload_n (pc' := 106) dX5_readOpening_105 rfl 2 rfl rfl ?_
          refine r_getO (pc' := 109) dX5_readOpening_106 fa_X5_21 hp.o rfl hp.r1 rfl ?_
          refine r_getO (pc' := 112) dX5_readOpening_109 fa_X5_194 hp.c1.o rfl hp.c1.r10 rfl ?_
          refine r_iload_n (pc' := 113) dX5_readOpening_112 rfl 0 rfl rfl ?_
          refine r_callV1 (pc' := 116) (k' := 0) (n' := 0) dX5_readOpening_113 mb_X0_openPart mi_X0_openPart hp.c1.c10.o (by decide) rfl lk_X5_222 rfl rfl rfl (Nat.le_of_ble_eq_true rfl) rfl (c_X0_openPart hp.c1.c10 (cpV ?_))
          have h := lx_e h
          refine r_aload_n (pc' := 117) dX5_readOpening_116 rfl 2 rfl rfl ?_
          refine r_getO (pc' := 120) dX5_readOpening_117 fa_X5_12 hp.o rfl hp.r0 rfl ?_
          obtain ⟨I9, eI9, h⟩ := bd_e h
          refine r_callV0 (pc' := 123) (k' := 0) (n' := 0) dX5_readOpening_120 mb_X2_advance mi_X2_advance hp.c0.o (by decide) rfl lk_X5_56 rfl rfl rfl (Nat.le_of_ble_eq_true rfl) rfl (c_X2_advance hp.c0 eI9 (cpV ?_))
          refine r_iconst (pc' := 124) (v := 1) dX5_readOpening_123 (by decide) rfl ?_
          cases h
          exact r_zret dX5_readOpening_124 rfl (by decide) (by decide) (by decide) hQ
        · have h := ifn h7 h
          refine r_aload_n (pc' := 100) dX5_readOpening_99 rfl 2 rfl rfl ?_
          refine r_iconst (pc' := 101) (v := 1) dX5_readOpening_100 (by decide) rfl ?_
          obtain ⟨z11, I10, ez11, h⟩ := bd2_e h
          refine r_callV1 (pc' := 104) (k' := 0) (n' := 0) dX5_readOpening_101 mb_X5_fail mi_X5_fail hp.o (by decide) rfl lk_X5_52 rfl rfl rfl (Nat.le_of_ble_eq_true rfl) rfl (c_X5_fail hp ez11 (cpI ?_))
          cases h
          exact r_zret dX5_readOpening_104 rfl (zb01 _) (by decide) (by decide) hQ
      · have h := ifp (zb_p0 h6) h
        refine r_aload_n (pc' := 61) dX5_readOpening_60 rfl 2 rfl rfl ?_
        refine r_iconst (pc' := 62) (v := 1) dX5_readOpening_61 (by decide) rfl ?_
        refine r_bipush (pc' := 64) (v := 20) dX5_readOpening_62 (by decide) rfl ?_
        obtain ⟨z13, I12, ez13, h⟩ := bd2_e h
        refine r_callV2 (pc' := 67) (k' := 0) (n' := 0) dX5_readOpening_64 mb_X5_seeNumber mi_X5_seeNumber hp.o (by decide) rfl lk_X5_71 rfl rfl rfl (Nat.le_of_ble_eq_true rfl) rfl (c_X5_seeNumber hp ez13 (cpI ?_))
        refine r_if_ne (tgt := 72) (pc' := 70) dX5_readOpening_67 rfl rfl (fun h14 => ?_) (fun h14 => ?_)
        · have h := ifp (zb_p0 h14) h
          refine r_sipush (pc' := 75) (v := 200) dX5_readOpening_72 (by decide) rfl ?_
          refine r_aload_n (pc' := 76) dX5_readOpening_75 rfl 2 rfl rfl ?_
          refine r_getI (pc' := 79) dX5_readOpening_76 fa_X5_32 hp.o rfl rfl ?_
          refine r_iadd (pc' := 80) dX5_readOpening_79 rfl ?_
          refine r_istore_n (pc' := 81) (lv' := [(2, _), (1, _), (0, _)]) dX5_readOpening_80 rfl (by decide) rfl rfl ?_
          have h := lx_e h
          refine r_aload_n (pc' := 82) dX5_readOpening_81 rfl 2 rfl rfl ?_
          refine r_getO (pc' := 85) dX5_readOpening_82 fa_X5_12 hp.o rfl hp.r0 rfl ?_
          obtain ⟨I16, eI16, h⟩ := bd_e h
          refine r_callV0 (pc' := 88) (k' := 0) (n' := 0) dX5_readOpening_85 mb_X2_advance mi_X2_advance hp.c0.o (by decide) rfl lk_X5_56 rfl rfl rfl (Nat.le_of_ble_eq_true rfl) rfl (c_X2_advance hp.c0 eI16 (cpV ?_))
          refine r_aload_n (pc' := 89) dX5_readOpening_88 rfl 2 rfl rfl ?_
          refine r_getO (pc' := 92) dX5_readOpening_89 fa_X5_12 hp.o rfl hp.r0 rfl ?_
          refine r_getI (pc' := 95) dX5_readOpening_92 fa_X5_49 hp.c0.o rfl rfl ?_
          refine r_iconst (pc' := 96) (v := 4) dX5_readOpening_95 (by decide) rfl ?_
          refine r_icmp_eq (tgt := 105) (pc' := 99) dX5_readOpening_96 rfl rfl (fun h17 => ?_) (fun h17 => ?_)
          · have h := ifp h17 h
            refine r_aload_n (pc' := 106) dX5_readOpening_105 rfl 2 rfl rfl ?_
            refine r_getO (pc' := 109) dX5_readOpening_106 fa_X5_21 hp.o rfl hp.r1 rfl ?_
            refine r_getO (pc' := 112) dX5_readOpening_109 fa_X5_194 hp.c1.o rfl hp.c1.r10 rfl ?_
            refine r_iload_n (pc' := 113) dX5_readOpening_112 rfl 0 rfl rfl ?_
            refine r_callV1 (pc' := 116) (k' := 0) (n' := 0) dX5_readOpening_113 mb_X0_openPart mi_X0_openPart hp.c1.c10.o (by decide) rfl lk_X5_222 rfl rfl rfl (Nat.le_of_ble_eq_true rfl) rfl (c_X0_openPart hp.c1.c10 (cpV ?_))
            have h := lx_e h
            refine r_aload_n (pc' := 117) dX5_readOpening_116 rfl 2 rfl rfl ?_
            refine r_getO (pc' := 120) dX5_readOpening_117 fa_X5_12 hp.o rfl hp.r0 rfl ?_
            obtain ⟨I19, eI19, h⟩ := bd_e h
            refine r_callV0 (pc' := 123) (k' := 0) (n' := 0) dX5_readOpening_120 mb_X2_advance mi_X2_advance hp.c0.o (by decide) rfl lk_X5_56 rfl rfl rfl (Nat.le_of_ble_eq_true rfl) rfl (c_X2_advance hp.c0 eI19 (cpV ?_))
            refine r_iconst (pc' := 124) (v := 1) dX5_readOpening_123 (by decide) rfl ?_
            cases h
            exact r_zret dX5_readOpening_124 rfl (by decide) (by decide) (by decide) hQ
          · have h := ifn h17 h
            refine r_aload_n (pc' := 100) dX5_readOpening_99 rfl 2 rfl rfl ?_
            refine r_iconst (pc' := 101) (v := 1) dX5_readOpening_100 (by decide) rfl ?_
            obtain ⟨z21, I20, ez21, h⟩ := bd2_e h
            refine r_callV1 (pc' := 104) (k' := 0) (n' := 0) dX5_readOpening_101 mb_X5_fail mi_X5_fail hp.o (by decide) rfl lk_X5_52 rfl rfl rfl (Nat.le_of_ble_eq_true rfl) rfl (c_X5_fail hp ez21 (cpI ?_))
            cases h
            exact r_zret dX5_readOpening_104 rfl (zb01 _) (by decide) (by decide) hQ
        · have h := ifn (zb_n0 h14) h
          refine r_iconst (pc' := 71) (v := 0) dX5_readOpening_70 (by decide) rfl ?_
          cases h
          exact r_zret dX5_readOpening_71 rfl (by decide) (by decide) (by decide) hQ
    · have h := ifp (zb_p0 h4) h
      refine r_bipush (pc' := 43) (v := 101) dX5_readOpening_41 (by decide) rfl ?_
      refine r_goto (tgt := 48) dX5_readOpening_43 rfl ?_
      refine r_istore_n (pc' := 49) (lv' := [(2, _), (1, _), (0, _)]) dX5_readOpening_48 rfl (by decide) rfl rfl ?_
      refine r_aload_n (pc' := 50) dX5_readOpening_49 rfl 2 rfl rfl ?_
      refine r_getO (pc' := 53) dX5_readOpening_50 fa_X5_12 hp.o rfl hp.r0 rfl ?_
      obtain ⟨I22, eI22, h⟩ := bd_e h
      refine r_callV0 (pc' := 56) (k' := 0) (n' := 0) dX5_readOpening_53 mb_X2_advance mi_X2_advance hp.c0.o (by decide) rfl lk_X5_56 rfl rfl rfl (Nat.le_of_ble_eq_true rfl) rfl (c_X2_advance hp.c0 eI22 (cpV ?_))
      refine r_iload_n (pc' := 57) dX5_readOpening_56 rfl 1 rfl rfl ?_
      refine r_if_eq (tgt := 88) (pc' := 60) dX5_readOpening_57 rfl rfl (fun h23 => ?_) (fun h23 => ?_)
      · have h := ifn (zb_n0 h23) h
        refine r_aload_n (pc' := 89) dX5_readOpening_88 rfl 2 rfl rfl ?_
        refine r_getO (pc' := 92) dX5_readOpening_89 fa_X5_12 hp.o rfl hp.r0 rfl ?_
        refine r_getI (pc' := 95) dX5_readOpening_92 fa_X5_49 hp.c0.o rfl rfl ?_
        refine r_iconst (pc' := 96) (v := 4) dX5_readOpening_95 (by decide) rfl ?_
        refine r_icmp_eq (tgt := 105) (pc' := 99) dX5_readOpening_96 rfl rfl (fun h24 => ?_) (fun h24 => ?_)
        · have h := ifp h24 h
          refine r_aload_n (pc' := 106) dX5_readOpening_105 rfl 2 rfl rfl ?_
          refine r_getO (pc' := 109) dX5_readOpening_106 fa_X5_21 hp.o rfl hp.r1 rfl ?_
          refine r_getO (pc' := 112) dX5_readOpening_109 fa_X5_194 hp.c1.o rfl hp.c1.r10 rfl ?_
          refine r_iload_n (pc' := 113) dX5_readOpening_112 rfl 0 rfl rfl ?_
          refine r_callV1 (pc' := 116) (k' := 0) (n' := 0) dX5_readOpening_113 mb_X0_openPart mi_X0_openPart hp.c1.c10.o (by decide) rfl lk_X5_222 rfl rfl rfl (Nat.le_of_ble_eq_true rfl) rfl (c_X0_openPart hp.c1.c10 (cpV ?_))
          have h := lx_e h
          refine r_aload_n (pc' := 117) dX5_readOpening_116 rfl 2 rfl rfl ?_
          refine r_getO (pc' := 120) dX5_readOpening_117 fa_X5_12 hp.o rfl hp.r0 rfl ?_
          obtain ⟨I26, eI26, h⟩ := bd_e h
          refine r_callV0 (pc' := 123) (k' := 0) (n' := 0) dX5_readOpening_120 mb_X2_advance mi_X2_advance hp.c0.o (by decide) rfl lk_X5_56 rfl rfl rfl (Nat.le_of_ble_eq_true rfl) rfl (c_X2_advance hp.c0 eI26 (cpV ?_))
          refine r_iconst (pc' := 124) (v := 1) dX5_readOpening_123 (by decide) rfl ?_
          cases h
          exact r_zret dX5_readOpening_124 rfl (by decide) (by decide) (by decide) hQ
        · have h := ifn h24 h
          refine r_aload_n (pc' := 100) dX5_readOpening_99 rfl 2 rfl rfl ?_
          refine r_iconst (pc' := 101) (v := 1) dX5_readOpening_100 (by decide) rfl ?_
          obtain ⟨z28, I27, ez28, h⟩ := bd2_e h
          refine r_callV1 (pc' := 104) (k' := 0) (n' := 0) dX5_readOpening_101 mb_X5_fail mi_X5_fail hp.o (by decide) rfl lk_X5_52 rfl rfl rfl (Nat.le_of_ble_eq_true rfl) rfl (c_X5_fail hp ez28 (cpI ?_))
          cases h
          exact r_zret dX5_readOpening_104 rfl (zb01 _) (by decide) (by decide) hQ
      · have h := ifp (zb_p0 h23) h
        refine r_aload_n (pc' := 61) dX5_readOpening_60 rfl 2 rfl rfl ?_
        refine r_iconst (pc' := 62) (v := 1) dX5_readOpening_61 (by decide) rfl ?_
        refine r_bipush (pc' := 64) (v := 20) dX5_readOpening_62 (by decide) rfl ?_
        obtain ⟨z30, I29, ez30, h⟩ := bd2_e h
        refine r_callV2 (pc' := 67) (k' := 0) (n' := 0) dX5_readOpening_64 mb_X5_seeNumber mi_X5_seeNumber hp.o (by decide) rfl lk_X5_71 rfl rfl rfl (Nat.le_of_ble_eq_true rfl) rfl (c_X5_seeNumber hp ez30 (cpI ?_))
        refine r_if_ne (tgt := 72) (pc' := 70) dX5_readOpening_67 rfl rfl (fun h31 => ?_) (fun h31 => ?_)
        · have h := ifp (zb_p0 h31) h
          refine r_sipush (pc' := 75) (v := 200) dX5_readOpening_72 (by decide) rfl ?_
          refine r_aload_n (pc' := 76) dX5_readOpening_75 rfl 2 rfl rfl ?_
          refine r_getI (pc' := 79) dX5_readOpening_76 fa_X5_32 hp.o rfl rfl ?_
          refine r_iadd (pc' := 80) dX5_readOpening_79 rfl ?_
          refine r_istore_n (pc' := 81) (lv' := [(2, _), (1, _), (0, _)]) dX5_readOpening_80 rfl (by decide) rfl rfl ?_
          have h := lx_e h
          refine r_aload_n (pc' := 82) dX5_readOpening_81 rfl 2 rfl rfl ?_
          refine r_getO (pc' := 85) dX5_readOpening_82 fa_X5_12 hp.o rfl hp.r0 rfl ?_
          obtain ⟨I33, eI33, h⟩ := bd_e h
          refine r_callV0 (pc' := 88) (k' := 0) (n' := 0) dX5_readOpening_85 mb_X2_advance mi_X2_advance hp.c0.o (by decide) rfl lk_X5_56 rfl rfl rfl (Nat.le_of_ble_eq_true rfl) rfl (c_X2_advance hp.c0 eI33 (cpV ?_))
          refine r_aload_n (pc' := 89) dX5_readOpening_88 rfl 2 rfl rfl ?_
          refine r_getO (pc' := 92) dX5_readOpening_89 fa_X5_12 hp.o rfl hp.r0 rfl ?_
          refine r_getI (pc' := 95) dX5_readOpening_92 fa_X5_49 hp.c0.o rfl rfl ?_
          refine r_iconst (pc' := 96) (v := 4) dX5_readOpening_95 (by decide) rfl ?_
          refine r_icmp_eq (tgt := 105) (pc' := 99) dX5_readOpening_96 rfl rfl (fun h34 => ?_) (fun h34 => ?_)
          · have h := ifp h34 h
            refine r_aload_n (pc' := 106) dX5_readOpening_105 rfl 2 rfl rfl ?_
            refine r_getO (pc' := 109) dX5_readOpening_106 fa_X5_21 hp.o rfl hp.r1 rfl ?_
            refine r_getO (pc' := 112) dX5_readOpening_109 fa_X5_194 hp.c1.o rfl hp.c1.r10 rfl ?_
            refine r_iload_n (pc' := 113) dX5_readOpening_112 rfl 0 rfl rfl ?_
            refine r_callV1 (pc' := 116) (k' := 0) (n' := 0) dX5_readOpening_113 mb_X0_openPart mi_X0_openPart hp.c1.c10.o (by decide) rfl lk_X5_222 rfl rfl rfl (Nat.le_of_ble_eq_true rfl) rfl (c_X0_openPart hp.c1.c10 (cpV ?_))
            have h := lx_e h
            refine r_aload_n (pc' := 117) dX5_readOpening_116 rfl 2 rfl rfl ?_
            refine r_getO (pc' := 120) dX5_readOpening_117 fa_X5_12 hp.o rfl hp.r0 rfl ?_
            obtain ⟨I36, eI36, h⟩ := bd_e h
            refine r_callV0 (pc' := 123) (k' := 0) (n' := 0) dX5_readOpening_120 mb_X2_advance mi_X2_advance hp.c0.o (by decide) rfl lk_X5_56 rfl rfl rfl (Nat.le_of_ble_eq_true rfl) rfl (c_X2_advance hp.c0 eI36 (cpV ?_))
            refine r_iconst (pc' := 124) (v := 1) dX5_readOpening_123 (by decide) rfl ?_
            cases h
            exact r_zret dX5_readOpening_124 rfl (by decide) (by decide) (by decide) hQ
          · have h := ifn h34 h
            refine r_aload_n (pc' := 100) dX5_readOpening_99 rfl 2 rfl rfl ?_
            refine r_iconst (pc' := 101) (v := 1) dX5_readOpening_100 (by decide) rfl ?_
            obtain ⟨z38, I37, ez38, h⟩ := bd2_e h
            refine r_callV1 (pc' := 104) (k' := 0) (n' := 0) dX5_readOpening_101 mb_X5_fail mi_X5_fail hp.o (by decide) rfl lk_X5_52 rfl rfl rfl (Nat.le_of_ble_eq_true rfl) rfl (c_X5_fail hp ez38 (cpI ?_))
            cases h
            exact r_zret dX5_readOpening_104 rfl (zb01 _) (by decide) (by decide) hQ
        · have h := ifn (zb_n0 h31) h
          refine r_iconst (pc' := 71) (v := 0) dX5_readOpening_70 (by decide) rfl ?_
          cases h
          exact r_zret dX5_readOpening_71 rfl (by decide) (by decide) (by decide) hQ
  · have h := ifp (zb_p0 h1) h
    refine r_aload_n (pc' := 14) dX5_readOpening_13 rfl 0 rfl rfl ?_
    refine r_iconst (pc' := 15) (v := 4) dX5_readOpening_14 (by decide) rfl ?_
    obtain ⟨z40, I39, ez40, h⟩ := bd2_e h
    refine r_callV1 (pc' := 18) (k' := 0) (n' := 0) dX5_readOpening_15 mb_X5_fail mi_X5_fail hp.o (by decide) rfl lk_X5_52 rfl rfl rfl (Nat.le_of_ble_eq_true rfl) rfl (c_X5_fail hp ez40 (cpI ?_))
    cases h
    exact r_zret dX5_readOpening_18 rfl (zb01 _) (by decide) (by decide) hQ
set_option maxHeartbeats 4000000 in
theorem fr_X5_readOpening {I : JI} {p : Nat} {P : Nat} {r : Bool} {J : JI} {z : Nat} (h : s_X5_readOpening I p P = some (r, J)) (hzp : z < p ∨ p + 2 ≤ z) (hzP : z < P ∨ P + 24 ≤ z) : J z = I z := by
  unfold s_X5_readOpening at h
  rcases if_e h with h | h
  · obtain ⟨z40, I39, e1, h⟩ := bd2_e h
    cases h
    exact ((fr_X5_fail e1 (by omega) (by omega)).trans rfl)
  · obtain ⟨o2, e2, h⟩ := bd_e h
    obtain ⟨o3, e3, h⟩ := bd_e h
    rcases if_e h with h | h
    · obtain ⟨I22, e4, h⟩ := bd_e h
      rcases if_e h with h | h
      · obtain ⟨z30, I29, e5, h⟩ := bd2_e h
        rcases if_e h with h | h
        · have h := lx_e h
          obtain ⟨I33, e6, h⟩ := bd_e h
          rcases if_e h with h | h
          · have h := lx_e h
            obtain ⟨I36, e7, h⟩ := bd_e h
            cases h
            exact ((fr_X2_advance e7 (by omega)).trans ((fr_x0_openPart (by omega)).trans ((fr_X2_advance e6 (by omega)).trans ((fr_X5_seeNumber e5 (by omega) (by omega)).trans ((fr_X2_advance e4 (by omega)).trans rfl)))))
          · obtain ⟨z38, I37, e8, h⟩ := bd2_e h
            cases h
            exact ((fr_X5_fail e8 (by omega) (by omega)).trans ((fr_X2_advance e6 (by omega)).trans ((fr_X5_seeNumber e5 (by omega) (by omega)).trans ((fr_X2_advance e4 (by omega)).trans rfl))))
        · cases h
          exact ((fr_X5_seeNumber e5 (by omega) (by omega)).trans ((fr_X2_advance e4 (by omega)).trans rfl))
      · rcases if_e h with h | h
        · have h := lx_e h
          obtain ⟨I26, e9, h⟩ := bd_e h
          cases h
          exact ((fr_X2_advance e9 (by omega)).trans ((fr_x0_openPart (by omega)).trans ((fr_X2_advance e4 (by omega)).trans rfl)))
        · obtain ⟨z28, I27, e10, h⟩ := bd2_e h
          cases h
          exact ((fr_X5_fail e10 (by omega) (by omega)).trans ((fr_X2_advance e4 (by omega)).trans rfl))
    · obtain ⟨I5, e11, h⟩ := bd_e h
      rcases if_e h with h | h
      · obtain ⟨z13, I12, e12, h⟩ := bd2_e h
        rcases if_e h with h | h
        · have h := lx_e h
          obtain ⟨I16, e13, h⟩ := bd_e h
          rcases if_e h with h | h
          · have h := lx_e h
            obtain ⟨I19, e14, h⟩ := bd_e h
            cases h
            exact ((fr_X2_advance e14 (by omega)).trans ((fr_x0_openPart (by omega)).trans ((fr_X2_advance e13 (by omega)).trans ((fr_X5_seeNumber e12 (by omega) (by omega)).trans ((fr_X2_advance e11 (by omega)).trans rfl)))))
          · obtain ⟨z21, I20, e15, h⟩ := bd2_e h
            cases h
            exact ((fr_X5_fail e15 (by omega) (by omega)).trans ((fr_X2_advance e13 (by omega)).trans ((fr_X5_seeNumber e12 (by omega) (by omega)).trans ((fr_X2_advance e11 (by omega)).trans rfl))))
        · cases h
          exact ((fr_X5_seeNumber e12 (by omega) (by omega)).trans ((fr_X2_advance e11 (by omega)).trans rfl))
      · rcases if_e h with h | h
        · have h := lx_e h
          obtain ⟨I9, e16, h⟩ := bd_e h
          cases h
          exact ((fr_X2_advance e16 (by omega)).trans ((fr_x0_openPart (by omega)).trans ((fr_X2_advance e11 (by omega)).trans rfl)))
        · obtain ⟨z11, I10, e17, h⟩ := bd2_e h
          cases h
          exact ((fr_X5_fail e17 (by omega) (by omega)).trans ((fr_X2_advance e11 (by omega)).trans rfl))
noncomputable def s_X5_readClosing (I : JI) (p P : Nat) : Option (Bool × JI) :=
  gd (x0_start I (P + 5) (I (P + 5) 7) = nI ((x0_start I (P + 5) (I (P + 5) 7)).toNatClampNeg)) <| gd (I (P + 5) 3 = nI ((x0_start I (P + 5) (I (P + 5) 7)).toNatClampNeg + ((I (P + 5) 3).toNatClampNeg - (x0_start I (P + 5) (I (P + 5) 7)).toNatClampNeg - 1) + 1)) <| gd ((x0_start I (P + 5) (I (P + 5) 7)).toNatClampNeg + ((I (P + 5) 3).toNatClampNeg - (x0_start I (P + 5) (I (P + 5) 7)).toNatClampNeg - 1) + 1 ≤ 400) <| lx (x0_closeB I (P + 5)) fun z5 => lx (x0_close I (P + 5) ((x0_start I (P + 5) (I (P + 5) 7)).toNatClampNeg) ((I (P + 5) 3).toNatClampNeg - (x0_start I (P + 5) (I (P + 5) 7)).toNatClampNeg - 1)) fun I4 => if z5 = true then (bd (s_X2_advance I4 (p + 1)) fun I7 => some (true, I7)) else (bd2 (s_X5_fail I4 p P 4) fun z9 I8 => some (z9, I8))
set_option maxHeartbeats 4000000 in
theorem c_X5_readClosing {Ω : JO} {I : JI} {S : JS} {Q : JQ} {p : Nat} {P : Nat} {r : Bool} {J : JI} (hp : Is5 S p P) (h : s_X5_readClosing I p P = some (r, J)) (hQ : Q (.inl (some (.int (zb r)))) J S) : Call Ω m_X5_readClosing [.ref p] I S Q := by
  refine call_of (by decide +kernel) rfl (Nat.le_of_ble_eq_true rfl) ?_
  change AA Ω m_X5_readClosing (FQ Ω m_X5_readClosing Q) 0 0 0 [(0, .ref p)] [] I S
  unfold s_X5_readClosing at h
  refine r_aload_n (pc' := 1) dX5_readClosing_0 rfl 0 rfl rfl ?_
  refine r_getO (pc' := 4) dX5_readClosing_1 fa_X5_21 hp.o rfl hp.r1 rfl ?_
  refine r_getO (pc' := 7) dX5_readClosing_4 fa_X5_194 hp.c1.o rfl hp.c1.r10 rfl ?_
  obtain ⟨g1, h⟩ := gd_e h
  obtain ⟨g2, h⟩ := gd_e h
  obtain ⟨g3, h⟩ := gd_e h
  refine r_callV0 (pc' := 10) (k' := 0) (n' := 0) dX5_readClosing_7 mb_X0_closePart mi_X0_closePart hp.c1.c10.o (by decide) rfl lk_X5_225 rfl rfl rfl (Nat.le_of_ble_eq_true rfl) rfl (c_X0_closePart hp.c1.c10 g1 g2 g3 (cpI ?_))
  have h := lx_e h
  have h := lx_e h
  refine r_if_ne (tgt := 19) (pc' := 13) dX5_readClosing_10 rfl rfl (fun h6 => ?_) (fun h6 => ?_)
  · have h := ifp (zb_p0 h6) h
    refine r_aload_n (pc' := 20) dX5_readClosing_19 rfl 0 rfl rfl ?_
    refine r_getO (pc' := 23) dX5_readClosing_20 fa_X5_12 hp.o rfl hp.r0 rfl ?_
    obtain ⟨I7, eI7, h⟩ := bd_e h
    refine r_callV0 (pc' := 26) (k' := 0) (n' := 0) dX5_readClosing_23 mb_X2_advance mi_X2_advance hp.c0.o (by decide) rfl lk_X5_56 rfl rfl rfl (Nat.le_of_ble_eq_true rfl) rfl (c_X2_advance hp.c0 eI7 (cpV ?_))
    refine r_iconst (pc' := 27) (v := 1) dX5_readClosing_26 (by decide) rfl ?_
    cases h
    exact r_zret dX5_readClosing_27 rfl (by decide) (by decide) (by decide) hQ
  · have h := ifn (zb_n0 h6) h
    refine r_aload_n (pc' := 14) dX5_readClosing_13 rfl 0 rfl rfl ?_
    refine r_iconst (pc' := 15) (v := 4) dX5_readClosing_14 (by decide) rfl ?_
    obtain ⟨z9, I8, ez9, h⟩ := bd2_e h
    refine r_callV1 (pc' := 18) (k' := 0) (n' := 0) dX5_readClosing_15 mb_X5_fail mi_X5_fail hp.o (by decide) rfl lk_X5_52 rfl rfl rfl (Nat.le_of_ble_eq_true rfl) rfl (c_X5_fail hp ez9 (cpI ?_))
    cases h
    exact r_zret dX5_readClosing_18 rfl (zb01 _) (by decide) (by decide) hQ
set_option maxHeartbeats 4000000 in
theorem fr_X5_readClosing {I : JI} {p : Nat} {P : Nat} {r : Bool} {J : JI} {z : Nat} (h : s_X5_readClosing I p P = some (r, J)) (hzp : z < p ∨ p + 2 ≤ z) (hzP : z < P ∨ P + 24 ≤ z) : J z = I z := by
  unfold s_X5_readClosing at h
  obtain ⟨g1, h⟩ := gd_e h
  obtain ⟨g2, h⟩ := gd_e h
  obtain ⟨g3, h⟩ := gd_e h
  have h := lx_e h
  have h := lx_e h
  rcases if_e h with h | h
  · obtain ⟨I7, e4, h⟩ := bd_e h
    cases h
    exact ((fr_X2_advance e4 (by omega)).trans ((fr_x0_close (by omega)).trans rfl))
  · obtain ⟨z9, I8, e5, h⟩ := bd2_e h
    cases h
    exact ((fr_X5_fail e5 (by omega) (by omega)).trans ((fr_x0_close (by omega)).trans rfl))
noncomputable def s_X5_readDeck_L30 (p P : Nat) : Nat → Int32 → Int32 → JI → Option ((Bool × JI) ⊕ (Int32 × Int32 × JI))
  | 0, _, _, _ => none
  | f + 1, w1, w2, I => if 500 ≤ w2 then (some (.inr (w1, w2, I))) else (if (I (P + 5) 7) ≤ 0 then (if (I (p + 1) 4) = 2 then (bd2 (s_X5_readCardOfDeck I p P) fun z34 I33 => if z34 = true then (s_X5_readDeck_L30 p P f 0 (w2 + 1) I33) else (some (.inl (false, I33)))) else (bd (s_X2_isWord I (p + 1) "repeat") fun z6 => if z6 = true then (bd2 (s_X5_readOpening I p P) fun z9 I8 => if z9 = true then (s_X5_readDeck_L30 p P f 1 (w2 + 1) I8) else (some (.inl (false, I8)))) else (bd (s_X2_isWord I (p + 1) "mirror") fun z11 => if z11 = true then (bd2 (s_X5_readOpening I p P) fun z14 I13 => if z14 = true then (s_X5_readDeck_L30 p P f 1 (w2 + 1) I13) else (some (.inl (false, I13)))) else (bd (s_X2_isWord I (p + 1) "back") fun z16 => if z16 = true then (bd2 (s_X5_readOpening I p P) fun z31 I30 => if z31 = true then (s_X5_readDeck_L30 p P f 1 (w2 + 1) I30) else (some (.inl (false, I30)))) else (if (I (p + 1) 4) = 5 then (if w1 = 0 then (some (.inl (true, I))) else (bd2 (s_X5_fail I p P 1) fun z28 I27 => if z28 = true then (some (.inl (true, I27))) else (some (.inl (false, I27))))) else (if w1 = 0 then (some (.inl (true, I))) else (bd2 (s_X5_fail I p P 1) fun z22 I21 => if z22 = true then (some (.inl (true, I21))) else (some (.inl (false, I21)))))))))) else (if (I (p + 1) 4) = 2 then (bd2 (s_X5_readCardOfDeck I p P) fun z67 I66 => if z67 = true then (s_X5_readDeck_L30 p P f 0 (w2 + 1) I66) else (some (.inl (false, I66)))) else (bd (s_X2_isWord I (p + 1) "repeat") fun z37 => if z37 = true then (bd2 (s_X5_readOpening I p P) fun z40 I39 => if z40 = true then (s_X5_readDeck_L30 p P f 1 (w2 + 1) I39) else (some (.inl (false, I39)))) else (bd (s_X2_isWord I (p + 1) "mirror") fun z42 => if z42 = true then (bd2 (s_X5_readOpening I p P) fun z45 I44 => if z45 = true then (s_X5_readDeck_L30 p P f 1 (w2 + 1) I44) else (some (.inl (false, I44)))) else (bd (s_X2_isWord I (p + 1) "back") fun z47 => if z47 = true then (bd2 (s_X5_readOpening I p P) fun z64 I63 => if z64 = true then (s_X5_readDeck_L30 p P f 1 (w2 + 1) I63) else (some (.inl (false, I63)))) else (if (I (p + 1) 4) = 5 then (if w1 = 0 then (bd2 (s_X5_readClosing I p P) fun z61 I60 => if z61 = true then (s_X5_readDeck_L30 p P f w1 (w2 + 1) I60) else (some (.inl (false, I60)))) else (bd2 (s_X5_fail I p P 1) fun z58 I57 => if z58 = true then (some (.inl (true, I57))) else (some (.inl (false, I57))))) else (bd2 (s_X5_fail I p P 1) fun z52 I51 => if z52 = true then (some (.inl (true, I51))) else (some (.inl (false, I51))))))))))
noncomputable def s_X5_readDeck (I : JI) (p P : Nat) : Option (Bool × JI) :=
  if (I (P + 10) 3) ≤ 0 then (bd (s_X2_advance I (p + 1)) fun I2 => bl (s_X5_readDeck_L30 p P lf 1 0 I2) fun (y69, y70, I71) => bd2 (s_X5_fail I71 p P 1) fun z74 I73 => some (z74, I73)) else (bd2 (s_X5_fail I p P 3) fun z76 I75 => some (z76, I75))
set_option maxHeartbeats 4000000 in
theorem l_X5_readDeck_L30 {Ω : JO} {S : JS} {Q : JQ} {p : Nat} {P : Nat} (hp : Is5 S p P) : ∀ (f : Nat) (w1 : Int32) (w2 : Int32) (I : JI) (o : ((Bool × JI) ⊕ (Int32 × Int32 × JI))), s_X5_readDeck_L30 p P f w1 w2 I = some o → (∀ (r : Bool) (J : JI), o = .inl (r, J) → Q (.inl (some (.int (zb r)))) J S) → (∀ (y1 : Int32) (y2 : Int32) (J : JI) , o = .inr (y1, y2, J) → AA Ω m_X5_readDeck (FQ Ω m_X5_readDeck Q) 0 0 187 [(1, .int y1), (2, .int y2), (0, .ref p)] [] J S) → AA Ω m_X5_readDeck (FQ Ω m_X5_readDeck Q) 0 0 30 [(1, .int w1), (2, .int w2), (0, .ref p)] [] I S := by
  intro f
  induction f with
  | zero =>
    intro w1 w2 I o h hR hE
    rw [s_X5_readDeck_L30] at h
    cases h
  | succ f ih =>
    intro w1 w2 I o h hR hE
    rw [s_X5_readDeck_L30] at h
    refine r_iload_n (pc' := 31) dX5_readDeck_30 rfl 1 rfl rfl ?_
    refine r_sipush (pc' := 34) (v := 500) dX5_readDeck_31 (by decide) rfl ?_
    refine r_icmp_ge (tgt := 187) (pc' := 37) dX5_readDeck_34 rfl rfl (fun h3 => ?_) (fun h3 => ?_)
    · have h := ifp h3 h
      cases h
      exact hE _ _ _ rfl
    · have h := ifn h3 h
      refine r_aload_n (pc' := 38) dX5_readDeck_37 rfl 2 rfl rfl ?_
      refine r_getO (pc' := 41) dX5_readDeck_38 fa_X5_21 hp.o rfl hp.r1 rfl ?_
      refine r_getO (pc' := 44) dX5_readDeck_41 fa_X5_194 hp.c1.o rfl hp.c1.r10 rfl ?_
      refine r_getI (pc' := 47) dX5_readDeck_44 fa_X5_197 hp.c1.c10.o rfl rfl ?_
      refine r_if_le (tgt := 54) (pc' := 50) dX5_readDeck_47 rfl rfl (fun h4 => ?_) (fun h4 => ?_)
      · have h := ifp h4 h
        refine r_iconst (pc' := 55) (v := 0) dX5_readDeck_54 (by decide) rfl ?_
        refine r_istore_n (pc' := 56) (lv' := [(3, _), (1, _), (2, _), (0, _)]) dX5_readDeck_55 rfl (by decide) rfl rfl ?_
        refine r_aload_n (pc' := 57) dX5_readDeck_56 rfl 3 rfl rfl ?_
        refine r_getO (pc' := 60) dX5_readDeck_57 fa_X5_12 hp.o rfl hp.r0 rfl ?_
        refine r_getI (pc' := 63) dX5_readDeck_60 fa_X5_49 hp.c0.o rfl rfl ?_
        refine r_iconst (pc' := 64) (v := 2) dX5_readDeck_63 (by decide) rfl ?_
        refine r_icmp_ne (tgt := 81) (pc' := 67) dX5_readDeck_64 rfl rfl (fun h5 => ?_) (fun h5 => ?_)
        · have h := ifn h5 h
          refine r_aload_n (pc' := 82) dX5_readDeck_81 rfl 3 rfl rfl ?_
          refine r_getO (pc' := 85) dX5_readDeck_82 fa_X5_12 hp.o rfl hp.r0 rfl ?_
          refine r_ldcS (pc' := 87) (tx := "repeat") dX5_readDeck_85 sw_X5_205 rfl ?_
          obtain ⟨z6, ez6, h⟩ := bd_e h
          refine r_callV1 (pc' := 90) (k' := 0) (n' := 0) dX5_readDeck_87 mb_X2_isWord mi_X2_isWord hp.c0.o (by decide) rfl lk_X5_92 rfl rfl rfl (Nat.le_of_ble_eq_true rfl) rfl (c_X2_isWord hp.c0 sw_X5_205 ez6 (cpI ?_))
          refine r_if_ne (tgt := 117) (pc' := 93) dX5_readDeck_90 rfl rfl (fun h7 => ?_) (fun h7 => ?_)
          · have h := ifp (zb_p0 h7) h
            refine r_aload_n (pc' := 118) dX5_readDeck_117 rfl 3 rfl rfl ?_
            obtain ⟨z9, I8, ez9, h⟩ := bd2_e h
            refine r_callV0 (pc' := 121) (k' := 0) (n' := 0) dX5_readDeck_118 mb_X5_readOpening mi_X5_readOpening hp.o (by decide) rfl lk_X5_211 rfl rfl rfl (Nat.le_of_ble_eq_true rfl) rfl (c_X5_readOpening hp ez9 (cpI ?_))
            refine r_if_ne (tgt := 126) (pc' := 124) dX5_readDeck_121 rfl rfl (fun h10 => ?_) (fun h10 => ?_)
            · have h := ifp (zb_p0 h10) h
              refine r_iconst (pc' := 127) (v := 1) dX5_readDeck_126 (by decide) rfl ?_
              refine r_istore_n (pc' := 128) (lv' := [(1, _), (3, _), (2, _), (0, _)]) dX5_readDeck_127 rfl (by decide) rfl rfl ?_
              refine r_goto (tgt := 181) dX5_readDeck_128 rfl ?_
              refine r_iinc (pc' := 184) (v := _ + 1) (lv' := [(2, _), (1, _), (3, _), (0, _)]) dX5_readDeck_181 2 rfl rfl (by decide) rfl rfl ?_
              refine r_goto (tgt := 30) dX5_readDeck_184 rfl ?_
              refine aa_locs (ks := [1, 0, 3]) (lv' := [(1, _), (2, _), (0, _)]) rfl ?_
              exact ih _ _ _ _ h hR hE
            · have h := ifn (zb_n0 h10) h
              refine r_iconst (pc' := 125) (v := 0) dX5_readDeck_124 (by decide) rfl ?_
              cases h
              exact r_zret dX5_readDeck_125 rfl (by decide) (by decide) (by decide) (hR _ _ rfl)
          · have h := ifn (zb_n0 h7) h
            refine r_aload_n (pc' := 94) dX5_readDeck_93 rfl 3 rfl rfl ?_
            refine r_getO (pc' := 97) dX5_readDeck_94 fa_X5_12 hp.o rfl hp.r0 rfl ?_
            refine r_ldcS (pc' := 99) (tx := "mirror") dX5_readDeck_97 sw_X5_207 rfl ?_
            obtain ⟨z11, ez11, h⟩ := bd_e h
            refine r_callV1 (pc' := 102) (k' := 0) (n' := 0) dX5_readDeck_99 mb_X2_isWord mi_X2_isWord hp.c0.o (by decide) rfl lk_X5_92 rfl rfl rfl (Nat.le_of_ble_eq_true rfl) rfl (c_X2_isWord hp.c0 sw_X5_207 ez11 (cpI ?_))
            refine r_if_ne (tgt := 117) (pc' := 105) dX5_readDeck_102 rfl rfl (fun h12 => ?_) (fun h12 => ?_)
            · have h := ifp (zb_p0 h12) h
              refine r_aload_n (pc' := 118) dX5_readDeck_117 rfl 3 rfl rfl ?_
              obtain ⟨z14, I13, ez14, h⟩ := bd2_e h
              refine r_callV0 (pc' := 121) (k' := 0) (n' := 0) dX5_readDeck_118 mb_X5_readOpening mi_X5_readOpening hp.o (by decide) rfl lk_X5_211 rfl rfl rfl (Nat.le_of_ble_eq_true rfl) rfl (c_X5_readOpening hp ez14 (cpI ?_))
              refine r_if_ne (tgt := 126) (pc' := 124) dX5_readDeck_121 rfl rfl (fun h15 => ?_) (fun h15 => ?_)
              · have h := ifp (zb_p0 h15) h
                refine r_iconst (pc' := 127) (v := 1) dX5_readDeck_126 (by decide) rfl ?_
                refine r_istore_n (pc' := 128) (lv' := [(1, _), (3, _), (2, _), (0, _)]) dX5_readDeck_127 rfl (by decide) rfl rfl ?_
                refine r_goto (tgt := 181) dX5_readDeck_128 rfl ?_
                refine r_iinc (pc' := 184) (v := _ + 1) (lv' := [(2, _), (1, _), (3, _), (0, _)]) dX5_readDeck_181 2 rfl rfl (by decide) rfl rfl ?_
                refine r_goto (tgt := 30) dX5_readDeck_184 rfl ?_
                refine aa_locs (ks := [1, 0, 3]) (lv' := [(1, _), (2, _), (0, _)]) rfl ?_
                exact ih _ _ _ _ h hR hE
              · have h := ifn (zb_n0 h15) h
                refine r_iconst (pc' := 125) (v := 0) dX5_readDeck_124 (by decide) rfl ?_
                cases h
                exact r_zret dX5_readDeck_125 rfl (by decide) (by decide) (by decide) (hR _ _ rfl)
            · have h := ifn (zb_n0 h12) h
              refine r_aload_n (pc' := 106) dX5_readDeck_105 rfl 3 rfl rfl ?_
              refine r_getO (pc' := 109) dX5_readDeck_106 fa_X5_12 hp.o rfl hp.r0 rfl ?_
              refine r_ldcS (pc' := 111) (tx := "back") dX5_readDeck_109 sw_X5_209 rfl ?_
              obtain ⟨z16, ez16, h⟩ := bd_e h
              refine r_callV1 (pc' := 114) (k' := 0) (n' := 0) dX5_readDeck_111 mb_X2_isWord mi_X2_isWord hp.c0.o (by decide) rfl lk_X5_92 rfl rfl rfl (Nat.le_of_ble_eq_true rfl) rfl (c_X2_isWord hp.c0 sw_X5_209 ez16 (cpI ?_))
              refine r_if_eq (tgt := 131) (pc' := 117) dX5_readDeck_114 rfl rfl (fun h17 => ?_) (fun h17 => ?_)
              · have h := ifn (zb_n0 h17) h
                refine r_aload_n (pc' := 132) dX5_readDeck_131 rfl 3 rfl rfl ?_
                refine r_getO (pc' := 135) dX5_readDeck_132 fa_X5_12 hp.o rfl hp.r0 rfl ?_
                refine r_getI (pc' := 138) dX5_readDeck_135 fa_X5_49 hp.c0.o rfl rfl ?_
                refine r_iconst (pc' := 139) (v := 5) dX5_readDeck_138 (by decide) rfl ?_
                refine r_icmp_ne (tgt := 159) (pc' := 142) dX5_readDeck_139 rfl rfl (fun h18 => ?_) (fun h18 => ?_)
                · have h := ifn h18 h
                  refine r_iload_n (pc' := 160) dX5_readDeck_159 rfl 0 rfl rfl ?_
                  refine r_if_ne (tgt := 167) (pc' := 163) dX5_readDeck_160 rfl rfl (fun h19 => absurd h19 (by decide)) (fun _ => ?_)
                  refine r_iload_n (pc' := 164) dX5_readDeck_163 rfl 1 rfl rfl ?_
                  refine r_if_eq (tgt := 175) (pc' := 167) dX5_readDeck_164 rfl rfl (fun h20 => ?_) (fun h20 => ?_)
                  · have h := ifp h20 h
                    refine r_iconst (pc' := 176) (v := 1) dX5_readDeck_175 (by decide) rfl ?_
                    refine r_goto (tgt := 180) dX5_readDeck_176 rfl ?_
                    cases h
                    exact r_zret dX5_readDeck_180 rfl (by decide) (by decide) (by decide) (hR _ _ rfl)
                  · have h := ifn h20 h
                    refine r_aload_n (pc' := 168) dX5_readDeck_167 rfl 3 rfl rfl ?_
                    refine r_iconst (pc' := 169) (v := 1) dX5_readDeck_168 (by decide) rfl ?_
                    obtain ⟨z22, I21, ez22, h⟩ := bd2_e h
                    refine r_callV1 (pc' := 172) (k' := 0) (n' := 0) dX5_readDeck_169 mb_X5_fail mi_X5_fail hp.o (by decide) rfl lk_X5_52 rfl rfl rfl (Nat.le_of_ble_eq_true rfl) rfl (c_X5_fail hp ez22 (cpI ?_))
                    refine r_if_eq (tgt := 179) (pc' := 175) dX5_readDeck_172 rfl rfl (fun h23 => ?_) (fun h23 => ?_)
                    · have h := ifn (zb_n0 h23) h
                      refine r_iconst (pc' := 180) (v := 0) dX5_readDeck_179 (by decide) rfl ?_
                      cases h
                      exact r_zret dX5_readDeck_180 rfl (by decide) (by decide) (by decide) (hR _ _ rfl)
                    · have h := ifp (zb_p0 h23) h
                      refine r_iconst (pc' := 176) (v := 1) dX5_readDeck_175 (by decide) rfl ?_
                      refine r_goto (tgt := 180) dX5_readDeck_176 rfl ?_
                      cases h
                      exact r_zret dX5_readDeck_180 rfl (by decide) (by decide) (by decide) (hR _ _ rfl)
                · have h := ifp h18 h
                  refine r_iload_n (pc' := 143) dX5_readDeck_142 rfl 0 rfl rfl ?_
                  refine r_if_eq (tgt := 159) (pc' := 146) dX5_readDeck_143 rfl rfl (fun _ => ?_) (fun h24 => absurd (by decide) h24)
                  refine r_iload_n (pc' := 160) dX5_readDeck_159 rfl 0 rfl rfl ?_
                  refine r_if_ne (tgt := 167) (pc' := 163) dX5_readDeck_160 rfl rfl (fun h25 => absurd h25 (by decide)) (fun _ => ?_)
                  refine r_iload_n (pc' := 164) dX5_readDeck_163 rfl 1 rfl rfl ?_
                  refine r_if_eq (tgt := 175) (pc' := 167) dX5_readDeck_164 rfl rfl (fun h26 => ?_) (fun h26 => ?_)
                  · have h := ifp h26 h
                    refine r_iconst (pc' := 176) (v := 1) dX5_readDeck_175 (by decide) rfl ?_
                    refine r_goto (tgt := 180) dX5_readDeck_176 rfl ?_
                    cases h
                    exact r_zret dX5_readDeck_180 rfl (by decide) (by decide) (by decide) (hR _ _ rfl)
                  · have h := ifn h26 h
                    refine r_aload_n (pc' := 168) dX5_readDeck_167 rfl 3 rfl rfl ?_
                    refine r_iconst (pc' := 169) (v := 1) dX5_readDeck_168 (by decide) rfl ?_
                    obtain ⟨z28, I27, ez28, h⟩ := bd2_e h
                    refine r_callV1 (pc' := 172) (k' := 0) (n' := 0) dX5_readDeck_169 mb_X5_fail mi_X5_fail hp.o (by decide) rfl lk_X5_52 rfl rfl rfl (Nat.le_of_ble_eq_true rfl) rfl (c_X5_fail hp ez28 (cpI ?_))
                    refine r_if_eq (tgt := 179) (pc' := 175) dX5_readDeck_172 rfl rfl (fun h29 => ?_) (fun h29 => ?_)
                    · have h := ifn (zb_n0 h29) h
                      refine r_iconst (pc' := 180) (v := 0) dX5_readDeck_179 (by decide) rfl ?_
                      cases h
                      exact r_zret dX5_readDeck_180 rfl (by decide) (by decide) (by decide) (hR _ _ rfl)
                    · have h := ifp (zb_p0 h29) h
                      refine r_iconst (pc' := 176) (v := 1) dX5_readDeck_175 (by decide) rfl ?_
                      refine r_goto (tgt := 180) dX5_readDeck_176 rfl ?_
                      cases h
                      exact r_zret dX5_readDeck_180 rfl (by decide) (by decide) (by decide) (hR _ _ rfl)
              · have h := ifp (zb_p0 h17) h
                refine r_aload_n (pc' := 118) dX5_readDeck_117 rfl 3 rfl rfl ?_
                obtain ⟨z31, I30, ez31, h⟩ := bd2_e h
                refine r_callV0 (pc' := 121) (k' := 0) (n' := 0) dX5_readDeck_118 mb_X5_readOpening mi_X5_readOpening hp.o (by decide) rfl lk_X5_211 rfl rfl rfl (Nat.le_of_ble_eq_true rfl) rfl (c_X5_readOpening hp ez31 (cpI ?_))
                refine r_if_ne (tgt := 126) (pc' := 124) dX5_readDeck_121 rfl rfl (fun h32 => ?_) (fun h32 => ?_)
                · have h := ifp (zb_p0 h32) h
                  refine r_iconst (pc' := 127) (v := 1) dX5_readDeck_126 (by decide) rfl ?_
                  refine r_istore_n (pc' := 128) (lv' := [(1, _), (3, _), (2, _), (0, _)]) dX5_readDeck_127 rfl (by decide) rfl rfl ?_
                  refine r_goto (tgt := 181) dX5_readDeck_128 rfl ?_
                  refine r_iinc (pc' := 184) (v := _ + 1) (lv' := [(2, _), (1, _), (3, _), (0, _)]) dX5_readDeck_181 2 rfl rfl (by decide) rfl rfl ?_
                  refine r_goto (tgt := 30) dX5_readDeck_184 rfl ?_
                  refine aa_locs (ks := [1, 0, 3]) (lv' := [(1, _), (2, _), (0, _)]) rfl ?_
                  exact ih _ _ _ _ h hR hE
                · have h := ifn (zb_n0 h32) h
                  refine r_iconst (pc' := 125) (v := 0) dX5_readDeck_124 (by decide) rfl ?_
                  cases h
                  exact r_zret dX5_readDeck_125 rfl (by decide) (by decide) (by decide) (hR _ _ rfl)
        · have h := ifp h5 h
          refine r_aload_n (pc' := 68) dX5_readDeck_67 rfl 3 rfl rfl ?_
          obtain ⟨z34, I33, ez34, h⟩ := bd2_e h
          refine r_callV0 (pc' := 71) (k' := 0) (n' := 0) dX5_readDeck_68 mb_X5_readCardOfDeck mi_X5_readCardOfDeck hp.o (by decide) rfl lk_X5_202 rfl rfl rfl (Nat.le_of_ble_eq_true rfl) rfl (c_X5_readCardOfDeck hp ez34 (cpI ?_))
          refine r_if_ne (tgt := 76) (pc' := 74) dX5_readDeck_71 rfl rfl (fun h35 => ?_) (fun h35 => ?_)
          · have h := ifp (zb_p0 h35) h
            refine r_iconst (pc' := 77) (v := 0) dX5_readDeck_76 (by decide) rfl ?_
            refine r_istore_n (pc' := 78) (lv' := [(1, _), (3, _), (2, _), (0, _)]) dX5_readDeck_77 rfl (by decide) rfl rfl ?_
            refine r_goto (tgt := 181) dX5_readDeck_78 rfl ?_
            refine r_iinc (pc' := 184) (v := _ + 1) (lv' := [(2, _), (1, _), (3, _), (0, _)]) dX5_readDeck_181 2 rfl rfl (by decide) rfl rfl ?_
            refine r_goto (tgt := 30) dX5_readDeck_184 rfl ?_
            refine aa_locs (ks := [1, 0, 3]) (lv' := [(1, _), (2, _), (0, _)]) rfl ?_
            exact ih _ _ _ _ h hR hE
          · have h := ifn (zb_n0 h35) h
            refine r_iconst (pc' := 75) (v := 0) dX5_readDeck_74 (by decide) rfl ?_
            cases h
            exact r_zret dX5_readDeck_75 rfl (by decide) (by decide) (by decide) (hR _ _ rfl)
      · have h := ifn h4 h
        refine r_iconst (pc' := 51) (v := 1) dX5_readDeck_50 (by decide) rfl ?_
        refine r_goto (tgt := 55) dX5_readDeck_51 rfl ?_
        refine r_istore_n (pc' := 56) (lv' := [(3, _), (1, _), (2, _), (0, _)]) dX5_readDeck_55 rfl (by decide) rfl rfl ?_
        refine r_aload_n (pc' := 57) dX5_readDeck_56 rfl 3 rfl rfl ?_
        refine r_getO (pc' := 60) dX5_readDeck_57 fa_X5_12 hp.o rfl hp.r0 rfl ?_
        refine r_getI (pc' := 63) dX5_readDeck_60 fa_X5_49 hp.c0.o rfl rfl ?_
        refine r_iconst (pc' := 64) (v := 2) dX5_readDeck_63 (by decide) rfl ?_
        refine r_icmp_ne (tgt := 81) (pc' := 67) dX5_readDeck_64 rfl rfl (fun h36 => ?_) (fun h36 => ?_)
        · have h := ifn h36 h
          refine r_aload_n (pc' := 82) dX5_readDeck_81 rfl 3 rfl rfl ?_
          refine r_getO (pc' := 85) dX5_readDeck_82 fa_X5_12 hp.o rfl hp.r0 rfl ?_
          refine r_ldcS (pc' := 87) (tx := "repeat") dX5_readDeck_85 sw_X5_205 rfl ?_
          obtain ⟨z37, ez37, h⟩ := bd_e h
          refine r_callV1 (pc' := 90) (k' := 0) (n' := 0) dX5_readDeck_87 mb_X2_isWord mi_X2_isWord hp.c0.o (by decide) rfl lk_X5_92 rfl rfl rfl (Nat.le_of_ble_eq_true rfl) rfl (c_X2_isWord hp.c0 sw_X5_205 ez37 (cpI ?_))
          refine r_if_ne (tgt := 117) (pc' := 93) dX5_readDeck_90 rfl rfl (fun h38 => ?_) (fun h38 => ?_)
          · have h := ifp (zb_p0 h38) h
            refine r_aload_n (pc' := 118) dX5_readDeck_117 rfl 3 rfl rfl ?_
            obtain ⟨z40, I39, ez40, h⟩ := bd2_e h
            refine r_callV0 (pc' := 121) (k' := 0) (n' := 0) dX5_readDeck_118 mb_X5_readOpening mi_X5_readOpening hp.o (by decide) rfl lk_X5_211 rfl rfl rfl (Nat.le_of_ble_eq_true rfl) rfl (c_X5_readOpening hp ez40 (cpI ?_))
            refine r_if_ne (tgt := 126) (pc' := 124) dX5_readDeck_121 rfl rfl (fun h41 => ?_) (fun h41 => ?_)
            · have h := ifp (zb_p0 h41) h
              refine r_iconst (pc' := 127) (v := 1) dX5_readDeck_126 (by decide) rfl ?_
              refine r_istore_n (pc' := 128) (lv' := [(1, _), (3, _), (2, _), (0, _)]) dX5_readDeck_127 rfl (by decide) rfl rfl ?_
              refine r_goto (tgt := 181) dX5_readDeck_128 rfl ?_
              refine r_iinc (pc' := 184) (v := _ + 1) (lv' := [(2, _), (1, _), (3, _), (0, _)]) dX5_readDeck_181 2 rfl rfl (by decide) rfl rfl ?_
              refine r_goto (tgt := 30) dX5_readDeck_184 rfl ?_
              refine aa_locs (ks := [1, 0, 3]) (lv' := [(1, _), (2, _), (0, _)]) rfl ?_
              exact ih _ _ _ _ h hR hE
            · have h := ifn (zb_n0 h41) h
              refine r_iconst (pc' := 125) (v := 0) dX5_readDeck_124 (by decide) rfl ?_
              cases h
              exact r_zret dX5_readDeck_125 rfl (by decide) (by decide) (by decide) (hR _ _ rfl)
          · have h := ifn (zb_n0 h38) h
            refine r_aload_n (pc' := 94) dX5_readDeck_93 rfl 3 rfl rfl ?_
            refine r_getO (pc' := 97) dX5_readDeck_94 fa_X5_12 hp.o rfl hp.r0 rfl ?_
            refine r_ldcS (pc' := 99) (tx := "mirror") dX5_readDeck_97 sw_X5_207 rfl ?_
            obtain ⟨z42, ez42, h⟩ := bd_e h
            refine r_callV1 (pc' := 102) (k' := 0) (n' := 0) dX5_readDeck_99 mb_X2_isWord mi_X2_isWord hp.c0.o (by decide) rfl lk_X5_92 rfl rfl rfl (Nat.le_of_ble_eq_true rfl) rfl (c_X2_isWord hp.c0 sw_X5_207 ez42 (cpI ?_))
            refine r_if_ne (tgt := 117) (pc' := 105) dX5_readDeck_102 rfl rfl (fun h43 => ?_) (fun h43 => ?_)
            · have h := ifp (zb_p0 h43) h
              refine r_aload_n (pc' := 118) dX5_readDeck_117 rfl 3 rfl rfl ?_
              obtain ⟨z45, I44, ez45, h⟩ := bd2_e h
              refine r_callV0 (pc' := 121) (k' := 0) (n' := 0) dX5_readDeck_118 mb_X5_readOpening mi_X5_readOpening hp.o (by decide) rfl lk_X5_211 rfl rfl rfl (Nat.le_of_ble_eq_true rfl) rfl (c_X5_readOpening hp ez45 (cpI ?_))
              refine r_if_ne (tgt := 126) (pc' := 124) dX5_readDeck_121 rfl rfl (fun h46 => ?_) (fun h46 => ?_)
              · have h := ifp (zb_p0 h46) h
                refine r_iconst (pc' := 127) (v := 1) dX5_readDeck_126 (by decide) rfl ?_
                refine r_istore_n (pc' := 128) (lv' := [(1, _), (3, _), (2, _), (0, _)]) dX5_readDeck_127 rfl (by decide) rfl rfl ?_
                refine r_goto (tgt := 181) dX5_readDeck_128 rfl ?_
                refine r_iinc (pc' := 184) (v := _ + 1) (lv' := [(2, _), (1, _), (3, _), (0, _)]) dX5_readDeck_181 2 rfl rfl (by decide) rfl rfl ?_
                refine r_goto (tgt := 30) dX5_readDeck_184 rfl ?_
                refine aa_locs (ks := [1, 0, 3]) (lv' := [(1, _), (2, _), (0, _)]) rfl ?_
                exact ih _ _ _ _ h hR hE
              · have h := ifn (zb_n0 h46) h
                refine r_iconst (pc' := 125) (v := 0) dX5_readDeck_124 (by decide) rfl ?_
                cases h
                exact r_zret dX5_readDeck_125 rfl (by decide) (by decide) (by decide) (hR _ _ rfl)
            · have h := ifn (zb_n0 h43) h
              refine r_aload_n (pc' := 106) dX5_readDeck_105 rfl 3 rfl rfl ?_
              refine r_getO (pc' := 109) dX5_readDeck_106 fa_X5_12 hp.o rfl hp.r0 rfl ?_
              refine r_ldcS (pc' := 111) (tx := "back") dX5_readDeck_109 sw_X5_209 rfl ?_
              obtain ⟨z47, ez47, h⟩ := bd_e h
              refine r_callV1 (pc' := 114) (k' := 0) (n' := 0) dX5_readDeck_111 mb_X2_isWord mi_X2_isWord hp.c0.o (by decide) rfl lk_X5_92 rfl rfl rfl (Nat.le_of_ble_eq_true rfl) rfl (c_X2_isWord hp.c0 sw_X5_209 ez47 (cpI ?_))
              refine r_if_eq (tgt := 131) (pc' := 117) dX5_readDeck_114 rfl rfl (fun h48 => ?_) (fun h48 => ?_)
              · have h := ifn (zb_n0 h48) h
                refine r_aload_n (pc' := 132) dX5_readDeck_131 rfl 3 rfl rfl ?_
                refine r_getO (pc' := 135) dX5_readDeck_132 fa_X5_12 hp.o rfl hp.r0 rfl ?_
                refine r_getI (pc' := 138) dX5_readDeck_135 fa_X5_49 hp.c0.o rfl rfl ?_
                refine r_iconst (pc' := 139) (v := 5) dX5_readDeck_138 (by decide) rfl ?_
                refine r_icmp_ne (tgt := 159) (pc' := 142) dX5_readDeck_139 rfl rfl (fun h49 => ?_) (fun h49 => ?_)
                · have h := ifn h49 h
                  refine r_iload_n (pc' := 160) dX5_readDeck_159 rfl 0 rfl rfl ?_
                  refine r_if_ne (tgt := 167) (pc' := 163) dX5_readDeck_160 rfl rfl (fun _ => ?_) (fun h50 => absurd h50 (by decide))
                  refine r_aload_n (pc' := 168) dX5_readDeck_167 rfl 3 rfl rfl ?_
                  refine r_iconst (pc' := 169) (v := 1) dX5_readDeck_168 (by decide) rfl ?_
                  obtain ⟨z52, I51, ez52, h⟩ := bd2_e h
                  refine r_callV1 (pc' := 172) (k' := 0) (n' := 0) dX5_readDeck_169 mb_X5_fail mi_X5_fail hp.o (by decide) rfl lk_X5_52 rfl rfl rfl (Nat.le_of_ble_eq_true rfl) rfl (c_X5_fail hp ez52 (cpI ?_))
                  refine r_if_eq (tgt := 179) (pc' := 175) dX5_readDeck_172 rfl rfl (fun h53 => ?_) (fun h53 => ?_)
                  · have h := ifn (zb_n0 h53) h
                    refine r_iconst (pc' := 180) (v := 0) dX5_readDeck_179 (by decide) rfl ?_
                    cases h
                    exact r_zret dX5_readDeck_180 rfl (by decide) (by decide) (by decide) (hR _ _ rfl)
                  · have h := ifp (zb_p0 h53) h
                    refine r_iconst (pc' := 176) (v := 1) dX5_readDeck_175 (by decide) rfl ?_
                    refine r_goto (tgt := 180) dX5_readDeck_176 rfl ?_
                    cases h
                    exact r_zret dX5_readDeck_180 rfl (by decide) (by decide) (by decide) (hR _ _ rfl)
                · have h := ifp h49 h
                  refine r_iload_n (pc' := 143) dX5_readDeck_142 rfl 0 rfl rfl ?_
                  refine r_if_eq (tgt := 159) (pc' := 146) dX5_readDeck_143 rfl rfl (fun h54 => absurd h54 (by decide)) (fun _ => ?_)
                  refine r_iload_n (pc' := 147) dX5_readDeck_146 rfl 1 rfl rfl ?_
                  refine r_if_ne (tgt := 159) (pc' := 150) dX5_readDeck_147 rfl rfl (fun h55 => ?_) (fun h55 => ?_)
                  · have h := ifn h55 h
                    refine r_iload_n (pc' := 160) dX5_readDeck_159 rfl 0 rfl rfl ?_
                    refine r_if_ne (tgt := 167) (pc' := 163) dX5_readDeck_160 rfl rfl (fun _ => ?_) (fun h56 => absurd h56 (by decide))
                    refine r_aload_n (pc' := 168) dX5_readDeck_167 rfl 3 rfl rfl ?_
                    refine r_iconst (pc' := 169) (v := 1) dX5_readDeck_168 (by decide) rfl ?_
                    obtain ⟨z58, I57, ez58, h⟩ := bd2_e h
                    refine r_callV1 (pc' := 172) (k' := 0) (n' := 0) dX5_readDeck_169 mb_X5_fail mi_X5_fail hp.o (by decide) rfl lk_X5_52 rfl rfl rfl (Nat.le_of_ble_eq_true rfl) rfl (c_X5_fail hp ez58 (cpI ?_))
                    refine r_if_eq (tgt := 179) (pc' := 175) dX5_readDeck_172 rfl rfl (fun h59 => ?_) (fun h59 => ?_)
                    · have h := ifn (zb_n0 h59) h
                      refine r_iconst (pc' := 180) (v := 0) dX5_readDeck_179 (by decide) rfl ?_
                      cases h
                      exact r_zret dX5_readDeck_180 rfl (by decide) (by decide) (by decide) (hR _ _ rfl)
                    · have h := ifp (zb_p0 h59) h
                      refine r_iconst (pc' := 176) (v := 1) dX5_readDeck_175 (by decide) rfl ?_
                      refine r_goto (tgt := 180) dX5_readDeck_176 rfl ?_
                      cases h
                      exact r_zret dX5_readDeck_180 rfl (by decide) (by decide) (by decide) (hR _ _ rfl)
                  · have h := ifp h55 h
                    refine r_aload_n (pc' := 151) dX5_readDeck_150 rfl 3 rfl rfl ?_
                    obtain ⟨z61, I60, ez61, h⟩ := bd2_e h
                    refine r_callV0 (pc' := 154) (k' := 0) (n' := 0) dX5_readDeck_151 mb_X5_readClosing mi_X5_readClosing hp.o (by decide) rfl lk_X5_214 rfl rfl rfl (Nat.le_of_ble_eq_true rfl) rfl (c_X5_readClosing hp ez61 (cpI ?_))
                    refine r_if_ne (tgt := 181) (pc' := 157) dX5_readDeck_154 rfl rfl (fun h62 => ?_) (fun h62 => ?_)
                    · have h := ifp (zb_p0 h62) h
                      refine r_iinc (pc' := 184) (v := _ + 1) (lv' := [(2, _), (3, _), (1, _), (0, _)]) dX5_readDeck_181 2 rfl rfl (by decide) rfl rfl ?_
                      refine r_goto (tgt := 30) dX5_readDeck_184 rfl ?_
                      refine aa_locs (ks := [2, 0, 3]) (lv' := [(1, _), (2, _), (0, _)]) rfl ?_
                      exact ih _ _ _ _ h hR hE
                    · have h := ifn (zb_n0 h62) h
                      refine r_iconst (pc' := 158) (v := 0) dX5_readDeck_157 (by decide) rfl ?_
                      cases h
                      exact r_zret dX5_readDeck_158 rfl (by decide) (by decide) (by decide) (hR _ _ rfl)
              · have h := ifp (zb_p0 h48) h
                refine r_aload_n (pc' := 118) dX5_readDeck_117 rfl 3 rfl rfl ?_
                obtain ⟨z64, I63, ez64, h⟩ := bd2_e h
                refine r_callV0 (pc' := 121) (k' := 0) (n' := 0) dX5_readDeck_118 mb_X5_readOpening mi_X5_readOpening hp.o (by decide) rfl lk_X5_211 rfl rfl rfl (Nat.le_of_ble_eq_true rfl) rfl (c_X5_readOpening hp ez64 (cpI ?_))
                refine r_if_ne (tgt := 126) (pc' := 124) dX5_readDeck_121 rfl rfl (fun h65 => ?_) (fun h65 => ?_)
                · have h := ifp (zb_p0 h65) h
                  refine r_iconst (pc' := 127) (v := 1) dX5_readDeck_126 (by decide) rfl ?_
                  refine r_istore_n (pc' := 128) (lv' := [(1, _), (3, _), (2, _), (0, _)]) dX5_readDeck_127 rfl (by decide) rfl rfl ?_
                  refine r_goto (tgt := 181) dX5_readDeck_128 rfl ?_
                  refine r_iinc (pc' := 184) (v := _ + 1) (lv' := [(2, _), (1, _), (3, _), (0, _)]) dX5_readDeck_181 2 rfl rfl (by decide) rfl rfl ?_
                  refine r_goto (tgt := 30) dX5_readDeck_184 rfl ?_
                  refine aa_locs (ks := [1, 0, 3]) (lv' := [(1, _), (2, _), (0, _)]) rfl ?_
                  exact ih _ _ _ _ h hR hE
                · have h := ifn (zb_n0 h65) h
                  refine r_iconst (pc' := 125) (v := 0) dX5_readDeck_124 (by decide) rfl ?_
                  cases h
                  exact r_zret dX5_readDeck_125 rfl (by decide) (by decide) (by decide) (hR _ _ rfl)
        · have h := ifp h36 h
          refine r_aload_n (pc' := 68) dX5_readDeck_67 rfl 3 rfl rfl ?_
          obtain ⟨z67, I66, ez67, h⟩ := bd2_e h
          refine r_callV0 (pc' := 71) (k' := 0) (n' := 0) dX5_readDeck_68 mb_X5_readCardOfDeck mi_X5_readCardOfDeck hp.o (by decide) rfl lk_X5_202 rfl rfl rfl (Nat.le_of_ble_eq_true rfl) rfl (c_X5_readCardOfDeck hp ez67 (cpI ?_))
          refine r_if_ne (tgt := 76) (pc' := 74) dX5_readDeck_71 rfl rfl (fun h68 => ?_) (fun h68 => ?_)
          · have h := ifp (zb_p0 h68) h
            refine r_iconst (pc' := 77) (v := 0) dX5_readDeck_76 (by decide) rfl ?_
            refine r_istore_n (pc' := 78) (lv' := [(1, _), (3, _), (2, _), (0, _)]) dX5_readDeck_77 rfl (by decide) rfl rfl ?_
            refine r_goto (tgt := 181) dX5_readDeck_78 rfl ?_
            refine r_iinc (pc' := 184) (v := _ + 1) (lv' := [(2, _), (1, _), (3, _), (0, _)]) dX5_readDeck_181 2 rfl rfl (by decide) rfl rfl ?_
            refine r_goto (tgt := 30) dX5_readDeck_184 rfl ?_
            refine aa_locs (ks := [1, 0, 3]) (lv' := [(1, _), (2, _), (0, _)]) rfl ?_
            exact ih _ _ _ _ h hR hE
          · have h := ifn (zb_n0 h68) h
            refine r_iconst (pc' := 75) (v := 0) dX5_readDeck_74 (by decide) rfl ?_
            cases h
            exact r_zret dX5_readDeck_75 rfl (by decide) (by decide) (by decide) (hR _ _ rfl)
set_option maxHeartbeats 4000000 in
theorem c_X5_readDeck {Ω : JO} {I : JI} {S : JS} {Q : JQ} {p : Nat} {P : Nat} {r : Bool} {J : JI} (hp : Is5 S p P) (h : s_X5_readDeck I p P = some (r, J)) (hQ : Q (.inl (some (.int (zb r)))) J S) : Call Ω m_X5_readDeck [.ref p] I S Q := by
  refine call_of (by decide +kernel) rfl (Nat.le_of_ble_eq_true rfl) ?_
  change AA Ω m_X5_readDeck (FQ Ω m_X5_readDeck Q) 0 0 0 [(0, .ref p)] [] I S
  unfold s_X5_readDeck at h
  refine r_aload_n (pc' := 1) dX5_readDeck_0 rfl 0 rfl rfl ?_
  refine r_getO (pc' := 4) dX5_readDeck_1 fa_X5_21 hp.o rfl hp.r1 rfl ?_
  refine r_getO (pc' := 7) dX5_readDeck_4 fa_X5_172 hp.c1.o rfl hp.c1.r11 rfl ?_
  refine r_getI (pc' := 10) dX5_readDeck_7 fa_X5_176 hp.c1.c11.o rfl rfl ?_
  refine r_if_le (tgt := 19) (pc' := 13) dX5_readDeck_10 rfl rfl (fun h1 => ?_) (fun h1 => ?_)
  · have h := ifp h1 h
    refine r_aload_n (pc' := 20) dX5_readDeck_19 rfl 0 rfl rfl ?_
    refine r_getO (pc' := 23) dX5_readDeck_20 fa_X5_12 hp.o rfl hp.r0 rfl ?_
    obtain ⟨I2, eI2, h⟩ := bd_e h
    refine r_callV0 (pc' := 26) (k' := 0) (n' := 0) dX5_readDeck_23 mb_X2_advance mi_X2_advance hp.c0.o (by decide) rfl lk_X5_56 rfl rfl rfl (Nat.le_of_ble_eq_true rfl) rfl (c_X2_advance hp.c0 eI2 (cpV ?_))
    refine r_iconst (pc' := 27) (v := 1) dX5_readDeck_26 (by decide) rfl ?_
    refine r_istore_n (pc' := 28) (lv' := [(1, _), (0, _)]) dX5_readDeck_27 rfl (by decide) rfl rfl ?_
    refine r_iconst (pc' := 29) (v := 0) dX5_readDeck_28 (by decide) rfl ?_
    refine r_istore_n (pc' := 30) (lv' := [(2, _), (1, _), (0, _)]) dX5_readDeck_29 rfl (by decide) rfl rfl ?_
    refine aa_locs (ks := [1, 0, 2]) (lv' := [(1, _), (2, _), (0, _)]) rfl ?_
    obtain ⟨o72, eo72, h1, h⟩ := bl_e h
    refine l_X5_readDeck_L30 (Ω := Ω) hp _ _ _ _ _ eo72 (fun r J q => ?_) (fun y69 y70 I71 q => ?_)
    · have h1 := h1 _ q
      cases h1
      exact hQ
    have h := h _ q
    refine r_aload_n (pc' := 188) dX5_readDeck_187 rfl 2 rfl rfl ?_
    refine r_iconst (pc' := 189) (v := 1) dX5_readDeck_188 (by decide) rfl ?_
    obtain ⟨z74, I73, ez74, h⟩ := bd2_e h
    refine r_callV1 (pc' := 192) (k' := 0) (n' := 0) dX5_readDeck_189 mb_X5_fail mi_X5_fail hp.o (by decide) rfl lk_X5_52 rfl rfl rfl (Nat.le_of_ble_eq_true rfl) rfl (c_X5_fail hp ez74 (cpI ?_))
    cases h
    exact r_zret dX5_readDeck_192 rfl (zb01 _) (by decide) (by decide) hQ
  · have h := ifn h1 h
    refine r_aload_n (pc' := 14) dX5_readDeck_13 rfl 0 rfl rfl ?_
    refine r_iconst (pc' := 15) (v := 3) dX5_readDeck_14 (by decide) rfl ?_
    obtain ⟨z76, I75, ez76, h⟩ := bd2_e h
    refine r_callV1 (pc' := 18) (k' := 0) (n' := 0) dX5_readDeck_15 mb_X5_fail mi_X5_fail hp.o (by decide) rfl lk_X5_52 rfl rfl rfl (Nat.le_of_ble_eq_true rfl) rfl (c_X5_fail hp ez76 (cpI ?_))
    cases h
    exact r_zret dX5_readDeck_18 rfl (zb01 _) (by decide) (by decide) hQ
theorem frl_X5_readDeck_L30 {p : Nat} {P : Nat} {z : Nat} (hzp : z < p ∨ p + 2 ≤ z) (hzP : z < P ∨ P + 24 ≤ z) : ∀ (f : Nat) (w1 : Int32) (w2 : Int32) (I : JI) (o : ((Bool × JI) ⊕ (Int32 × Int32 × JI))), s_X5_readDeck_L30 p P f w1 w2 I = some o → (∀ (r : Bool) (J : JI), o = .inl (r, J) → J z = I z) ∧ (∀ (y1 : Int32) (y2 : Int32) (J : JI), o = .inr (y1, y2, J) → J z = I z) := by
  intro f
  induction f with
  | zero =>
    intro w1 w2 I o h
    rw [s_X5_readDeck_L30] at h
    cases h
  | succ f ih =>
    intro w1 w2 I o h
    rw [s_X5_readDeck_L30] at h
    rcases if_e h with h | h
    · cases h
      refine ⟨?_, ?_⟩
      · intro _ _ q
        cases q
      · intro _ _ _ q
        cases q
        exact rfl
    · rcases if_e h with h | h
      · rcases if_e h with h | h
        · obtain ⟨z34, I33, e1, h⟩ := bd2_e h
          rcases if_e h with h | h
          · refine ⟨?_, ?_⟩
            · intro _ _ q
              exact ((ih _ _ _ _ h).1 _ _ q).trans ((fr_X5_readCardOfDeck e1 (by omega) (by omega)).trans rfl)
            · intro _ _ _ q
              exact ((ih _ _ _ _ h).2 _ _ _ q).trans ((fr_X5_readCardOfDeck e1 (by omega) (by omega)).trans rfl)
          · cases h
            refine ⟨?_, ?_⟩
            · intro _ _ q
              cases q
              exact ((fr_X5_readCardOfDeck e1 (by omega) (by omega)).trans rfl)
            · intro _ _ _ q
              cases q
        · obtain ⟨o2, e2, h⟩ := bd_e h
          rcases if_e h with h | h
          · obtain ⟨z9, I8, e3, h⟩ := bd2_e h
            rcases if_e h with h | h
            · refine ⟨?_, ?_⟩
              · intro _ _ q
                exact ((ih _ _ _ _ h).1 _ _ q).trans ((fr_X5_readOpening e3 (by omega) (by omega)).trans rfl)
              · intro _ _ _ q
                exact ((ih _ _ _ _ h).2 _ _ _ q).trans ((fr_X5_readOpening e3 (by omega) (by omega)).trans rfl)
            · cases h
              refine ⟨?_, ?_⟩
              · intro _ _ q
                cases q
                exact ((fr_X5_readOpening e3 (by omega) (by omega)).trans rfl)
              · intro _ _ _ q
                cases q
          · obtain ⟨o4, e4, h⟩ := bd_e h
            rcases if_e h with h | h
            · obtain ⟨z14, I13, e5, h⟩ := bd2_e h
              rcases if_e h with h | h
              · refine ⟨?_, ?_⟩
                · intro _ _ q
                  exact ((ih _ _ _ _ h).1 _ _ q).trans ((fr_X5_readOpening e5 (by omega) (by omega)).trans rfl)
                · intro _ _ _ q
                  exact ((ih _ _ _ _ h).2 _ _ _ q).trans ((fr_X5_readOpening e5 (by omega) (by omega)).trans rfl)
              · cases h
                refine ⟨?_, ?_⟩
                · intro _ _ q
                  cases q
                  exact ((fr_X5_readOpening e5 (by omega) (by omega)).trans rfl)
                · intro _ _ _ q
                  cases q
            · obtain ⟨o6, e6, h⟩ := bd_e h
              rcases if_e h with h | h
              · obtain ⟨z31, I30, e7, h⟩ := bd2_e h
                rcases if_e h with h | h
                · refine ⟨?_, ?_⟩
                  · intro _ _ q
                    exact ((ih _ _ _ _ h).1 _ _ q).trans ((fr_X5_readOpening e7 (by omega) (by omega)).trans rfl)
                  · intro _ _ _ q
                    exact ((ih _ _ _ _ h).2 _ _ _ q).trans ((fr_X5_readOpening e7 (by omega) (by omega)).trans rfl)
                · cases h
                  refine ⟨?_, ?_⟩
                  · intro _ _ q
                    cases q
                    exact ((fr_X5_readOpening e7 (by omega) (by omega)).trans rfl)
                  · intro _ _ _ q
                    cases q
              · rcases if_e h with h | h
                · rcases if_e h with h | h
                  · cases h
                    refine ⟨?_, ?_⟩
                    · intro _ _ q
                      cases q
                      exact rfl
                    · intro _ _ _ q
                      cases q
                  · obtain ⟨z28, I27, e8, h⟩ := bd2_e h
                    rcases if_e h with h | h
                    · cases h
                      refine ⟨?_, ?_⟩
                      · intro _ _ q
                        cases q
                        exact ((fr_X5_fail e8 (by omega) (by omega)).trans rfl)
                      · intro _ _ _ q
                        cases q
                    · cases h
                      refine ⟨?_, ?_⟩
                      · intro _ _ q
                        cases q
                        exact ((fr_X5_fail e8 (by omega) (by omega)).trans rfl)
                      · intro _ _ _ q
                        cases q
                · rcases if_e h with h | h
                  · cases h
                    refine ⟨?_, ?_⟩
                    · intro _ _ q
                      cases q
                      exact rfl
                    · intro _ _ _ q
                      cases q
                  · obtain ⟨z22, I21, e9, h⟩ := bd2_e h
                    rcases if_e h with h | h
                    · cases h
                      refine ⟨?_, ?_⟩
                      · intro _ _ q
                        cases q
                        exact ((fr_X5_fail e9 (by omega) (by omega)).trans rfl)
                      · intro _ _ _ q
                        cases q
                    · cases h
                      refine ⟨?_, ?_⟩
                      · intro _ _ q
                        cases q
                        exact ((fr_X5_fail e9 (by omega) (by omega)).trans rfl)
                      · intro _ _ _ q
                        cases q
      · rcases if_e h with h | h
        · obtain ⟨z67, I66, e10, h⟩ := bd2_e h
          rcases if_e h with h | h
          · refine ⟨?_, ?_⟩
            · intro _ _ q
              exact ((ih _ _ _ _ h).1 _ _ q).trans ((fr_X5_readCardOfDeck e10 (by omega) (by omega)).trans rfl)
            · intro _ _ _ q
              exact ((ih _ _ _ _ h).2 _ _ _ q).trans ((fr_X5_readCardOfDeck e10 (by omega) (by omega)).trans rfl)
          · cases h
            refine ⟨?_, ?_⟩
            · intro _ _ q
              cases q
              exact ((fr_X5_readCardOfDeck e10 (by omega) (by omega)).trans rfl)
            · intro _ _ _ q
              cases q
        · obtain ⟨o11, e11, h⟩ := bd_e h
          rcases if_e h with h | h
          · obtain ⟨z40, I39, e12, h⟩ := bd2_e h
            rcases if_e h with h | h
            · refine ⟨?_, ?_⟩
              · intro _ _ q
                exact ((ih _ _ _ _ h).1 _ _ q).trans ((fr_X5_readOpening e12 (by omega) (by omega)).trans rfl)
              · intro _ _ _ q
                exact ((ih _ _ _ _ h).2 _ _ _ q).trans ((fr_X5_readOpening e12 (by omega) (by omega)).trans rfl)
            · cases h
              refine ⟨?_, ?_⟩
              · intro _ _ q
                cases q
                exact ((fr_X5_readOpening e12 (by omega) (by omega)).trans rfl)
              · intro _ _ _ q
                cases q
          · obtain ⟨o13, e13, h⟩ := bd_e h
            rcases if_e h with h | h
            · obtain ⟨z45, I44, e14, h⟩ := bd2_e h
              rcases if_e h with h | h
              · refine ⟨?_, ?_⟩
                · intro _ _ q
                  exact ((ih _ _ _ _ h).1 _ _ q).trans ((fr_X5_readOpening e14 (by omega) (by omega)).trans rfl)
                · intro _ _ _ q
                  exact ((ih _ _ _ _ h).2 _ _ _ q).trans ((fr_X5_readOpening e14 (by omega) (by omega)).trans rfl)
              · cases h
                refine ⟨?_, ?_⟩
                · intro _ _ q
                  cases q
                  exact ((fr_X5_readOpening e14 (by omega) (by omega)).trans rfl)
                · intro _ _ _ q
                  cases q
            · obtain ⟨o15, e15, h⟩ := bd_e h
              rcases if_e h with h | h
              · obtain ⟨z64, I63, e16, h⟩ := bd2_e h
                rcases if_e h with h | h
                · refine ⟨?_, ?_⟩
                  · intro _ _ q
                    exact ((ih _ _ _ _ h).1 _ _ q).trans ((fr_X5_readOpening e16 (by omega) (by omega)).trans rfl)
                  · intro _ _ _ q
                    exact ((ih _ _ _ _ h).2 _ _ _ q).trans ((fr_X5_readOpening e16 (by omega) (by omega)).trans rfl)
                · cases h
                  refine ⟨?_, ?_⟩
                  · intro _ _ q
                    cases q
                    exact ((fr_X5_readOpening e16 (by omega) (by omega)).trans rfl)
                  · intro _ _ _ q
                    cases q
              · rcases if_e h with h | h
                · rcases if_e h with h | h
                  · obtain ⟨z61, I60, e17, h⟩ := bd2_e h
                    rcases if_e h with h | h
                    · refine ⟨?_, ?_⟩
                      · intro _ _ q
                        exact ((ih _ _ _ _ h).1 _ _ q).trans ((fr_X5_readClosing e17 (by omega) (by omega)).trans rfl)
                      · intro _ _ _ q
                        exact ((ih _ _ _ _ h).2 _ _ _ q).trans ((fr_X5_readClosing e17 (by omega) (by omega)).trans rfl)
                    · cases h
                      refine ⟨?_, ?_⟩
                      · intro _ _ q
                        cases q
                        exact ((fr_X5_readClosing e17 (by omega) (by omega)).trans rfl)
                      · intro _ _ _ q
                        cases q
                  · obtain ⟨z58, I57, e18, h⟩ := bd2_e h
                    rcases if_e h with h | h
                    · cases h
                      refine ⟨?_, ?_⟩
                      · intro _ _ q
                        cases q
                        exact ((fr_X5_fail e18 (by omega) (by omega)).trans rfl)
                      · intro _ _ _ q
                        cases q
                    · cases h
                      refine ⟨?_, ?_⟩
                      · intro _ _ q
                        cases q
                        exact ((fr_X5_fail e18 (by omega) (by omega)).trans rfl)
                      · intro _ _ _ q
                        cases q
                · obtain ⟨z52, I51, e19, h⟩ := bd2_e h
                  rcases if_e h with h | h
                  · cases h
                    refine ⟨?_, ?_⟩
                    · intro _ _ q
                      cases q
                      exact ((fr_X5_fail e19 (by omega) (by omega)).trans rfl)
                    · intro _ _ _ q
                      cases q
                  · cases h
                    refine ⟨?_, ?_⟩
                    · intro _ _ q
                      cases q
                      exact ((fr_X5_fail e19 (by omega) (by omega)).trans rfl)
                    · intro _ _ _ q
                      cases q
set_option maxHeartbeats 4000000 in
theorem fr_X5_readDeck {I : JI} {p : Nat} {P : Nat} {r : Bool} {J : JI} {z : Nat} (h : s_X5_readDeck I p P = some (r, J)) (hzp : z < p ∨ p + 2 ≤ z) (hzP : z < P ∨ P + 24 ≤ z) : J z = I z := by
  unfold s_X5_readDeck at h
  rcases if_e h with h | h
  · obtain ⟨I2, e1, h⟩ := bd_e h
    obtain ⟨o2, e2, h1, h⟩ := bl_e h
    rcases o2 with y2 | y2
    · have h1 := h1 _ rfl
      cases h1
      exact (((frl_X5_readDeck_L30 hzp hzP _ _ _ _ _ e2).1 _ _ rfl).trans ((fr_X2_advance e1 (by omega)).trans rfl))
    have h := h _ rfl
    obtain ⟨y69, y70, I71⟩ := y2
    obtain ⟨z74, I73, e3, h⟩ := bd2_e h
    cases h
    exact ((fr_X5_fail e3 (by omega) (by omega)).trans (((frl_X5_readDeck_L30 hzp hzP _ _ _ _ _ e2).2 _ _ _ rfl).trans ((fr_X2_advance e1 (by omega)).trans rfl)))
  · obtain ⟨z76, I75, e4, h⟩ := bd2_e h
    cases h
    exact ((fr_X5_fail e4 (by omega) (by omega)).trans rfl)
noncomputable def s_X5_readYarn (I : JI) (p P : Nat) : Option (Bool × JI) :=
  bd (s_X2_advance I (p + 1)) fun I1 => bd2 (s_X5_takeColour I1 p P) fun z3 I2 => if z3 = true then (bd2 (s_X5_takeNumber I2 p P 1 999) fun z6 I5 => if z6 = true then (lx (x7_bring I5 (P + 10) (I2 p 4) (I5 p 4)) fun I8 => some (true, I8)) else (some (false, I5))) else (some (false, I2))
set_option maxHeartbeats 4000000 in
theorem c_X5_readYarn {Ω : JO} {I : JI} {S : JS} {Q : JQ} {p : Nat} {P : Nat} {r : Bool} {J : JI} (hp : Is5 S p P) (h : s_X5_readYarn I p P = some (r, J)) (hQ : Q (.inl (some (.int (zb r)))) J S) : Call Ω m_X5_readYarn [.ref p] I S Q := by
  refine call_of (by decide +kernel) rfl (Nat.le_of_ble_eq_true rfl) ?_
  change AA Ω m_X5_readYarn (FQ Ω m_X5_readYarn Q) 0 0 0 [(0, .ref p)] [] I S
  unfold s_X5_readYarn at h
  refine r_aload_n (pc' := 1) dX5_readYarn_0 rfl 0 rfl rfl ?_
  refine r_getO (pc' := 4) dX5_readYarn_1 fa_X5_12 hp.o rfl hp.r0 rfl ?_
  obtain ⟨I1, eI1, h⟩ := bd_e h
  refine r_callV0 (pc' := 7) (k' := 0) (n' := 0) dX5_readYarn_4 mb_X2_advance mi_X2_advance hp.c0.o (by decide) rfl lk_X5_56 rfl rfl rfl (Nat.le_of_ble_eq_true rfl) rfl (c_X2_advance hp.c0 eI1 (cpV ?_))
  refine r_aload_n (pc' := 8) dX5_readYarn_7 rfl 0 rfl rfl ?_
  obtain ⟨z3, I2, ez3, h⟩ := bd2_e h
  refine r_callV0 (pc' := 11) (k' := 0) (n' := 0) dX5_readYarn_8 mb_X5_takeColour mi_X5_takeColour hp.o (by decide) rfl lk_X5_181 rfl rfl rfl (Nat.le_of_ble_eq_true rfl) rfl (c_X5_takeColour hp ez3 (cpI ?_))
  refine r_if_ne (tgt := 16) (pc' := 14) dX5_readYarn_11 rfl rfl (fun h4 => ?_) (fun h4 => ?_)
  · have h := ifp (zb_p0 h4) h
    refine r_aload_n (pc' := 17) dX5_readYarn_16 rfl 0 rfl rfl ?_
    refine r_getI (pc' := 20) dX5_readYarn_17 fa_X5_32 hp.o rfl rfl ?_
    refine r_istore_n (pc' := 21) (lv' := [(1, _), (0, _)]) dX5_readYarn_20 rfl (by decide) rfl rfl ?_
    refine r_aload_n (pc' := 22) dX5_readYarn_21 rfl 1 rfl rfl ?_
    refine r_iconst (pc' := 23) (v := 1) dX5_readYarn_22 (by decide) rfl ?_
    refine r_sipush (pc' := 26) (v := 999) dX5_readYarn_23 (by decide) rfl ?_
    obtain ⟨z6, I5, ez6, h⟩ := bd2_e h
    refine r_callV2 (pc' := 29) (k' := 0) (n' := 0) dX5_readYarn_26 mb_X5_takeNumber mi_X5_takeNumber hp.o (by decide) rfl lk_X5_96 rfl rfl rfl (Nat.le_of_ble_eq_true rfl) rfl (c_X5_takeNumber hp ez6 (cpI ?_))
    refine r_if_ne (tgt := 34) (pc' := 32) dX5_readYarn_29 rfl rfl (fun h7 => ?_) (fun h7 => ?_)
    · have h := ifp (zb_p0 h7) h
      refine r_aload_n (pc' := 35) dX5_readYarn_34 rfl 1 rfl rfl ?_
      refine r_getO (pc' := 38) dX5_readYarn_35 fa_X5_21 hp.o rfl hp.r1 rfl ?_
      refine r_getO (pc' := 41) dX5_readYarn_38 fa_X5_172 hp.c1.o rfl hp.c1.r11 rfl ?_
      refine r_iload_n (pc' := 42) dX5_readYarn_41 rfl 0 rfl rfl ?_
      refine r_aload_n (pc' := 43) dX5_readYarn_42 rfl 1 rfl rfl ?_
      refine r_getI (pc' := 46) dX5_readYarn_43 fa_X5_32 hp.o rfl rfl ?_
      refine r_callV2 (pc' := 49) (k' := 0) (n' := 0) dX5_readYarn_46 mb_X7_bring mi_X7_bring hp.c1.c11.o (by decide) rfl lk_X5_228 rfl rfl rfl (Nat.le_of_ble_eq_true rfl) rfl (c_X7_bring hp.c1.c11 (cpV ?_))
      have h := lx_e h
      refine r_iconst (pc' := 50) (v := 1) dX5_readYarn_49 (by decide) rfl ?_
      cases h
      exact r_zret dX5_readYarn_50 rfl (by decide) (by decide) (by decide) hQ
    · have h := ifn (zb_n0 h7) h
      refine r_iconst (pc' := 33) (v := 0) dX5_readYarn_32 (by decide) rfl ?_
      cases h
      exact r_zret dX5_readYarn_33 rfl (by decide) (by decide) (by decide) hQ
  · have h := ifn (zb_n0 h4) h
    refine r_iconst (pc' := 15) (v := 0) dX5_readYarn_14 (by decide) rfl ?_
    cases h
    exact r_zret dX5_readYarn_15 rfl (by decide) (by decide) (by decide) hQ
set_option maxHeartbeats 4000000 in
theorem fr_X5_readYarn {I : JI} {p : Nat} {P : Nat} {r : Bool} {J : JI} {z : Nat} (h : s_X5_readYarn I p P = some (r, J)) (hzp : z < p ∨ p + 2 ≤ z) (hzP : z < P ∨ P + 24 ≤ z) : J z = I z := by
  unfold s_X5_readYarn at h
  obtain ⟨I1, e1, h⟩ := bd_e h
  obtain ⟨z3, I2, e2, h⟩ := bd2_e h
  rcases if_e h with h | h
  · obtain ⟨z6, I5, e3, h⟩ := bd2_e h
    rcases if_e h with h | h
    · have h := lx_e h
      cases h
      exact ((fr_x7_bring (by omega)).trans ((fr_X5_takeNumber e3 (by omega) (by omega)).trans ((fr_X5_takeColour e2 (by omega) (by omega)).trans ((fr_X2_advance e1 (by omega)).trans rfl))))
    · cases h
      exact ((fr_X5_takeNumber e3 (by omega) (by omega)).trans ((fr_X5_takeColour e2 (by omega) (by omega)).trans ((fr_X2_advance e1 (by omega)).trans rfl)))
  · cases h
    exact ((fr_X5_takeColour e2 (by omega) (by omega)).trans ((fr_X2_advance e1 (by omega)).trans rfl))
noncomputable def s_X5_readWeave (I : JI) (p P : Nat) : Option (Bool × JI) :=
  bd (s_X2_advance I (p + 1)) fun I1 => bd2 (s_X5_seeNumber I1 p P 1 60) fun z3 I2 => if z3 = true then (gd (WvOk I2 P (P + 10)) <| lx (nI (wuN P (P + 10) (Int32.toNatClampNeg (I2 p 4)) I2)) fun v7 => lx (wuI P (P + 10) (Int32.toNatClampNeg (I2 p 4)) I2) fun I6 => if (I6 p 4) ≤ v7 then (bd (s_X2_advance I6 (p + 1)) fun I9 => some (true, I9)) else (bd2 (s_X5_fail I6 p P 3) fun z11 I10 => some (z11, I10))) else (some (false, I2))
set_option maxHeartbeats 4000000 in
theorem c_X5_readWeave {Ω : JO} {I : JI} {S : JS} {Q : JQ} {p : Nat} {P : Nat} {r : Bool} {J : JI} (hp : Is5 S p P) (h : s_X5_readWeave I p P = some (r, J)) (hQ : Q (.inl (some (.int (zb r)))) J S) : Call Ω m_X5_readWeave [.ref p] I S Q := by
  refine call_of (by decide +kernel) rfl (Nat.le_of_ble_eq_true rfl) ?_
  change AA Ω m_X5_readWeave (FQ Ω m_X5_readWeave Q) 0 0 0 [(0, .ref p)] [] I S
  unfold s_X5_readWeave at h
  refine r_aload_n (pc' := 1) dX5_readWeave_0 rfl 0 rfl rfl ?_
  refine r_getO (pc' := 4) dX5_readWeave_1 fa_X5_12 hp.o rfl hp.r0 rfl ?_
  obtain ⟨I1, eI1, h⟩ := bd_e h
  refine r_callV0 (pc' := 7) (k' := 0) (n' := 0) dX5_readWeave_4 mb_X2_advance mi_X2_advance hp.c0.o (by decide) rfl lk_X5_56 rfl rfl rfl (Nat.le_of_ble_eq_true rfl) rfl (c_X2_advance hp.c0 eI1 (cpV ?_))
  refine r_aload_n (pc' := 8) dX5_readWeave_7 rfl 0 rfl rfl ?_
  refine r_iconst (pc' := 9) (v := 1) dX5_readWeave_8 (by decide) rfl ?_
  refine r_bipush (pc' := 11) (v := 60) dX5_readWeave_9 (by decide) rfl ?_
  obtain ⟨z3, I2, ez3, h⟩ := bd2_e h
  refine r_callV2 (pc' := 14) (k' := 0) (n' := 0) dX5_readWeave_11 mb_X5_seeNumber mi_X5_seeNumber hp.o (by decide) rfl lk_X5_71 rfl rfl rfl (Nat.le_of_ble_eq_true rfl) rfl (c_X5_seeNumber hp ez3 (cpI ?_))
  refine r_if_ne (tgt := 19) (pc' := 17) dX5_readWeave_14 rfl rfl (fun h4 => ?_) (fun h4 => ?_)
  · have h := ifp (zb_p0 h4) h
    refine r_aload_n (pc' := 20) dX5_readWeave_19 rfl 0 rfl rfl ?_
    refine r_getO (pc' := 23) dX5_readWeave_20 fa_X5_21 hp.o rfl hp.r1 rfl ?_
    refine r_aload_n (pc' := 24) dX5_readWeave_23 rfl 0 rfl rfl ?_
    refine r_getO (pc' := 27) dX5_readWeave_24 fa_X5_21 hp.o rfl hp.r1 rfl ?_
    refine r_getO (pc' := 30) dX5_readWeave_27 fa_X5_172 hp.c1.o rfl hp.c1.r11 rfl ?_
    refine r_aload_n (pc' := 31) dX5_readWeave_30 rfl 0 rfl rfl ?_
    refine r_getI (pc' := 34) dX5_readWeave_31 fa_X5_32 hp.o rfl rfl ?_
    obtain ⟨g5, h⟩ := gd_e h
    refine r_callV2 (pc' := 37) (k' := 0) (n' := 0) dX5_readWeave_34 mb_X3_weaveUpTo mi_X3_weaveUpTo hp.c1.o (by decide) rfl lk_X5_231 rfl rfl rfl (Nat.le_of_ble_eq_true rfl) rfl (c_X3_weaveUpTo hp.c1 hp.c1.c11 (by omega) g5 (cpI ?_))
    have h := lx_e h
    have h := lx_e h
    refine r_aload_n (pc' := 38) dX5_readWeave_37 rfl 0 rfl rfl ?_
    refine r_getI (pc' := 41) dX5_readWeave_38 fa_X5_32 hp.o rfl rfl ?_
    refine r_icmp_ge (tgt := 50) (pc' := 44) dX5_readWeave_41 rfl rfl (fun h8 => ?_) (fun h8 => ?_)
    · have h := ifp h8 h
      refine r_aload_n (pc' := 51) dX5_readWeave_50 rfl 0 rfl rfl ?_
      refine r_getO (pc' := 54) dX5_readWeave_51 fa_X5_12 hp.o rfl hp.r0 rfl ?_
      obtain ⟨I9, eI9, h⟩ := bd_e h
      refine r_callV0 (pc' := 57) (k' := 0) (n' := 0) dX5_readWeave_54 mb_X2_advance mi_X2_advance hp.c0.o (by decide) rfl lk_X5_56 rfl rfl rfl (Nat.le_of_ble_eq_true rfl) rfl (c_X2_advance hp.c0 eI9 (cpV ?_))
      refine r_iconst (pc' := 58) (v := 1) dX5_readWeave_57 (by decide) rfl ?_
      cases h
      exact r_zret dX5_readWeave_58 rfl (by decide) (by decide) (by decide) hQ
    · have h := ifn h8 h
      refine r_aload_n (pc' := 45) dX5_readWeave_44 rfl 0 rfl rfl ?_
      refine r_iconst (pc' := 46) (v := 3) dX5_readWeave_45 (by decide) rfl ?_
      obtain ⟨z11, I10, ez11, h⟩ := bd2_e h
      refine r_callV1 (pc' := 49) (k' := 0) (n' := 0) dX5_readWeave_46 mb_X5_fail mi_X5_fail hp.o (by decide) rfl lk_X5_52 rfl rfl rfl (Nat.le_of_ble_eq_true rfl) rfl (c_X5_fail hp ez11 (cpI ?_))
      cases h
      exact r_zret dX5_readWeave_49 rfl (zb01 _) (by decide) (by decide) hQ
  · have h := ifn (zb_n0 h4) h
    refine r_iconst (pc' := 18) (v := 0) dX5_readWeave_17 (by decide) rfl ?_
    cases h
    exact r_zret dX5_readWeave_18 rfl (by decide) (by decide) (by decide) hQ
set_option maxHeartbeats 4000000 in
theorem fr_X5_readWeave {I : JI} {p : Nat} {P : Nat} {r : Bool} {J : JI} {z : Nat} (h : s_X5_readWeave I p P = some (r, J)) (hzp : z < p ∨ p + 2 ≤ z) (hzP : z < P ∨ P + 24 ≤ z) : J z = I z := by
  unfold s_X5_readWeave at h
  obtain ⟨I1, e1, h⟩ := bd_e h
  obtain ⟨z3, I2, e2, h⟩ := bd2_e h
  rcases if_e h with h | h
  · obtain ⟨g3, h⟩ := gd_e h
    have h := lx_e h
    have h := lx_e h
    rcases if_e h with h | h
    · obtain ⟨I9, e4, h⟩ := bd_e h
      cases h
      exact ((fr_X2_advance e4 (by omega)).trans ((fr_wuI (by omega)).trans ((fr_X5_seeNumber e2 (by omega) (by omega)).trans ((fr_X2_advance e1 (by omega)).trans rfl))))
    · obtain ⟨z11, I10, e5, h⟩ := bd2_e h
      cases h
      exact ((fr_X5_fail e5 (by omega) (by omega)).trans ((fr_wuI (by omega)).trans ((fr_X5_seeNumber e2 (by omega) (by omega)).trans ((fr_X2_advance e1 (by omega)).trans rfl))))
  · cases h
    exact ((fr_X5_seeNumber e2 (by omega) (by omega)).trans ((fr_X2_advance e1 (by omega)).trans rfl))
noncomputable def s_X5_readUnweave (I : JI) (p P : Nat) : Option (Bool × JI) :=
  bd (s_X2_advance I (p + 1)) fun I1 => bd2 (s_X5_seeNumber I1 p P 1 60) fun z3 I2 => if z3 = true then (if (I2 p 4) ≤ (I2 (P + 10) 3) then (lx (rmI P (Int32.toNatClampNeg (I2 p 4)) I2) fun I6 => bd (s_X2_advance I6 (p + 1)) fun I7 => some (true, I7)) else (bd2 (s_X5_fail I2 p P 3) fun z9 I8 => some (z9, I8))) else (some (false, I2))
set_option maxHeartbeats 4000000 in
theorem c_X5_readUnweave {Ω : JO} {I : JI} {S : JS} {Q : JQ} {p : Nat} {P : Nat} {r : Bool} {J : JI} (hp : Is5 S p P) (h : s_X5_readUnweave I p P = some (r, J)) (hQ : Q (.inl (some (.int (zb r)))) J S) : Call Ω m_X5_readUnweave [.ref p] I S Q := by
  refine call_of (by decide +kernel) rfl (Nat.le_of_ble_eq_true rfl) ?_
  change AA Ω m_X5_readUnweave (FQ Ω m_X5_readUnweave Q) 0 0 0 [(0, .ref p)] [] I S
  unfold s_X5_readUnweave at h
  refine r_aload_n (pc' := 1) dX5_readUnweave_0 rfl 0 rfl rfl ?_
  refine r_getO (pc' := 4) dX5_readUnweave_1 fa_X5_12 hp.o rfl hp.r0 rfl ?_
  obtain ⟨I1, eI1, h⟩ := bd_e h
  refine r_callV0 (pc' := 7) (k' := 0) (n' := 0) dX5_readUnweave_4 mb_X2_advance mi_X2_advance hp.c0.o (by decide) rfl lk_X5_56 rfl rfl rfl (Nat.le_of_ble_eq_true rfl) rfl (c_X2_advance hp.c0 eI1 (cpV ?_))
  refine r_aload_n (pc' := 8) dX5_readUnweave_7 rfl 0 rfl rfl ?_
  refine r_iconst (pc' := 9) (v := 1) dX5_readUnweave_8 (by decide) rfl ?_
  refine r_bipush (pc' := 11) (v := 60) dX5_readUnweave_9 (by decide) rfl ?_
  obtain ⟨z3, I2, ez3, h⟩ := bd2_e h
  refine r_callV2 (pc' := 14) (k' := 0) (n' := 0) dX5_readUnweave_11 mb_X5_seeNumber mi_X5_seeNumber hp.o (by decide) rfl lk_X5_71 rfl rfl rfl (Nat.le_of_ble_eq_true rfl) rfl (c_X5_seeNumber hp ez3 (cpI ?_))
  refine r_if_ne (tgt := 19) (pc' := 17) dX5_readUnweave_14 rfl rfl (fun h4 => ?_) (fun h4 => ?_)
  · have h := ifp (zb_p0 h4) h
    refine r_aload_n (pc' := 20) dX5_readUnweave_19 rfl 0 rfl rfl ?_
    refine r_getI (pc' := 23) dX5_readUnweave_20 fa_X5_32 hp.o rfl rfl ?_
    refine r_aload_n (pc' := 24) dX5_readUnweave_23 rfl 0 rfl rfl ?_
    refine r_getO (pc' := 27) dX5_readUnweave_24 fa_X5_21 hp.o rfl hp.r1 rfl ?_
    refine r_getO (pc' := 30) dX5_readUnweave_27 fa_X5_172 hp.c1.o rfl hp.c1.r11 rfl ?_
    refine r_getI (pc' := 33) dX5_readUnweave_30 fa_X5_176 hp.c1.c11.o rfl rfl ?_
    refine r_icmp_le (tgt := 42) (pc' := 36) dX5_readUnweave_33 rfl rfl (fun h5 => ?_) (fun h5 => ?_)
    · have h := ifp h5 h
      refine r_aload_n (pc' := 43) dX5_readUnweave_42 rfl 0 rfl rfl ?_
      refine r_getO (pc' := 46) dX5_readUnweave_43 fa_X5_21 hp.o rfl hp.r1 rfl ?_
      refine r_aload_n (pc' := 47) dX5_readUnweave_46 rfl 0 rfl rfl ?_
      refine r_getI (pc' := 50) dX5_readUnweave_47 fa_X5_32 hp.o rfl rfl ?_
      refine r_callV1 (pc' := 53) (k' := 0) (n' := 0) dX5_readUnweave_50 mb_X3_removeRows mi_X3_removeRows hp.c1.o (by decide) rfl lk_X5_235 rfl rfl rfl (Nat.le_of_ble_eq_true rfl) rfl (c_X3_removeRows hp.c1 (cpV ?_))
      have h := lx_e h
      refine r_aload_n (pc' := 54) dX5_readUnweave_53 rfl 0 rfl rfl ?_
      refine r_getO (pc' := 57) dX5_readUnweave_54 fa_X5_12 hp.o rfl hp.r0 rfl ?_
      obtain ⟨I7, eI7, h⟩ := bd_e h
      refine r_callV0 (pc' := 60) (k' := 0) (n' := 0) dX5_readUnweave_57 mb_X2_advance mi_X2_advance hp.c0.o (by decide) rfl lk_X5_56 rfl rfl rfl (Nat.le_of_ble_eq_true rfl) rfl (c_X2_advance hp.c0 eI7 (cpV ?_))
      refine r_iconst (pc' := 61) (v := 1) dX5_readUnweave_60 (by decide) rfl ?_
      cases h
      exact r_zret dX5_readUnweave_61 rfl (by decide) (by decide) (by decide) hQ
    · have h := ifn h5 h
      refine r_aload_n (pc' := 37) dX5_readUnweave_36 rfl 0 rfl rfl ?_
      refine r_iconst (pc' := 38) (v := 3) dX5_readUnweave_37 (by decide) rfl ?_
      obtain ⟨z9, I8, ez9, h⟩ := bd2_e h
      refine r_callV1 (pc' := 41) (k' := 0) (n' := 0) dX5_readUnweave_38 mb_X5_fail mi_X5_fail hp.o (by decide) rfl lk_X5_52 rfl rfl rfl (Nat.le_of_ble_eq_true rfl) rfl (c_X5_fail hp ez9 (cpI ?_))
      cases h
      exact r_zret dX5_readUnweave_41 rfl (zb01 _) (by decide) (by decide) hQ
  · have h := ifn (zb_n0 h4) h
    refine r_iconst (pc' := 18) (v := 0) dX5_readUnweave_17 (by decide) rfl ?_
    cases h
    exact r_zret dX5_readUnweave_18 rfl (by decide) (by decide) (by decide) hQ
set_option maxHeartbeats 4000000 in
theorem fr_X5_readUnweave {I : JI} {p : Nat} {P : Nat} {r : Bool} {J : JI} {z : Nat} (h : s_X5_readUnweave I p P = some (r, J)) (hzp : z < p ∨ p + 2 ≤ z) (hzP : z < P ∨ P + 24 ≤ z) : J z = I z := by
  unfold s_X5_readUnweave at h
  obtain ⟨I1, e1, h⟩ := bd_e h
  obtain ⟨z3, I2, e2, h⟩ := bd2_e h
  rcases if_e h with h | h
  · rcases if_e h with h | h
    · have h := lx_e h
      obtain ⟨I7, e3, h⟩ := bd_e h
      cases h
      exact ((fr_X2_advance e3 (by omega)).trans ((fr_rmI (by omega)).trans ((fr_X5_seeNumber e2 (by omega) (by omega)).trans ((fr_X2_advance e1 (by omega)).trans rfl))))
    · obtain ⟨z9, I8, e4, h⟩ := bd2_e h
      cases h
      exact ((fr_X5_fail e4 (by omega) (by omega)).trans ((fr_X5_seeNumber e2 (by omega) (by omega)).trans ((fr_X2_advance e1 (by omega)).trans rfl)))
  · cases h
    exact ((fr_X5_seeNumber e2 (by omega) (by omega)).trans ((fr_X2_advance e1 (by omega)).trans rfl))
noncomputable def s_X5_takeCard (I : JI) (p P : Nat) : Option (Bool × JI) :=
  bd2 (s_X5_seeCard I p P) fun z2 I1 => if z2 = true then (bd (s_X2_advance I1 (p + 1)) fun I4 => some (true, I4)) else (some (false, I1))
set_option maxHeartbeats 4000000 in
theorem c_X5_takeCard {Ω : JO} {I : JI} {S : JS} {Q : JQ} {p : Nat} {P : Nat} {r : Bool} {J : JI} (hp : Is5 S p P) (h : s_X5_takeCard I p P = some (r, J)) (hQ : Q (.inl (some (.int (zb r)))) J S) : Call Ω m_X5_takeCard [.ref p] I S Q := by
  refine call_of (by decide +kernel) rfl (Nat.le_of_ble_eq_true rfl) ?_
  change AA Ω m_X5_takeCard (FQ Ω m_X5_takeCard Q) 0 0 0 [(0, .ref p)] [] I S
  unfold s_X5_takeCard at h
  refine r_aload_n (pc' := 1) dX5_takeCard_0 rfl 0 rfl rfl ?_
  obtain ⟨z2, I1, ez2, h⟩ := bd2_e h
  refine r_callV0 (pc' := 4) (k' := 0) (n' := 0) dX5_takeCard_1 mb_X5_seeCard mi_X5_seeCard hp.o (by decide) rfl lk_X5_78 rfl rfl rfl (Nat.le_of_ble_eq_true rfl) rfl (c_X5_seeCard hp ez2 (cpI ?_))
  refine r_if_ne (tgt := 9) (pc' := 7) dX5_takeCard_4 rfl rfl (fun h3 => ?_) (fun h3 => ?_)
  · have h := ifp (zb_p0 h3) h
    refine r_aload_n (pc' := 10) dX5_takeCard_9 rfl 0 rfl rfl ?_
    refine r_getO (pc' := 13) dX5_takeCard_10 fa_X5_12 hp.o rfl hp.r0 rfl ?_
    obtain ⟨I4, eI4, h⟩ := bd_e h
    refine r_callV0 (pc' := 16) (k' := 0) (n' := 0) dX5_takeCard_13 mb_X2_advance mi_X2_advance hp.c0.o (by decide) rfl lk_X5_56 rfl rfl rfl (Nat.le_of_ble_eq_true rfl) rfl (c_X2_advance hp.c0 eI4 (cpV ?_))
    refine r_iconst (pc' := 17) (v := 1) dX5_takeCard_16 (by decide) rfl ?_
    cases h
    exact r_zret dX5_takeCard_17 rfl (by decide) (by decide) (by decide) hQ
  · have h := ifn (zb_n0 h3) h
    refine r_iconst (pc' := 8) (v := 0) dX5_takeCard_7 (by decide) rfl ?_
    cases h
    exact r_zret dX5_takeCard_8 rfl (by decide) (by decide) (by decide) hQ
set_option maxHeartbeats 4000000 in
theorem fr_X5_takeCard {I : JI} {p : Nat} {P : Nat} {r : Bool} {J : JI} {z : Nat} (h : s_X5_takeCard I p P = some (r, J)) (hzp : z < p ∨ p + 2 ≤ z) (hzP : z < P ∨ P + 24 ≤ z) : J z = I z := by
  unfold s_X5_takeCard at h
  obtain ⟨z2, I1, e1, h⟩ := bd2_e h
  rcases if_e h with h | h
  · obtain ⟨I4, e2, h⟩ := bd_e h
    cases h
    exact ((fr_X2_advance e2 (by omega)).trans ((fr_X5_seeCard e1 (by omega) (by omega)).trans rfl))
  · cases h
    exact ((fr_X5_seeCard e1 (by omega) (by omega)).trans rfl)
noncomputable def s_X5_readSwap (I : JI) (p P : Nat) : Option (Bool × JI) :=
  bd (s_X2_advance I (p + 1)) fun I1 => bd2 (s_X5_takeCard I1 p P) fun z3 I2 => if z3 = true then (bd2 (s_X5_seeCard I2 p P) fun z6 I5 => if z6 = true then (if (I5 p 4) = (I2 p 4) then (bd2 (s_X5_fail I5 p P 3) fun z12 I11 => some (z12, I11)) else (lx (x7_exchangeCards I5 (P + 10) (I2 p 4) (I5 p 4)) fun I9 => bd (s_X2_advance I9 (p + 1)) fun I10 => some (true, I10))) else (some (false, I5))) else (some (false, I2))
set_option maxHeartbeats 4000000 in
theorem c_X5_readSwap {Ω : JO} {I : JI} {S : JS} {Q : JQ} {p : Nat} {P : Nat} {r : Bool} {J : JI} (hp : Is5 S p P) (h : s_X5_readSwap I p P = some (r, J)) (hQ : Q (.inl (some (.int (zb r)))) J S) : Call Ω m_X5_readSwap [.ref p] I S Q := by
  refine call_of (by decide +kernel) rfl (Nat.le_of_ble_eq_true rfl) ?_
  change AA Ω m_X5_readSwap (FQ Ω m_X5_readSwap Q) 0 0 0 [(0, .ref p)] [] I S
  unfold s_X5_readSwap at h
  refine r_aload_n (pc' := 1) dX5_readSwap_0 rfl 0 rfl rfl ?_
  refine r_getO (pc' := 4) dX5_readSwap_1 fa_X5_12 hp.o rfl hp.r0 rfl ?_
  obtain ⟨I1, eI1, h⟩ := bd_e h
  refine r_callV0 (pc' := 7) (k' := 0) (n' := 0) dX5_readSwap_4 mb_X2_advance mi_X2_advance hp.c0.o (by decide) rfl lk_X5_56 rfl rfl rfl (Nat.le_of_ble_eq_true rfl) rfl (c_X2_advance hp.c0 eI1 (cpV ?_))
  refine r_aload_n (pc' := 8) dX5_readSwap_7 rfl 0 rfl rfl ?_
  obtain ⟨z3, I2, ez3, h⟩ := bd2_e h
  refine r_callV0 (pc' := 11) (k' := 0) (n' := 0) dX5_readSwap_8 mb_X5_takeCard mi_X5_takeCard hp.o (by decide) rfl lk_X5_238 rfl rfl rfl (Nat.le_of_ble_eq_true rfl) rfl (c_X5_takeCard hp ez3 (cpI ?_))
  refine r_if_ne (tgt := 16) (pc' := 14) dX5_readSwap_11 rfl rfl (fun h4 => ?_) (fun h4 => ?_)
  · have h := ifp (zb_p0 h4) h
    refine r_aload_n (pc' := 17) dX5_readSwap_16 rfl 0 rfl rfl ?_
    refine r_getI (pc' := 20) dX5_readSwap_17 fa_X5_32 hp.o rfl rfl ?_
    refine r_istore_n (pc' := 21) (lv' := [(1, _), (0, _)]) dX5_readSwap_20 rfl (by decide) rfl rfl ?_
    refine r_aload_n (pc' := 22) dX5_readSwap_21 rfl 1 rfl rfl ?_
    obtain ⟨z6, I5, ez6, h⟩ := bd2_e h
    refine r_callV0 (pc' := 25) (k' := 0) (n' := 0) dX5_readSwap_22 mb_X5_seeCard mi_X5_seeCard hp.o (by decide) rfl lk_X5_78 rfl rfl rfl (Nat.le_of_ble_eq_true rfl) rfl (c_X5_seeCard hp ez6 (cpI ?_))
    refine r_if_ne (tgt := 30) (pc' := 28) dX5_readSwap_25 rfl rfl (fun h7 => ?_) (fun h7 => ?_)
    · have h := ifp (zb_p0 h7) h
      refine r_aload_n (pc' := 31) dX5_readSwap_30 rfl 1 rfl rfl ?_
      refine r_getI (pc' := 34) dX5_readSwap_31 fa_X5_32 hp.o rfl rfl ?_
      refine r_iload_n (pc' := 35) dX5_readSwap_34 rfl 0 rfl rfl ?_
      refine r_icmp_ne (tgt := 44) (pc' := 38) dX5_readSwap_35 rfl rfl (fun h8 => ?_) (fun h8 => ?_)
      · have h := ifn h8 h
        refine r_aload_n (pc' := 45) dX5_readSwap_44 rfl 1 rfl rfl ?_
        refine r_getO (pc' := 48) dX5_readSwap_45 fa_X5_21 hp.o rfl hp.r1 rfl ?_
        refine r_getO (pc' := 51) dX5_readSwap_48 fa_X5_172 hp.c1.o rfl hp.c1.r11 rfl ?_
        refine r_iload_n (pc' := 52) dX5_readSwap_51 rfl 0 rfl rfl ?_
        refine r_aload_n (pc' := 53) dX5_readSwap_52 rfl 1 rfl rfl ?_
        refine r_getI (pc' := 56) dX5_readSwap_53 fa_X5_32 hp.o rfl rfl ?_
        refine r_callV2 (pc' := 59) (k' := 0) (n' := 0) dX5_readSwap_56 mb_X7_exchangeCards mi_X7_exchangeCards hp.c1.c11.o (by decide) rfl lk_X5_241 rfl rfl rfl (Nat.le_of_ble_eq_true rfl) rfl (c_X7_exchangeCards hp.c1.c11 (cpV ?_))
        have h := lx_e h
        refine r_aload_n (pc' := 60) dX5_readSwap_59 rfl 1 rfl rfl ?_
        refine r_getO (pc' := 63) dX5_readSwap_60 fa_X5_12 hp.o rfl hp.r0 rfl ?_
        obtain ⟨I10, eI10, h⟩ := bd_e h
        refine r_callV0 (pc' := 66) (k' := 0) (n' := 0) dX5_readSwap_63 mb_X2_advance mi_X2_advance hp.c0.o (by decide) rfl lk_X5_56 rfl rfl rfl (Nat.le_of_ble_eq_true rfl) rfl (c_X2_advance hp.c0 eI10 (cpV ?_))
        refine r_iconst (pc' := 67) (v := 1) dX5_readSwap_66 (by decide) rfl ?_
        cases h
        exact r_zret dX5_readSwap_67 rfl (by decide) (by decide) (by decide) hQ
      · have h := ifp h8 h
        refine r_aload_n (pc' := 39) dX5_readSwap_38 rfl 1 rfl rfl ?_
        refine r_iconst (pc' := 40) (v := 3) dX5_readSwap_39 (by decide) rfl ?_
        obtain ⟨z12, I11, ez12, h⟩ := bd2_e h
        refine r_callV1 (pc' := 43) (k' := 0) (n' := 0) dX5_readSwap_40 mb_X5_fail mi_X5_fail hp.o (by decide) rfl lk_X5_52 rfl rfl rfl (Nat.le_of_ble_eq_true rfl) rfl (c_X5_fail hp ez12 (cpI ?_))
        cases h
        exact r_zret dX5_readSwap_43 rfl (zb01 _) (by decide) (by decide) hQ
    · have h := ifn (zb_n0 h7) h
      refine r_iconst (pc' := 29) (v := 0) dX5_readSwap_28 (by decide) rfl ?_
      cases h
      exact r_zret dX5_readSwap_29 rfl (by decide) (by decide) (by decide) hQ
  · have h := ifn (zb_n0 h4) h
    refine r_iconst (pc' := 15) (v := 0) dX5_readSwap_14 (by decide) rfl ?_
    cases h
    exact r_zret dX5_readSwap_15 rfl (by decide) (by decide) (by decide) hQ
set_option maxHeartbeats 4000000 in
theorem fr_X5_readSwap {I : JI} {p : Nat} {P : Nat} {r : Bool} {J : JI} {z : Nat} (h : s_X5_readSwap I p P = some (r, J)) (hzp : z < p ∨ p + 2 ≤ z) (hzP : z < P ∨ P + 24 ≤ z) : J z = I z := by
  unfold s_X5_readSwap at h
  obtain ⟨I1, e1, h⟩ := bd_e h
  obtain ⟨z3, I2, e2, h⟩ := bd2_e h
  rcases if_e h with h | h
  · obtain ⟨z6, I5, e3, h⟩ := bd2_e h
    rcases if_e h with h | h
    · rcases if_e h with h | h
      · obtain ⟨z12, I11, e4, h⟩ := bd2_e h
        cases h
        exact ((fr_X5_fail e4 (by omega) (by omega)).trans ((fr_X5_seeCard e3 (by omega) (by omega)).trans ((fr_X5_takeCard e2 (by omega) (by omega)).trans ((fr_X2_advance e1 (by omega)).trans rfl))))
      · have h := lx_e h
        obtain ⟨I10, e5, h⟩ := bd_e h
        cases h
        exact ((fr_X2_advance e5 (by omega)).trans ((fr_x7_exchangeCards (by omega)).trans ((fr_X5_seeCard e3 (by omega) (by omega)).trans ((fr_X5_takeCard e2 (by omega) (by omega)).trans ((fr_X2_advance e1 (by omega)).trans rfl)))))
    · cases h
      exact ((fr_X5_seeCard e3 (by omega) (by omega)).trans ((fr_X5_takeCard e2 (by omega) (by omega)).trans ((fr_X2_advance e1 (by omega)).trans rfl)))
  · cases h
    exact ((fr_X5_takeCard e2 (by omega) (by omega)).trans ((fr_X2_advance e1 (by omega)).trans rfl))
noncomputable def s_X5_takeHarness (I : JI) (p P : Nat) : Option (Bool × JI) :=
  bd2 (s_X5_seeHarness I p P) fun z2 I1 => if z2 = true then (bd (s_X2_advance I1 (p + 1)) fun I4 => some (true, I4)) else (some (false, I1))
set_option maxHeartbeats 4000000 in
theorem c_X5_takeHarness {Ω : JO} {I : JI} {S : JS} {Q : JQ} {p : Nat} {P : Nat} {r : Bool} {J : JI} (hp : Is5 S p P) (h : s_X5_takeHarness I p P = some (r, J)) (hQ : Q (.inl (some (.int (zb r)))) J S) : Call Ω m_X5_takeHarness [.ref p] I S Q := by
  refine call_of (by decide +kernel) rfl (Nat.le_of_ble_eq_true rfl) ?_
  change AA Ω m_X5_takeHarness (FQ Ω m_X5_takeHarness Q) 0 0 0 [(0, .ref p)] [] I S
  unfold s_X5_takeHarness at h
  refine r_aload_n (pc' := 1) dX5_takeHarness_0 rfl 0 rfl rfl ?_
  obtain ⟨z2, I1, ez2, h⟩ := bd2_e h
  refine r_callV0 (pc' := 4) (k' := 0) (n' := 0) dX5_takeHarness_1 mb_X5_seeHarness mi_X5_seeHarness hp.o (by decide) rfl lk_X5_84 rfl rfl rfl (Nat.le_of_ble_eq_true rfl) rfl (c_X5_seeHarness hp ez2 (cpI ?_))
  refine r_if_ne (tgt := 9) (pc' := 7) dX5_takeHarness_4 rfl rfl (fun h3 => ?_) (fun h3 => ?_)
  · have h := ifp (zb_p0 h3) h
    refine r_aload_n (pc' := 10) dX5_takeHarness_9 rfl 0 rfl rfl ?_
    refine r_getO (pc' := 13) dX5_takeHarness_10 fa_X5_12 hp.o rfl hp.r0 rfl ?_
    obtain ⟨I4, eI4, h⟩ := bd_e h
    refine r_callV0 (pc' := 16) (k' := 0) (n' := 0) dX5_takeHarness_13 mb_X2_advance mi_X2_advance hp.c0.o (by decide) rfl lk_X5_56 rfl rfl rfl (Nat.le_of_ble_eq_true rfl) rfl (c_X2_advance hp.c0 eI4 (cpV ?_))
    refine r_iconst (pc' := 17) (v := 1) dX5_takeHarness_16 (by decide) rfl ?_
    cases h
    exact r_zret dX5_takeHarness_17 rfl (by decide) (by decide) (by decide) hQ
  · have h := ifn (zb_n0 h3) h
    refine r_iconst (pc' := 8) (v := 0) dX5_takeHarness_7 (by decide) rfl ?_
    cases h
    exact r_zret dX5_takeHarness_8 rfl (by decide) (by decide) (by decide) hQ
set_option maxHeartbeats 4000000 in
theorem fr_X5_takeHarness {I : JI} {p : Nat} {P : Nat} {r : Bool} {J : JI} {z : Nat} (h : s_X5_takeHarness I p P = some (r, J)) (hzp : z < p ∨ p + 2 ≤ z) (hzP : z < P ∨ P + 24 ≤ z) : J z = I z := by
  unfold s_X5_takeHarness at h
  obtain ⟨z2, I1, e1, h⟩ := bd2_e h
  rcases if_e h with h | h
  · obtain ⟨I4, e2, h⟩ := bd_e h
    cases h
    exact ((fr_X2_advance e2 (by omega)).trans ((fr_X5_seeHarness e1 (by omega) (by omega)).trans rfl))
  · cases h
    exact ((fr_X5_seeHarness e1 (by omega) (by omega)).trans rfl)
noncomputable def s_X5_readPunch (I : JI) (p P : Nat) : Option (Bool × JI) :=
  bd (s_X2_advance I (p + 1)) fun I1 => bd2 (s_X5_takeCard I1 p P) fun z3 I2 => if z3 = true then (bd2 (s_X5_takeHarness I2 p P) fun z6 I5 => if z6 = true then (lx (x7_punchCard I5 (P + 10) (I2 p 4) (I5 p 4)) fun I8 => some (true, I8)) else (some (false, I5))) else (some (false, I2))
set_option maxHeartbeats 4000000 in
theorem c_X5_readPunch {Ω : JO} {I : JI} {S : JS} {Q : JQ} {p : Nat} {P : Nat} {r : Bool} {J : JI} (hp : Is5 S p P) (h : s_X5_readPunch I p P = some (r, J)) (hQ : Q (.inl (some (.int (zb r)))) J S) : Call Ω m_X5_readPunch [.ref p] I S Q := by
  refine call_of (by decide +kernel) rfl (Nat.le_of_ble_eq_true rfl) ?_
  change AA Ω m_X5_readPunch (FQ Ω m_X5_readPunch Q) 0 0 0 [(0, .ref p)] [] I S
  unfold s_X5_readPunch at h
  refine r_aload_n (pc' := 1) dX5_readPunch_0 rfl 0 rfl rfl ?_
  refine r_getO (pc' := 4) dX5_readPunch_1 fa_X5_12 hp.o rfl hp.r0 rfl ?_
  obtain ⟨I1, eI1, h⟩ := bd_e h
  refine r_callV0 (pc' := 7) (k' := 0) (n' := 0) dX5_readPunch_4 mb_X2_advance mi_X2_advance hp.c0.o (by decide) rfl lk_X5_56 rfl rfl rfl (Nat.le_of_ble_eq_true rfl) rfl (c_X2_advance hp.c0 eI1 (cpV ?_))
  refine r_aload_n (pc' := 8) dX5_readPunch_7 rfl 0 rfl rfl ?_
  obtain ⟨z3, I2, ez3, h⟩ := bd2_e h
  refine r_callV0 (pc' := 11) (k' := 0) (n' := 0) dX5_readPunch_8 mb_X5_takeCard mi_X5_takeCard hp.o (by decide) rfl lk_X5_238 rfl rfl rfl (Nat.le_of_ble_eq_true rfl) rfl (c_X5_takeCard hp ez3 (cpI ?_))
  refine r_if_ne (tgt := 16) (pc' := 14) dX5_readPunch_11 rfl rfl (fun h4 => ?_) (fun h4 => ?_)
  · have h := ifp (zb_p0 h4) h
    refine r_aload_n (pc' := 17) dX5_readPunch_16 rfl 0 rfl rfl ?_
    refine r_getI (pc' := 20) dX5_readPunch_17 fa_X5_32 hp.o rfl rfl ?_
    refine r_istore_n (pc' := 21) (lv' := [(1, _), (0, _)]) dX5_readPunch_20 rfl (by decide) rfl rfl ?_
    refine r_aload_n (pc' := 22) dX5_readPunch_21 rfl 1 rfl rfl ?_
    obtain ⟨z6, I5, ez6, h⟩ := bd2_e h
    refine r_callV0 (pc' := 25) (k' := 0) (n' := 0) dX5_readPunch_22 mb_X5_takeHarness mi_X5_takeHarness hp.o (by decide) rfl lk_X5_244 rfl rfl rfl (Nat.le_of_ble_eq_true rfl) rfl (c_X5_takeHarness hp ez6 (cpI ?_))
    refine r_if_ne (tgt := 30) (pc' := 28) dX5_readPunch_25 rfl rfl (fun h7 => ?_) (fun h7 => ?_)
    · have h := ifp (zb_p0 h7) h
      refine r_aload_n (pc' := 31) dX5_readPunch_30 rfl 1 rfl rfl ?_
      refine r_getO (pc' := 34) dX5_readPunch_31 fa_X5_21 hp.o rfl hp.r1 rfl ?_
      refine r_getO (pc' := 37) dX5_readPunch_34 fa_X5_172 hp.c1.o rfl hp.c1.r11 rfl ?_
      refine r_iload_n (pc' := 38) dX5_readPunch_37 rfl 0 rfl rfl ?_
      refine r_aload_n (pc' := 39) dX5_readPunch_38 rfl 1 rfl rfl ?_
      refine r_getI (pc' := 42) dX5_readPunch_39 fa_X5_32 hp.o rfl rfl ?_
      refine r_callV2 (pc' := 45) (k' := 0) (n' := 0) dX5_readPunch_42 mb_X7_punchCard mi_X7_punchCard hp.c1.c11.o (by decide) rfl lk_X5_247 rfl rfl rfl (Nat.le_of_ble_eq_true rfl) rfl (c_X7_punchCard hp.c1.c11 (cpV ?_))
      have h := lx_e h
      refine r_iconst (pc' := 46) (v := 1) dX5_readPunch_45 (by decide) rfl ?_
      cases h
      exact r_zret dX5_readPunch_46 rfl (by decide) (by decide) (by decide) hQ
    · have h := ifn (zb_n0 h7) h
      refine r_iconst (pc' := 29) (v := 0) dX5_readPunch_28 (by decide) rfl ?_
      cases h
      exact r_zret dX5_readPunch_29 rfl (by decide) (by decide) (by decide) hQ
  · have h := ifn (zb_n0 h4) h
    refine r_iconst (pc' := 15) (v := 0) dX5_readPunch_14 (by decide) rfl ?_
    cases h
    exact r_zret dX5_readPunch_15 rfl (by decide) (by decide) (by decide) hQ
set_option maxHeartbeats 4000000 in
theorem fr_X5_readPunch {I : JI} {p : Nat} {P : Nat} {r : Bool} {J : JI} {z : Nat} (h : s_X5_readPunch I p P = some (r, J)) (hzp : z < p ∨ p + 2 ≤ z) (hzP : z < P ∨ P + 24 ≤ z) : J z = I z := by
  unfold s_X5_readPunch at h
  obtain ⟨I1, e1, h⟩ := bd_e h
  obtain ⟨z3, I2, e2, h⟩ := bd2_e h
  rcases if_e h with h | h
  · obtain ⟨z6, I5, e3, h⟩ := bd2_e h
    rcases if_e h with h | h
    · have h := lx_e h
      cases h
      exact ((fr_x7_punchCard (by omega)).trans ((fr_X5_takeHarness e3 (by omega) (by omega)).trans ((fr_X5_takeCard e2 (by omega) (by omega)).trans ((fr_X2_advance e1 (by omega)).trans rfl))))
    · cases h
      exact ((fr_X5_takeHarness e3 (by omega) (by omega)).trans ((fr_X5_takeCard e2 (by omega) (by omega)).trans ((fr_X2_advance e1 (by omega)).trans rfl)))
  · cases h
    exact ((fr_X5_takeCard e2 (by omega) (by omega)).trans ((fr_X2_advance e1 (by omega)).trans rfl))
noncomputable def s_X5_readDye (I : JI) (p P : Nat) : Option (Bool × JI) :=
  bd (s_X2_advance I (p + 1)) fun I1 => bd2 (s_X5_takeCard I1 p P) fun z3 I2 => if z3 = true then (bd2 (s_X5_takeColour I2 p P) fun z6 I5 => if z6 = true then (lx (x7_changeColour I5 (P + 10) (I2 p 4) (I5 p 4)) fun I8 => some (true, I8)) else (some (false, I5))) else (some (false, I2))
set_option maxHeartbeats 4000000 in
theorem c_X5_readDye {Ω : JO} {I : JI} {S : JS} {Q : JQ} {p : Nat} {P : Nat} {r : Bool} {J : JI} (hp : Is5 S p P) (h : s_X5_readDye I p P = some (r, J)) (hQ : Q (.inl (some (.int (zb r)))) J S) : Call Ω m_X5_readDye [.ref p] I S Q := by
  refine call_of (by decide +kernel) rfl (Nat.le_of_ble_eq_true rfl) ?_
  change AA Ω m_X5_readDye (FQ Ω m_X5_readDye Q) 0 0 0 [(0, .ref p)] [] I S
  unfold s_X5_readDye at h
  refine r_aload_n (pc' := 1) dX5_readDye_0 rfl 0 rfl rfl ?_
  refine r_getO (pc' := 4) dX5_readDye_1 fa_X5_12 hp.o rfl hp.r0 rfl ?_
  obtain ⟨I1, eI1, h⟩ := bd_e h
  refine r_callV0 (pc' := 7) (k' := 0) (n' := 0) dX5_readDye_4 mb_X2_advance mi_X2_advance hp.c0.o (by decide) rfl lk_X5_56 rfl rfl rfl (Nat.le_of_ble_eq_true rfl) rfl (c_X2_advance hp.c0 eI1 (cpV ?_))
  refine r_aload_n (pc' := 8) dX5_readDye_7 rfl 0 rfl rfl ?_
  obtain ⟨z3, I2, ez3, h⟩ := bd2_e h
  refine r_callV0 (pc' := 11) (k' := 0) (n' := 0) dX5_readDye_8 mb_X5_takeCard mi_X5_takeCard hp.o (by decide) rfl lk_X5_238 rfl rfl rfl (Nat.le_of_ble_eq_true rfl) rfl (c_X5_takeCard hp ez3 (cpI ?_))
  refine r_if_ne (tgt := 16) (pc' := 14) dX5_readDye_11 rfl rfl (fun h4 => ?_) (fun h4 => ?_)
  · have h := ifp (zb_p0 h4) h
    refine r_aload_n (pc' := 17) dX5_readDye_16 rfl 0 rfl rfl ?_
    refine r_getI (pc' := 20) dX5_readDye_17 fa_X5_32 hp.o rfl rfl ?_
    refine r_istore_n (pc' := 21) (lv' := [(1, _), (0, _)]) dX5_readDye_20 rfl (by decide) rfl rfl ?_
    refine r_aload_n (pc' := 22) dX5_readDye_21 rfl 1 rfl rfl ?_
    obtain ⟨z6, I5, ez6, h⟩ := bd2_e h
    refine r_callV0 (pc' := 25) (k' := 0) (n' := 0) dX5_readDye_22 mb_X5_takeColour mi_X5_takeColour hp.o (by decide) rfl lk_X5_181 rfl rfl rfl (Nat.le_of_ble_eq_true rfl) rfl (c_X5_takeColour hp ez6 (cpI ?_))
    refine r_if_ne (tgt := 30) (pc' := 28) dX5_readDye_25 rfl rfl (fun h7 => ?_) (fun h7 => ?_)
    · have h := ifp (zb_p0 h7) h
      refine r_aload_n (pc' := 31) dX5_readDye_30 rfl 1 rfl rfl ?_
      refine r_getO (pc' := 34) dX5_readDye_31 fa_X5_21 hp.o rfl hp.r1 rfl ?_
      refine r_getO (pc' := 37) dX5_readDye_34 fa_X5_172 hp.c1.o rfl hp.c1.r11 rfl ?_
      refine r_iload_n (pc' := 38) dX5_readDye_37 rfl 0 rfl rfl ?_
      refine r_aload_n (pc' := 39) dX5_readDye_38 rfl 1 rfl rfl ?_
      refine r_getI (pc' := 42) dX5_readDye_39 fa_X5_32 hp.o rfl rfl ?_
      refine r_callV2 (pc' := 45) (k' := 0) (n' := 0) dX5_readDye_42 mb_X7_changeColour mi_X7_changeColour hp.c1.c11.o (by decide) rfl lk_X5_250 rfl rfl rfl (Nat.le_of_ble_eq_true rfl) rfl (c_X7_changeColour hp.c1.c11 (cpV ?_))
      have h := lx_e h
      refine r_iconst (pc' := 46) (v := 1) dX5_readDye_45 (by decide) rfl ?_
      cases h
      exact r_zret dX5_readDye_46 rfl (by decide) (by decide) (by decide) hQ
    · have h := ifn (zb_n0 h7) h
      refine r_iconst (pc' := 29) (v := 0) dX5_readDye_28 (by decide) rfl ?_
      cases h
      exact r_zret dX5_readDye_29 rfl (by decide) (by decide) (by decide) hQ
  · have h := ifn (zb_n0 h4) h
    refine r_iconst (pc' := 15) (v := 0) dX5_readDye_14 (by decide) rfl ?_
    cases h
    exact r_zret dX5_readDye_15 rfl (by decide) (by decide) (by decide) hQ
set_option maxHeartbeats 4000000 in
theorem fr_X5_readDye {I : JI} {p : Nat} {P : Nat} {r : Bool} {J : JI} {z : Nat} (h : s_X5_readDye I p P = some (r, J)) (hzp : z < p ∨ p + 2 ≤ z) (hzP : z < P ∨ P + 24 ≤ z) : J z = I z := by
  unfold s_X5_readDye at h
  obtain ⟨I1, e1, h⟩ := bd_e h
  obtain ⟨z3, I2, e2, h⟩ := bd2_e h
  rcases if_e h with h | h
  · obtain ⟨z6, I5, e3, h⟩ := bd2_e h
    rcases if_e h with h | h
    · have h := lx_e h
      cases h
      exact ((fr_x7_changeColour (by omega)).trans ((fr_X5_takeColour e3 (by omega) (by omega)).trans ((fr_X5_takeCard e2 (by omega) (by omega)).trans ((fr_X2_advance e1 (by omega)).trans rfl))))
    · cases h
      exact ((fr_X5_takeColour e3 (by omega) (by omega)).trans ((fr_X5_takeCard e2 (by omega) (by omega)).trans ((fr_X2_advance e1 (by omega)).trans rfl)))
  · cases h
    exact ((fr_X5_takeCard e2 (by omega) (by omega)).trans ((fr_X2_advance e1 (by omega)).trans rfl))
noncomputable def s_X5_readOil (I : JI) (p P : Nat) : Option (Bool × JI) :=
  bd (s_X2_advance I (p + 1)) fun I1 => bd2 (s_X5_takeHarness I1 p P) fun z3 I2 => if z3 = true then (lx (x7_oilHarness I2 (P + 10) (I2 p 4)) fun I5 => some (true, I5)) else (some (false, I2))
set_option maxHeartbeats 4000000 in
theorem c_X5_readOil {Ω : JO} {I : JI} {S : JS} {Q : JQ} {p : Nat} {P : Nat} {r : Bool} {J : JI} (hp : Is5 S p P) (h : s_X5_readOil I p P = some (r, J)) (hQ : Q (.inl (some (.int (zb r)))) J S) : Call Ω m_X5_readOil [.ref p] I S Q := by
  refine call_of (by decide +kernel) rfl (Nat.le_of_ble_eq_true rfl) ?_
  change AA Ω m_X5_readOil (FQ Ω m_X5_readOil Q) 0 0 0 [(0, .ref p)] [] I S
  unfold s_X5_readOil at h
  refine r_aload_n (pc' := 1) dX5_readOil_0 rfl 0 rfl rfl ?_
  refine r_getO (pc' := 4) dX5_readOil_1 fa_X5_12 hp.o rfl hp.r0 rfl ?_
  obtain ⟨I1, eI1, h⟩ := bd_e h
  refine r_callV0 (pc' := 7) (k' := 0) (n' := 0) dX5_readOil_4 mb_X2_advance mi_X2_advance hp.c0.o (by decide) rfl lk_X5_56 rfl rfl rfl (Nat.le_of_ble_eq_true rfl) rfl (c_X2_advance hp.c0 eI1 (cpV ?_))
  refine r_aload_n (pc' := 8) dX5_readOil_7 rfl 0 rfl rfl ?_
  obtain ⟨z3, I2, ez3, h⟩ := bd2_e h
  refine r_callV0 (pc' := 11) (k' := 0) (n' := 0) dX5_readOil_8 mb_X5_takeHarness mi_X5_takeHarness hp.o (by decide) rfl lk_X5_244 rfl rfl rfl (Nat.le_of_ble_eq_true rfl) rfl (c_X5_takeHarness hp ez3 (cpI ?_))
  refine r_if_ne (tgt := 16) (pc' := 14) dX5_readOil_11 rfl rfl (fun h4 => ?_) (fun h4 => ?_)
  · have h := ifp (zb_p0 h4) h
    refine r_aload_n (pc' := 17) dX5_readOil_16 rfl 0 rfl rfl ?_
    refine r_getO (pc' := 20) dX5_readOil_17 fa_X5_21 hp.o rfl hp.r1 rfl ?_
    refine r_getO (pc' := 23) dX5_readOil_20 fa_X5_172 hp.c1.o rfl hp.c1.r11 rfl ?_
    refine r_aload_n (pc' := 24) dX5_readOil_23 rfl 0 rfl rfl ?_
    refine r_getI (pc' := 27) dX5_readOil_24 fa_X5_32 hp.o rfl rfl ?_
    refine r_callV1 (pc' := 30) (k' := 0) (n' := 0) dX5_readOil_27 mb_X7_oilHarness mi_X7_oilHarness hp.c1.c11.o (by decide) rfl lk_X5_253 rfl rfl rfl (Nat.le_of_ble_eq_true rfl) rfl (c_X7_oilHarness hp.c1.c11 (cpV ?_))
    have h := lx_e h
    refine r_iconst (pc' := 31) (v := 1) dX5_readOil_30 (by decide) rfl ?_
    cases h
    exact r_zret dX5_readOil_31 rfl (by decide) (by decide) (by decide) hQ
  · have h := ifn (zb_n0 h4) h
    refine r_iconst (pc' := 15) (v := 0) dX5_readOil_14 (by decide) rfl ?_
    cases h
    exact r_zret dX5_readOil_15 rfl (by decide) (by decide) (by decide) hQ
set_option maxHeartbeats 4000000 in
theorem fr_X5_readOil {I : JI} {p : Nat} {P : Nat} {r : Bool} {J : JI} {z : Nat} (h : s_X5_readOil I p P = some (r, J)) (hzp : z < p ∨ p + 2 ≤ z) (hzP : z < P ∨ P + 24 ≤ z) : J z = I z := by
  unfold s_X5_readOil at h
  obtain ⟨I1, e1, h⟩ := bd_e h
  obtain ⟨z3, I2, e2, h⟩ := bd2_e h
  rcases if_e h with h | h
  · have h := lx_e h
    cases h
    exact ((fr_x7_oilHarness (by omega)).trans ((fr_X5_takeHarness e2 (by omega) (by omega)).trans ((fr_X2_advance e1 (by omega)).trans rfl)))
  · cases h
    exact ((fr_X5_takeHarness e2 (by omega) (by omega)).trans ((fr_X2_advance e1 (by omega)).trans rfl))
noncomputable def s_X5_readInvert (I : JI) (p P : Nat) : Option (Bool × JI) :=
  bd (s_X2_advance I (p + 1)) fun I1 => bd2 (s_X5_takeCard I1 p P) fun z3 I2 => if z3 = true then (lx (x7_changeLifts I2 (P + 10) (I2 p 4) (x3_other I2 P (atF (I2 ((P + 10) + 3)) 12 (I2 p 4)))) fun I5 => some (true, I5)) else (some (false, I2))
set_option maxHeartbeats 4000000 in
theorem c_X5_readInvert {Ω : JO} {I : JI} {S : JS} {Q : JQ} {p : Nat} {P : Nat} {r : Bool} {J : JI} (hp : Is5 S p P) (h : s_X5_readInvert I p P = some (r, J)) (hQ : Q (.inl (some (.int (zb r)))) J S) : Call Ω m_X5_readInvert [.ref p] I S Q := by
  refine call_of (by decide +kernel) rfl (Nat.le_of_ble_eq_true rfl) ?_
  change AA Ω m_X5_readInvert (FQ Ω m_X5_readInvert Q) 0 0 0 [(0, .ref p)] [] I S
  unfold s_X5_readInvert at h
  refine r_aload_n (pc' := 1) dX5_readInvert_0 rfl 0 rfl rfl ?_
  refine r_getO (pc' := 4) dX5_readInvert_1 fa_X5_12 hp.o rfl hp.r0 rfl ?_
  obtain ⟨I1, eI1, h⟩ := bd_e h
  refine r_callV0 (pc' := 7) (k' := 0) (n' := 0) dX5_readInvert_4 mb_X2_advance mi_X2_advance hp.c0.o (by decide) rfl lk_X5_56 rfl rfl rfl (Nat.le_of_ble_eq_true rfl) rfl (c_X2_advance hp.c0 eI1 (cpV ?_))
  refine r_aload_n (pc' := 8) dX5_readInvert_7 rfl 0 rfl rfl ?_
  obtain ⟨z3, I2, ez3, h⟩ := bd2_e h
  refine r_callV0 (pc' := 11) (k' := 0) (n' := 0) dX5_readInvert_8 mb_X5_takeCard mi_X5_takeCard hp.o (by decide) rfl lk_X5_238 rfl rfl rfl (Nat.le_of_ble_eq_true rfl) rfl (c_X5_takeCard hp ez3 (cpI ?_))
  refine r_if_ne (tgt := 16) (pc' := 14) dX5_readInvert_11 rfl rfl (fun h4 => ?_) (fun h4 => ?_)
  · have h := ifp (zb_p0 h4) h
    refine r_aload_n (pc' := 17) dX5_readInvert_16 rfl 0 rfl rfl ?_
    refine r_getO (pc' := 20) dX5_readInvert_17 fa_X5_21 hp.o rfl hp.r1 rfl ?_
    refine r_getO (pc' := 23) dX5_readInvert_20 fa_X5_172 hp.c1.o rfl hp.c1.r11 rfl ?_
    refine r_aload_n (pc' := 24) dX5_readInvert_23 rfl 0 rfl rfl ?_
    refine r_getI (pc' := 27) dX5_readInvert_24 fa_X5_32 hp.o rfl rfl ?_
    refine r_aload_n (pc' := 28) dX5_readInvert_27 rfl 0 rfl rfl ?_
    refine r_getO (pc' := 31) dX5_readInvert_28 fa_X5_21 hp.o rfl hp.r1 rfl ?_
    refine r_aload_n (pc' := 32) dX5_readInvert_31 rfl 0 rfl rfl ?_
    refine r_getO (pc' := 35) dX5_readInvert_32 fa_X5_21 hp.o rfl hp.r1 rfl ?_
    refine r_getO (pc' := 38) dX5_readInvert_35 fa_X5_172 hp.c1.o rfl hp.c1.r11 rfl ?_
    refine r_getO (pc' := 41) dX5_readInvert_38 fa_X5_256 hp.c1.c11.o rfl hp.c1.c11.r8 rfl ?_
    refine r_aload_n (pc' := 42) dX5_readInvert_41 rfl 0 rfl rfl ?_
    refine r_getI (pc' := 45) dX5_readInvert_42 fa_X5_32 hp.o rfl rfl ?_
    refine r_callSN2 (pc' := 48) (k' := 0) (n' := 0) dX5_readInvert_45 mb_X8_at ms_X8_at ln_X5_260 rfl rfl rfl (Nat.le_of_ble_eq_true rfl) rfl (c_X8_at hp.c1.c11.c8 (by decide) (cpI ?_))
    refine r_callV1 (pc' := 51) (k' := 0) (n' := 0) dX5_readInvert_48 mb_X3_otherHarnesses mi_X3_otherHarnesses hp.c1.o (by decide) rfl lk_X5_264 rfl rfl rfl (Nat.le_of_ble_eq_true rfl) rfl (c_X3_otherHarnesses hp.c1 (cpI ?_))
    refine r_callV2 (pc' := 54) (k' := 0) (n' := 0) dX5_readInvert_51 mb_X7_changeLifts mi_X7_changeLifts hp.c1.c11.o (by decide) rfl lk_X5_268 rfl rfl rfl (Nat.le_of_ble_eq_true rfl) rfl (c_X7_changeLifts hp.c1.c11 (cpV ?_))
    have h := lx_e h
    refine r_iconst (pc' := 55) (v := 1) dX5_readInvert_54 (by decide) rfl ?_
    cases h
    exact r_zret dX5_readInvert_55 rfl (by decide) (by decide) (by decide) hQ
  · have h := ifn (zb_n0 h4) h
    refine r_iconst (pc' := 15) (v := 0) dX5_readInvert_14 (by decide) rfl ?_
    cases h
    exact r_zret dX5_readInvert_15 rfl (by decide) (by decide) (by decide) hQ
set_option maxHeartbeats 4000000 in
theorem fr_X5_readInvert {I : JI} {p : Nat} {P : Nat} {r : Bool} {J : JI} {z : Nat} (h : s_X5_readInvert I p P = some (r, J)) (hzp : z < p ∨ p + 2 ≤ z) (hzP : z < P ∨ P + 24 ≤ z) : J z = I z := by
  unfold s_X5_readInvert at h
  obtain ⟨I1, e1, h⟩ := bd_e h
  obtain ⟨z3, I2, e2, h⟩ := bd2_e h
  rcases if_e h with h | h
  · have h := lx_e h
    cases h
    exact ((fr_x7_changeLifts (by omega)).trans ((fr_X5_takeCard e2 (by omega) (by omega)).trans ((fr_X2_advance e1 (by omega)).trans rfl)))
  · cases h
    exact ((fr_X5_takeCard e2 (by omega) (by omega)).trans ((fr_X2_advance e1 (by omega)).trans rfl))
noncomputable def s_X5_readStrain (I : JI) (p P : Nat) : Option (Bool × JI) :=
  bd (s_X2_advance I (p + 1)) fun I1 => bd2 (s_X5_takeNumber I1 p P 0 60) fun z3 I2 => if z3 = true then (lx (stI I2 P 2 (I2 p 4)) fun I5 => some (true, I5)) else (some (false, I2))
set_option maxHeartbeats 4000000 in
theorem c_X5_readStrain {Ω : JO} {I : JI} {S : JS} {Q : JQ} {p : Nat} {P : Nat} {r : Bool} {J : JI} (hp : Is5 S p P) (h : s_X5_readStrain I p P = some (r, J)) (hQ : Q (.inl (some (.int (zb r)))) J S) : Call Ω m_X5_readStrain [.ref p] I S Q := by
  refine call_of (by decide +kernel) rfl (Nat.le_of_ble_eq_true rfl) ?_
  change AA Ω m_X5_readStrain (FQ Ω m_X5_readStrain Q) 0 0 0 [(0, .ref p)] [] I S
  unfold s_X5_readStrain at h
  refine r_aload_n (pc' := 1) dX5_readStrain_0 rfl 0 rfl rfl ?_
  refine r_getO (pc' := 4) dX5_readStrain_1 fa_X5_12 hp.o rfl hp.r0 rfl ?_
  obtain ⟨I1, eI1, h⟩ := bd_e h
  refine r_callV0 (pc' := 7) (k' := 0) (n' := 0) dX5_readStrain_4 mb_X2_advance mi_X2_advance hp.c0.o (by decide) rfl lk_X5_56 rfl rfl rfl (Nat.le_of_ble_eq_true rfl) rfl (c_X2_advance hp.c0 eI1 (cpV ?_))
  refine r_aload_n (pc' := 8) dX5_readStrain_7 rfl 0 rfl rfl ?_
  refine r_iconst (pc' := 9) (v := 0) dX5_readStrain_8 (by decide) rfl ?_
  refine r_bipush (pc' := 11) (v := 60) dX5_readStrain_9 (by decide) rfl ?_
  obtain ⟨z3, I2, ez3, h⟩ := bd2_e h
  refine r_callV2 (pc' := 14) (k' := 0) (n' := 0) dX5_readStrain_11 mb_X5_takeNumber mi_X5_takeNumber hp.o (by decide) rfl lk_X5_96 rfl rfl rfl (Nat.le_of_ble_eq_true rfl) rfl (c_X5_takeNumber hp ez3 (cpI ?_))
  refine r_if_ne (tgt := 19) (pc' := 17) dX5_readStrain_14 rfl rfl (fun h4 => ?_) (fun h4 => ?_)
  · have h := ifp (zb_p0 h4) h
    refine r_aload_n (pc' := 20) dX5_readStrain_19 rfl 0 rfl rfl ?_
    refine r_getO (pc' := 23) dX5_readStrain_20 fa_X5_21 hp.o rfl hp.r1 rfl ?_
    refine r_aload_n (pc' := 24) dX5_readStrain_23 rfl 0 rfl rfl ?_
    refine r_getI (pc' := 27) dX5_readStrain_24 fa_X5_32 hp.o rfl rfl ?_
    refine r_putI (pc' := 30) dX5_readStrain_27 fa_X5_271 hp.c1.o rfl rfl ?_
    have h := lx_e h
    refine r_iconst (pc' := 31) (v := 1) dX5_readStrain_30 (by decide) rfl ?_
    cases h
    exact r_zret dX5_readStrain_31 rfl (by decide) (by decide) (by decide) hQ
  · have h := ifn (zb_n0 h4) h
    refine r_iconst (pc' := 18) (v := 0) dX5_readStrain_17 (by decide) rfl ?_
    cases h
    exact r_zret dX5_readStrain_18 rfl (by decide) (by decide) (by decide) hQ
set_option maxHeartbeats 4000000 in
theorem fr_X5_readStrain {I : JI} {p : Nat} {P : Nat} {r : Bool} {J : JI} {z : Nat} (h : s_X5_readStrain I p P = some (r, J)) (hzp : z < p ∨ p + 2 ≤ z) (hzP : z < P ∨ P + 24 ≤ z) : J z = I z := by
  unfold s_X5_readStrain at h
  obtain ⟨I1, e1, h⟩ := bd_e h
  obtain ⟨z3, I2, e2, h⟩ := bd2_e h
  rcases if_e h with h | h
  · have h := lx_e h
    cases h
    exact ((fr_stI (by omega)).trans ((fr_X5_takeNumber e2 (by omega) (by omega)).trans ((fr_X2_advance e1 (by omega)).trans rfl)))
  · cases h
    exact ((fr_X5_takeNumber e2 (by omega) (by omega)).trans ((fr_X2_advance e1 (by omega)).trans rfl))
noncomputable def s_X5_readMotor (I : JI) (p P : Nat) : Option (Bool × JI) :=
  bd (s_X2_advance I (p + 1)) fun I1 => bd2 (s_X5_takeNumber I1 p P 1 24) fun z3 I2 => if z3 = true then (lx (stI I2 P 3 (I2 p 4)) fun I5 => some (true, I5)) else (some (false, I2))
set_option maxHeartbeats 4000000 in
theorem c_X5_readMotor {Ω : JO} {I : JI} {S : JS} {Q : JQ} {p : Nat} {P : Nat} {r : Bool} {J : JI} (hp : Is5 S p P) (h : s_X5_readMotor I p P = some (r, J)) (hQ : Q (.inl (some (.int (zb r)))) J S) : Call Ω m_X5_readMotor [.ref p] I S Q := by
  refine call_of (by decide +kernel) rfl (Nat.le_of_ble_eq_true rfl) ?_
  change AA Ω m_X5_readMotor (FQ Ω m_X5_readMotor Q) 0 0 0 [(0, .ref p)] [] I S
  unfold s_X5_readMotor at h
  refine r_aload_n (pc' := 1) dX5_readMotor_0 rfl 0 rfl rfl ?_
  refine r_getO (pc' := 4) dX5_readMotor_1 fa_X5_12 hp.o rfl hp.r0 rfl ?_
  obtain ⟨I1, eI1, h⟩ := bd_e h
  refine r_callV0 (pc' := 7) (k' := 0) (n' := 0) dX5_readMotor_4 mb_X2_advance mi_X2_advance hp.c0.o (by decide) rfl lk_X5_56 rfl rfl rfl (Nat.le_of_ble_eq_true rfl) rfl (c_X2_advance hp.c0 eI1 (cpV ?_))
  refine r_aload_n (pc' := 8) dX5_readMotor_7 rfl 0 rfl rfl ?_
  refine r_iconst (pc' := 9) (v := 1) dX5_readMotor_8 (by decide) rfl ?_
  refine r_bipush (pc' := 11) (v := 24) dX5_readMotor_9 (by decide) rfl ?_
  obtain ⟨z3, I2, ez3, h⟩ := bd2_e h
  refine r_callV2 (pc' := 14) (k' := 0) (n' := 0) dX5_readMotor_11 mb_X5_takeNumber mi_X5_takeNumber hp.o (by decide) rfl lk_X5_96 rfl rfl rfl (Nat.le_of_ble_eq_true rfl) rfl (c_X5_takeNumber hp ez3 (cpI ?_))
  refine r_if_ne (tgt := 19) (pc' := 17) dX5_readMotor_14 rfl rfl (fun h4 => ?_) (fun h4 => ?_)
  · have h := ifp (zb_p0 h4) h
    refine r_aload_n (pc' := 20) dX5_readMotor_19 rfl 0 rfl rfl ?_
    refine r_getO (pc' := 23) dX5_readMotor_20 fa_X5_21 hp.o rfl hp.r1 rfl ?_
    refine r_aload_n (pc' := 24) dX5_readMotor_23 rfl 0 rfl rfl ?_
    refine r_getI (pc' := 27) dX5_readMotor_24 fa_X5_32 hp.o rfl rfl ?_
    refine r_putI (pc' := 30) dX5_readMotor_27 fa_X5_273 hp.c1.o rfl rfl ?_
    have h := lx_e h
    refine r_iconst (pc' := 31) (v := 1) dX5_readMotor_30 (by decide) rfl ?_
    cases h
    exact r_zret dX5_readMotor_31 rfl (by decide) (by decide) (by decide) hQ
  · have h := ifn (zb_n0 h4) h
    refine r_iconst (pc' := 18) (v := 0) dX5_readMotor_17 (by decide) rfl ?_
    cases h
    exact r_zret dX5_readMotor_18 rfl (by decide) (by decide) (by decide) hQ
set_option maxHeartbeats 4000000 in
theorem fr_X5_readMotor {I : JI} {p : Nat} {P : Nat} {r : Bool} {J : JI} {z : Nat} (h : s_X5_readMotor I p P = some (r, J)) (hzp : z < p ∨ p + 2 ≤ z) (hzP : z < P ∨ P + 24 ≤ z) : J z = I z := by
  unfold s_X5_readMotor at h
  obtain ⟨I1, e1, h⟩ := bd_e h
  obtain ⟨z3, I2, e2, h⟩ := bd2_e h
  rcases if_e h with h | h
  · have h := lx_e h
    cases h
    exact ((fr_stI (by omega)).trans ((fr_X5_takeNumber e2 (by omega) (by omega)).trans ((fr_X2_advance e1 (by omega)).trans rfl)))
  · cases h
    exact ((fr_X5_takeNumber e2 (by omega) (by omega)).trans ((fr_X2_advance e1 (by omega)).trans rfl))
noncomputable def s_X5_readMend (I : JI) (p P : Nat) : Option (Bool × JI) :=
  bd (s_X2_advance I (p + 1)) fun I1 => bd2 (s_X5_seeNumber I1 p P 0 ((I1 P 4) - 1)) fun z3 I2 => if z3 = true then (if (hasB (I2 (P + 10) 2) (I2 p 4)) = true then (lx (x7_mendWarp I2 (P + 10) (I2 p 4)) fun I6 => bd (s_X2_advance I6 (p + 1)) fun I7 => some (true, I7)) else (bd2 (s_X5_fail I2 p P 3) fun z9 I8 => some (z9, I8))) else (some (false, I2))
set_option maxHeartbeats 4000000 in
theorem c_X5_readMend {Ω : JO} {I : JI} {S : JS} {Q : JQ} {p : Nat} {P : Nat} {r : Bool} {J : JI} (hp : Is5 S p P) (h : s_X5_readMend I p P = some (r, J)) (hQ : Q (.inl (some (.int (zb r)))) J S) : Call Ω m_X5_readMend [.ref p] I S Q := by
  refine call_of (by decide +kernel) rfl (Nat.le_of_ble_eq_true rfl) ?_
  change AA Ω m_X5_readMend (FQ Ω m_X5_readMend Q) 0 0 0 [(0, .ref p)] [] I S
  unfold s_X5_readMend at h
  refine r_aload_n (pc' := 1) dX5_readMend_0 rfl 0 rfl rfl ?_
  refine r_getO (pc' := 4) dX5_readMend_1 fa_X5_12 hp.o rfl hp.r0 rfl ?_
  obtain ⟨I1, eI1, h⟩ := bd_e h
  refine r_callV0 (pc' := 7) (k' := 0) (n' := 0) dX5_readMend_4 mb_X2_advance mi_X2_advance hp.c0.o (by decide) rfl lk_X5_56 rfl rfl rfl (Nat.le_of_ble_eq_true rfl) rfl (c_X2_advance hp.c0 eI1 (cpV ?_))
  refine r_aload_n (pc' := 8) dX5_readMend_7 rfl 0 rfl rfl ?_
  refine r_iconst (pc' := 9) (v := 0) dX5_readMend_8 (by decide) rfl ?_
  refine r_aload_n (pc' := 10) dX5_readMend_9 rfl 0 rfl rfl ?_
  refine r_getO (pc' := 13) dX5_readMend_10 fa_X5_21 hp.o rfl hp.r1 rfl ?_
  refine r_getI (pc' := 16) dX5_readMend_13 fa_X5_62 hp.c1.o rfl rfl ?_
  refine r_iconst (pc' := 17) (v := 1) dX5_readMend_16 (by decide) rfl ?_
  refine r_isub (pc' := 18) dX5_readMend_17 rfl ?_
  obtain ⟨z3, I2, ez3, h⟩ := bd2_e h
  refine r_callV2 (pc' := 21) (k' := 0) (n' := 0) dX5_readMend_18 mb_X5_seeNumber mi_X5_seeNumber hp.o (by decide) rfl lk_X5_71 rfl rfl rfl (Nat.le_of_ble_eq_true rfl) rfl (c_X5_seeNumber hp ez3 (cpI ?_))
  refine r_if_ne (tgt := 26) (pc' := 24) dX5_readMend_21 rfl rfl (fun h4 => ?_) (fun h4 => ?_)
  · have h := ifp (zb_p0 h4) h
    refine r_aload_n (pc' := 27) dX5_readMend_26 rfl 0 rfl rfl ?_
    refine r_getO (pc' := 30) dX5_readMend_27 fa_X5_21 hp.o rfl hp.r1 rfl ?_
    refine r_getO (pc' := 33) dX5_readMend_30 fa_X5_172 hp.c1.o rfl hp.c1.r11 rfl ?_
    refine r_getI (pc' := 36) dX5_readMend_33 fa_X5_275 hp.c1.c11.o rfl rfl ?_
    refine r_aload_n (pc' := 37) dX5_readMend_36 rfl 0 rfl rfl ?_
    refine r_getI (pc' := 40) dX5_readMend_37 fa_X5_32 hp.o rfl rfl ?_
    refine r_callSN2 (pc' := 43) (k' := 0) (n' := 0) dX5_readMend_40 mb_X8_has ms_X8_has ln_X5_187 rfl rfl rfl (Nat.le_of_ble_eq_true rfl) rfl (c_X8_has  (cpI ?_))
    refine r_if_ne (tgt := 52) (pc' := 46) dX5_readMend_43 rfl rfl (fun h5 => ?_) (fun h5 => ?_)
    · have h := ifp (zb_p0 h5) h
      refine r_aload_n (pc' := 53) dX5_readMend_52 rfl 0 rfl rfl ?_
      refine r_getO (pc' := 56) dX5_readMend_53 fa_X5_21 hp.o rfl hp.r1 rfl ?_
      refine r_getO (pc' := 59) dX5_readMend_56 fa_X5_172 hp.c1.o rfl hp.c1.r11 rfl ?_
      refine r_aload_n (pc' := 60) dX5_readMend_59 rfl 0 rfl rfl ?_
      refine r_getI (pc' := 63) dX5_readMend_60 fa_X5_32 hp.o rfl rfl ?_
      refine r_callV1 (pc' := 66) (k' := 0) (n' := 0) dX5_readMend_63 mb_X7_mendWarp mi_X7_mendWarp hp.c1.c11.o (by decide) rfl lk_X5_278 rfl rfl rfl (Nat.le_of_ble_eq_true rfl) rfl (c_X7_mendWarp hp.c1.c11 (cpV ?_))
      have h := lx_e h
      refine r_aload_n (pc' := 67) dX5_readMend_66 rfl 0 rfl rfl ?_
      refine r_getO (pc' := 70) dX5_readMend_67 fa_X5_12 hp.o rfl hp.r0 rfl ?_
      obtain ⟨I7, eI7, h⟩ := bd_e h
      refine r_callV0 (pc' := 73) (k' := 0) (n' := 0) dX5_readMend_70 mb_X2_advance mi_X2_advance hp.c0.o (by decide) rfl lk_X5_56 rfl rfl rfl (Nat.le_of_ble_eq_true rfl) rfl (c_X2_advance hp.c0 eI7 (cpV ?_))
      refine r_iconst (pc' := 74) (v := 1) dX5_readMend_73 (by decide) rfl ?_
      cases h
      exact r_zret dX5_readMend_74 rfl (by decide) (by decide) (by decide) hQ
    · have h := ifn (zb_n0 h5) h
      refine r_aload_n (pc' := 47) dX5_readMend_46 rfl 0 rfl rfl ?_
      refine r_iconst (pc' := 48) (v := 3) dX5_readMend_47 (by decide) rfl ?_
      obtain ⟨z9, I8, ez9, h⟩ := bd2_e h
      refine r_callV1 (pc' := 51) (k' := 0) (n' := 0) dX5_readMend_48 mb_X5_fail mi_X5_fail hp.o (by decide) rfl lk_X5_52 rfl rfl rfl (Nat.le_of_ble_eq_true rfl) rfl (c_X5_fail hp ez9 (cpI ?_))
      cases h
      exact r_zret dX5_readMend_51 rfl (zb01 _) (by decide) (by decide) hQ
  · have h := ifn (zb_n0 h4) h
    refine r_iconst (pc' := 25) (v := 0) dX5_readMend_24 (by decide) rfl ?_
    cases h
    exact r_zret dX5_readMend_25 rfl (by decide) (by decide) (by decide) hQ
set_option maxHeartbeats 4000000 in
theorem fr_X5_readMend {I : JI} {p : Nat} {P : Nat} {r : Bool} {J : JI} {z : Nat} (h : s_X5_readMend I p P = some (r, J)) (hzp : z < p ∨ p + 2 ≤ z) (hzP : z < P ∨ P + 24 ≤ z) : J z = I z := by
  unfold s_X5_readMend at h
  obtain ⟨I1, e1, h⟩ := bd_e h
  obtain ⟨z3, I2, e2, h⟩ := bd2_e h
  rcases if_e h with h | h
  · rcases if_e h with h | h
    · have h := lx_e h
      obtain ⟨I7, e3, h⟩ := bd_e h
      cases h
      exact ((fr_X2_advance e3 (by omega)).trans ((fr_x7_mendWarp (by omega)).trans ((fr_X5_seeNumber e2 (by omega) (by omega)).trans ((fr_X2_advance e1 (by omega)).trans rfl))))
    · obtain ⟨z9, I8, e4, h⟩ := bd2_e h
      cases h
      exact ((fr_X5_fail e4 (by omega) (by omega)).trans ((fr_X5_seeNumber e2 (by omega) (by omega)).trans ((fr_X2_advance e1 (by omega)).trans rfl)))
  · cases h
    exact ((fr_X5_seeNumber e2 (by omega) (by omega)).trans ((fr_X2_advance e1 (by omega)).trans rfl))
noncomputable def s_X5_readItem (I : JI) (p P : Nat) : Option (Bool × JI) :=
  bd (s_X2_isWord I (p + 1) "warp") fun z1 => if z1 = true then (bd2 (s_X5_readWarps I p P) fun z58 I57 => some (z58, I57)) else (bd (s_X2_isWord I (p + 1) "card") fun z3 => if z3 = true then (bd2 (s_X5_readCard I p P) fun z56 I55 => some (z56, I55)) else (bd (s_X2_isWord I (p + 1) "deck") fun z5 => if z5 = true then (bd2 (s_X5_readDeck I p P) fun z54 I53 => some (z54, I53)) else (bd (s_X2_isWord I (p + 1) "yarn") fun z7 => if z7 = true then (bd2 (s_X5_readYarn I p P) fun z52 I51 => some (z52, I51)) else (bd (s_X2_isWord I (p + 1) "weave") fun z9 => if z9 = true then (bd2 (s_X5_readWeave I p P) fun z50 I49 => some (z50, I49)) else (bd (s_X2_isWord I (p + 1) "unweave") fun z11 => if z11 = true then (bd2 (s_X5_readUnweave I p P) fun z48 I47 => some (z48, I47)) else (bd (s_X2_isWord I (p + 1) "swap") fun z13 => if z13 = true then (bd2 (s_X5_readSwap I p P) fun z46 I45 => some (z46, I45)) else (bd (s_X2_isWord I (p + 1) "punch") fun z15 => if z15 = true then (bd2 (s_X5_readPunch I p P) fun z44 I43 => some (z44, I43)) else (bd (s_X2_isWord I (p + 1) "dye") fun z17 => if z17 = true then (bd2 (s_X5_readDye I p P) fun z42 I41 => some (z42, I41)) else (bd (s_X2_isWord I (p + 1) "oil") fun z19 => if z19 = true then (bd2 (s_X5_readOil I p P) fun z40 I39 => some (z40, I39)) else (bd (s_X2_isWord I (p + 1) "invert") fun z21 => if z21 = true then (bd2 (s_X5_readInvert I p P) fun z38 I37 => some (z38, I37)) else (bd (s_X2_isWord I (p + 1) "strain") fun z23 => if z23 = true then (bd2 (s_X5_readStrain I p P) fun z36 I35 => some (z36, I35)) else (bd (s_X2_isWord I (p + 1) "motor") fun z25 => if z25 = true then (bd2 (s_X5_readMotor I p P) fun z34 I33 => some (z34, I33)) else (bd (s_X2_isWord I (p + 1) "mend") fun z27 => if z27 = true then (bd2 (s_X5_readMend I p P) fun z32 I31 => some (z32, I31)) else (bd2 (s_X5_fail I p P 1) fun z30 I29 => some (z30, I29)))))))))))))))
set_option maxHeartbeats 4000000 in
theorem c_X5_readItem {Ω : JO} {I : JI} {S : JS} {Q : JQ} {p : Nat} {P : Nat} {r : Bool} {J : JI} (hp : Is5 S p P) (h : s_X5_readItem I p P = some (r, J)) (hQ : Q (.inl (some (.int (zb r)))) J S) : Call Ω m_X5_readItem [.ref p] I S Q := by
  refine call_of (by decide +kernel) rfl (Nat.le_of_ble_eq_true rfl) ?_
  change AA Ω m_X5_readItem (FQ Ω m_X5_readItem Q) 0 0 0 [(0, .ref p)] [] I S
  unfold s_X5_readItem at h
  refine r_aload_n (pc' := 1) dX5_readItem_0 rfl 0 rfl rfl ?_
  refine r_getO (pc' := 4) dX5_readItem_1 fa_X5_12 hp.o rfl hp.r0 rfl ?_
  refine r_ldcS (pc' := 6) (tx := "warp") dX5_readItem_4 sw_X5_102 rfl ?_
  obtain ⟨z1, ez1, h⟩ := bd_e h
  refine r_callV1 (pc' := 9) (k' := 0) (n' := 0) dX5_readItem_6 mb_X2_isWord mi_X2_isWord hp.c0.o (by decide) rfl lk_X5_92 rfl rfl rfl (Nat.le_of_ble_eq_true rfl) rfl (c_X2_isWord hp.c0 sw_X5_102 ez1 (cpI ?_))
  refine r_if_eq (tgt := 17) (pc' := 12) dX5_readItem_9 rfl rfl (fun h2 => ?_) (fun h2 => ?_)
  · have h := ifn (zb_n0 h2) h
    refine r_aload_n (pc' := 18) dX5_readItem_17 rfl 0 rfl rfl ?_
    refine r_getO (pc' := 21) dX5_readItem_18 fa_X5_12 hp.o rfl hp.r0 rfl ?_
    refine r_ldcS (pc' := 23) (tx := "card") dX5_readItem_21 sw_X5_107 rfl ?_
    obtain ⟨z3, ez3, h⟩ := bd_e h
    refine r_callV1 (pc' := 26) (k' := 0) (n' := 0) dX5_readItem_23 mb_X2_isWord mi_X2_isWord hp.c0.o (by decide) rfl lk_X5_92 rfl rfl rfl (Nat.le_of_ble_eq_true rfl) rfl (c_X2_isWord hp.c0 sw_X5_107 ez3 (cpI ?_))
    refine r_if_eq (tgt := 34) (pc' := 29) dX5_readItem_26 rfl rfl (fun h4 => ?_) (fun h4 => ?_)
    · have h := ifn (zb_n0 h4) h
      refine r_aload_n (pc' := 35) dX5_readItem_34 rfl 0 rfl rfl ?_
      refine r_getO (pc' := 38) dX5_readItem_35 fa_X5_12 hp.o rfl hp.r0 rfl ?_
      refine r_ldcS (pc' := 40) (tx := "deck") dX5_readItem_38 sw_X5_112 rfl ?_
      obtain ⟨z5, ez5, h⟩ := bd_e h
      refine r_callV1 (pc' := 43) (k' := 0) (n' := 0) dX5_readItem_40 mb_X2_isWord mi_X2_isWord hp.c0.o (by decide) rfl lk_X5_92 rfl rfl rfl (Nat.le_of_ble_eq_true rfl) rfl (c_X2_isWord hp.c0 sw_X5_112 ez5 (cpI ?_))
      refine r_if_eq (tgt := 51) (pc' := 46) dX5_readItem_43 rfl rfl (fun h6 => ?_) (fun h6 => ?_)
      · have h := ifn (zb_n0 h6) h
        refine r_aload_n (pc' := 52) dX5_readItem_51 rfl 0 rfl rfl ?_
        refine r_getO (pc' := 55) dX5_readItem_52 fa_X5_12 hp.o rfl hp.r0 rfl ?_
        refine r_ldcS (pc' := 57) (tx := "yarn") dX5_readItem_55 sw_X5_117 rfl ?_
        obtain ⟨z7, ez7, h⟩ := bd_e h
        refine r_callV1 (pc' := 60) (k' := 0) (n' := 0) dX5_readItem_57 mb_X2_isWord mi_X2_isWord hp.c0.o (by decide) rfl lk_X5_92 rfl rfl rfl (Nat.le_of_ble_eq_true rfl) rfl (c_X2_isWord hp.c0 sw_X5_117 ez7 (cpI ?_))
        refine r_if_eq (tgt := 68) (pc' := 63) dX5_readItem_60 rfl rfl (fun h8 => ?_) (fun h8 => ?_)
        · have h := ifn (zb_n0 h8) h
          refine r_aload_n (pc' := 69) dX5_readItem_68 rfl 0 rfl rfl ?_
          refine r_getO (pc' := 72) dX5_readItem_69 fa_X5_12 hp.o rfl hp.r0 rfl ?_
          refine r_ldcS (pc' := 74) (tx := "weave") dX5_readItem_72 sw_X5_122 rfl ?_
          obtain ⟨z9, ez9, h⟩ := bd_e h
          refine r_callV1 (pc' := 77) (k' := 0) (n' := 0) dX5_readItem_74 mb_X2_isWord mi_X2_isWord hp.c0.o (by decide) rfl lk_X5_92 rfl rfl rfl (Nat.le_of_ble_eq_true rfl) rfl (c_X2_isWord hp.c0 sw_X5_122 ez9 (cpI ?_))
          refine r_if_eq (tgt := 85) (pc' := 80) dX5_readItem_77 rfl rfl (fun h10 => ?_) (fun h10 => ?_)
          · have h := ifn (zb_n0 h10) h
            refine r_aload_n (pc' := 86) dX5_readItem_85 rfl 0 rfl rfl ?_
            refine r_getO (pc' := 89) dX5_readItem_86 fa_X5_12 hp.o rfl hp.r0 rfl ?_
            refine r_ldcS (pc' := 91) (tx := "unweave") dX5_readItem_89 sw_X5_127 rfl ?_
            obtain ⟨z11, ez11, h⟩ := bd_e h
            refine r_callV1 (pc' := 94) (k' := 0) (n' := 0) dX5_readItem_91 mb_X2_isWord mi_X2_isWord hp.c0.o (by decide) rfl lk_X5_92 rfl rfl rfl (Nat.le_of_ble_eq_true rfl) rfl (c_X2_isWord hp.c0 sw_X5_127 ez11 (cpI ?_))
            refine r_if_eq (tgt := 102) (pc' := 97) dX5_readItem_94 rfl rfl (fun h12 => ?_) (fun h12 => ?_)
            · have h := ifn (zb_n0 h12) h
              refine r_aload_n (pc' := 103) dX5_readItem_102 rfl 0 rfl rfl ?_
              refine r_getO (pc' := 106) dX5_readItem_103 fa_X5_12 hp.o rfl hp.r0 rfl ?_
              refine r_ldcS (pc' := 108) (tx := "swap") dX5_readItem_106 sw_X5_132 rfl ?_
              obtain ⟨z13, ez13, h⟩ := bd_e h
              refine r_callV1 (pc' := 111) (k' := 0) (n' := 0) dX5_readItem_108 mb_X2_isWord mi_X2_isWord hp.c0.o (by decide) rfl lk_X5_92 rfl rfl rfl (Nat.le_of_ble_eq_true rfl) rfl (c_X2_isWord hp.c0 sw_X5_132 ez13 (cpI ?_))
              refine r_if_eq (tgt := 119) (pc' := 114) dX5_readItem_111 rfl rfl (fun h14 => ?_) (fun h14 => ?_)
              · have h := ifn (zb_n0 h14) h
                refine r_aload_n (pc' := 120) dX5_readItem_119 rfl 0 rfl rfl ?_
                refine r_getO (pc' := 123) dX5_readItem_120 fa_X5_12 hp.o rfl hp.r0 rfl ?_
                refine r_ldcS (pc' := 125) (tx := "punch") dX5_readItem_123 sw_X5_137 rfl ?_
                obtain ⟨z15, ez15, h⟩ := bd_e h
                refine r_callV1 (pc' := 128) (k' := 0) (n' := 0) dX5_readItem_125 mb_X2_isWord mi_X2_isWord hp.c0.o (by decide) rfl lk_X5_92 rfl rfl rfl (Nat.le_of_ble_eq_true rfl) rfl (c_X2_isWord hp.c0 sw_X5_137 ez15 (cpI ?_))
                refine r_if_eq (tgt := 136) (pc' := 131) dX5_readItem_128 rfl rfl (fun h16 => ?_) (fun h16 => ?_)
                · have h := ifn (zb_n0 h16) h
                  refine r_aload_n (pc' := 137) dX5_readItem_136 rfl 0 rfl rfl ?_
                  refine r_getO (pc' := 140) dX5_readItem_137 fa_X5_12 hp.o rfl hp.r0 rfl ?_
                  refine r_ldcS (pc' := 142) (tx := "dye") dX5_readItem_140 sw_X5_142 rfl ?_
                  obtain ⟨z17, ez17, h⟩ := bd_e h
                  refine r_callV1 (pc' := 145) (k' := 0) (n' := 0) dX5_readItem_142 mb_X2_isWord mi_X2_isWord hp.c0.o (by decide) rfl lk_X5_92 rfl rfl rfl (Nat.le_of_ble_eq_true rfl) rfl (c_X2_isWord hp.c0 sw_X5_142 ez17 (cpI ?_))
                  refine r_if_eq (tgt := 153) (pc' := 148) dX5_readItem_145 rfl rfl (fun h18 => ?_) (fun h18 => ?_)
                  · have h := ifn (zb_n0 h18) h
                    refine r_aload_n (pc' := 154) dX5_readItem_153 rfl 0 rfl rfl ?_
                    refine r_getO (pc' := 157) dX5_readItem_154 fa_X5_12 hp.o rfl hp.r0 rfl ?_
                    refine r_ldcS (pc' := 159) (tx := "oil") dX5_readItem_157 sw_X5_147 rfl ?_
                    obtain ⟨z19, ez19, h⟩ := bd_e h
                    refine r_callV1 (pc' := 162) (k' := 0) (n' := 0) dX5_readItem_159 mb_X2_isWord mi_X2_isWord hp.c0.o (by decide) rfl lk_X5_92 rfl rfl rfl (Nat.le_of_ble_eq_true rfl) rfl (c_X2_isWord hp.c0 sw_X5_147 ez19 (cpI ?_))
                    refine r_if_eq (tgt := 170) (pc' := 165) dX5_readItem_162 rfl rfl (fun h20 => ?_) (fun h20 => ?_)
                    · have h := ifn (zb_n0 h20) h
                      refine r_aload_n (pc' := 171) dX5_readItem_170 rfl 0 rfl rfl ?_
                      refine r_getO (pc' := 174) dX5_readItem_171 fa_X5_12 hp.o rfl hp.r0 rfl ?_
                      refine r_ldcS (pc' := 176) (tx := "invert") dX5_readItem_174 sw_X5_152 rfl ?_
                      obtain ⟨z21, ez21, h⟩ := bd_e h
                      refine r_callV1 (pc' := 179) (k' := 0) (n' := 0) dX5_readItem_176 mb_X2_isWord mi_X2_isWord hp.c0.o (by decide) rfl lk_X5_92 rfl rfl rfl (Nat.le_of_ble_eq_true rfl) rfl (c_X2_isWord hp.c0 sw_X5_152 ez21 (cpI ?_))
                      refine r_if_eq (tgt := 187) (pc' := 182) dX5_readItem_179 rfl rfl (fun h22 => ?_) (fun h22 => ?_)
                      · have h := ifn (zb_n0 h22) h
                        refine r_aload_n (pc' := 188) dX5_readItem_187 rfl 0 rfl rfl ?_
                        refine r_getO (pc' := 191) dX5_readItem_188 fa_X5_12 hp.o rfl hp.r0 rfl ?_
                        refine r_ldcS (pc' := 193) (tx := "strain") dX5_readItem_191 sw_X5_157 rfl ?_
                        obtain ⟨z23, ez23, h⟩ := bd_e h
                        refine r_callV1 (pc' := 196) (k' := 0) (n' := 0) dX5_readItem_193 mb_X2_isWord mi_X2_isWord hp.c0.o (by decide) rfl lk_X5_92 rfl rfl rfl (Nat.le_of_ble_eq_true rfl) rfl (c_X2_isWord hp.c0 sw_X5_157 ez23 (cpI ?_))
                        refine r_if_eq (tgt := 204) (pc' := 199) dX5_readItem_196 rfl rfl (fun h24 => ?_) (fun h24 => ?_)
                        · have h := ifn (zb_n0 h24) h
                          refine r_aload_n (pc' := 205) dX5_readItem_204 rfl 0 rfl rfl ?_
                          refine r_getO (pc' := 208) dX5_readItem_205 fa_X5_12 hp.o rfl hp.r0 rfl ?_
                          refine r_ldcS (pc' := 210) (tx := "motor") dX5_readItem_208 sw_X5_162 rfl ?_
                          obtain ⟨z25, ez25, h⟩ := bd_e h
                          refine r_callV1 (pc' := 213) (k' := 0) (n' := 0) dX5_readItem_210 mb_X2_isWord mi_X2_isWord hp.c0.o (by decide) rfl lk_X5_92 rfl rfl rfl (Nat.le_of_ble_eq_true rfl) rfl (c_X2_isWord hp.c0 sw_X5_162 ez25 (cpI ?_))
                          refine r_if_eq (tgt := 221) (pc' := 216) dX5_readItem_213 rfl rfl (fun h26 => ?_) (fun h26 => ?_)
                          · have h := ifn (zb_n0 h26) h
                            refine r_aload_n (pc' := 222) dX5_readItem_221 rfl 0 rfl rfl ?_
                            refine r_getO (pc' := 225) dX5_readItem_222 fa_X5_12 hp.o rfl hp.r0 rfl ?_
                            refine r_ldcS (pc' := 227) (tx := "mend") dX5_readItem_225 sw_X5_167 rfl ?_
                            obtain ⟨z27, ez27, h⟩ := bd_e h
                            refine r_callV1 (pc' := 230) (k' := 0) (n' := 0) dX5_readItem_227 mb_X2_isWord mi_X2_isWord hp.c0.o (by decide) rfl lk_X5_92 rfl rfl rfl (Nat.le_of_ble_eq_true rfl) rfl (c_X2_isWord hp.c0 sw_X5_167 ez27 (cpI ?_))
                            refine r_if_eq (tgt := 240) (pc' := 233) dX5_readItem_230 rfl rfl (fun h28 => ?_) (fun h28 => ?_)
                            · have h := ifn (zb_n0 h28) h
                              refine r_aload_n (pc' := 241) dX5_readItem_240 rfl 0 rfl rfl ?_
                              refine r_iconst (pc' := 242) (v := 1) dX5_readItem_241 (by decide) rfl ?_
                              obtain ⟨z30, I29, ez30, h⟩ := bd2_e h
                              refine r_callV1 (pc' := 245) (k' := 0) (n' := 0) dX5_readItem_242 mb_X5_fail mi_X5_fail hp.o (by decide) rfl lk_X5_52 rfl rfl rfl (Nat.le_of_ble_eq_true rfl) rfl (c_X5_fail hp ez30 (cpI ?_))
                              cases h
                              exact r_zret dX5_readItem_245 rfl (zb01 _) (by decide) (by decide) hQ
                            · have h := ifp (zb_p0 h28) h
                              refine r_aload_n (pc' := 234) dX5_readItem_233 rfl 0 rfl rfl ?_
                              obtain ⟨z32, I31, ez32, h⟩ := bd2_e h
                              refine r_callV0 (pc' := 237) (k' := 0) (n' := 0) dX5_readItem_234 mb_X5_readMend mi_X5_readMend hp.o (by decide) rfl lk_X5_169 rfl rfl rfl (Nat.le_of_ble_eq_true rfl) rfl (c_X5_readMend hp ez32 (cpI ?_))
                              refine r_goto (tgt := 245) dX5_readItem_237 rfl ?_
                              cases h
                              exact r_zret dX5_readItem_245 rfl (zb01 _) (by decide) (by decide) hQ
                          · have h := ifp (zb_p0 h26) h
                            refine r_aload_n (pc' := 217) dX5_readItem_216 rfl 0 rfl rfl ?_
                            obtain ⟨z34, I33, ez34, h⟩ := bd2_e h
                            refine r_callV0 (pc' := 220) (k' := 0) (n' := 0) dX5_readItem_217 mb_X5_readMotor mi_X5_readMotor hp.o (by decide) rfl lk_X5_164 rfl rfl rfl (Nat.le_of_ble_eq_true rfl) rfl (c_X5_readMotor hp ez34 (cpI ?_))
                            cases h
                            exact r_zret dX5_readItem_220 rfl (zb01 _) (by decide) (by decide) hQ
                        · have h := ifp (zb_p0 h24) h
                          refine r_aload_n (pc' := 200) dX5_readItem_199 rfl 0 rfl rfl ?_
                          obtain ⟨z36, I35, ez36, h⟩ := bd2_e h
                          refine r_callV0 (pc' := 203) (k' := 0) (n' := 0) dX5_readItem_200 mb_X5_readStrain mi_X5_readStrain hp.o (by decide) rfl lk_X5_159 rfl rfl rfl (Nat.le_of_ble_eq_true rfl) rfl (c_X5_readStrain hp ez36 (cpI ?_))
                          cases h
                          exact r_zret dX5_readItem_203 rfl (zb01 _) (by decide) (by decide) hQ
                      · have h := ifp (zb_p0 h22) h
                        refine r_aload_n (pc' := 183) dX5_readItem_182 rfl 0 rfl rfl ?_
                        obtain ⟨z38, I37, ez38, h⟩ := bd2_e h
                        refine r_callV0 (pc' := 186) (k' := 0) (n' := 0) dX5_readItem_183 mb_X5_readInvert mi_X5_readInvert hp.o (by decide) rfl lk_X5_154 rfl rfl rfl (Nat.le_of_ble_eq_true rfl) rfl (c_X5_readInvert hp ez38 (cpI ?_))
                        cases h
                        exact r_zret dX5_readItem_186 rfl (zb01 _) (by decide) (by decide) hQ
                    · have h := ifp (zb_p0 h20) h
                      refine r_aload_n (pc' := 166) dX5_readItem_165 rfl 0 rfl rfl ?_
                      obtain ⟨z40, I39, ez40, h⟩ := bd2_e h
                      refine r_callV0 (pc' := 169) (k' := 0) (n' := 0) dX5_readItem_166 mb_X5_readOil mi_X5_readOil hp.o (by decide) rfl lk_X5_149 rfl rfl rfl (Nat.le_of_ble_eq_true rfl) rfl (c_X5_readOil hp ez40 (cpI ?_))
                      cases h
                      exact r_zret dX5_readItem_169 rfl (zb01 _) (by decide) (by decide) hQ
                  · have h := ifp (zb_p0 h18) h
                    refine r_aload_n (pc' := 149) dX5_readItem_148 rfl 0 rfl rfl ?_
                    obtain ⟨z42, I41, ez42, h⟩ := bd2_e h
                    refine r_callV0 (pc' := 152) (k' := 0) (n' := 0) dX5_readItem_149 mb_X5_readDye mi_X5_readDye hp.o (by decide) rfl lk_X5_144 rfl rfl rfl (Nat.le_of_ble_eq_true rfl) rfl (c_X5_readDye hp ez42 (cpI ?_))
                    cases h
                    exact r_zret dX5_readItem_152 rfl (zb01 _) (by decide) (by decide) hQ
                · have h := ifp (zb_p0 h16) h
                  refine r_aload_n (pc' := 132) dX5_readItem_131 rfl 0 rfl rfl ?_
                  obtain ⟨z44, I43, ez44, h⟩ := bd2_e h
                  refine r_callV0 (pc' := 135) (k' := 0) (n' := 0) dX5_readItem_132 mb_X5_readPunch mi_X5_readPunch hp.o (by decide) rfl lk_X5_139 rfl rfl rfl (Nat.le_of_ble_eq_true rfl) rfl (c_X5_readPunch hp ez44 (cpI ?_))
                  cases h
                  exact r_zret dX5_readItem_135 rfl (zb01 _) (by decide) (by decide) hQ
              · have h := ifp (zb_p0 h14) h
                refine r_aload_n (pc' := 115) dX5_readItem_114 rfl 0 rfl rfl ?_
                obtain ⟨z46, I45, ez46, h⟩ := bd2_e h
                refine r_callV0 (pc' := 118) (k' := 0) (n' := 0) dX5_readItem_115 mb_X5_readSwap mi_X5_readSwap hp.o (by decide) rfl lk_X5_134 rfl rfl rfl (Nat.le_of_ble_eq_true rfl) rfl (c_X5_readSwap hp ez46 (cpI ?_))
                cases h
                exact r_zret dX5_readItem_118 rfl (zb01 _) (by decide) (by decide) hQ
            · have h := ifp (zb_p0 h12) h
              refine r_aload_n (pc' := 98) dX5_readItem_97 rfl 0 rfl rfl ?_
              obtain ⟨z48, I47, ez48, h⟩ := bd2_e h
              refine r_callV0 (pc' := 101) (k' := 0) (n' := 0) dX5_readItem_98 mb_X5_readUnweave mi_X5_readUnweave hp.o (by decide) rfl lk_X5_129 rfl rfl rfl (Nat.le_of_ble_eq_true rfl) rfl (c_X5_readUnweave hp ez48 (cpI ?_))
              cases h
              exact r_zret dX5_readItem_101 rfl (zb01 _) (by decide) (by decide) hQ
          · have h := ifp (zb_p0 h10) h
            refine r_aload_n (pc' := 81) dX5_readItem_80 rfl 0 rfl rfl ?_
            obtain ⟨z50, I49, ez50, h⟩ := bd2_e h
            refine r_callV0 (pc' := 84) (k' := 0) (n' := 0) dX5_readItem_81 mb_X5_readWeave mi_X5_readWeave hp.o (by decide) rfl lk_X5_124 rfl rfl rfl (Nat.le_of_ble_eq_true rfl) rfl (c_X5_readWeave hp ez50 (cpI ?_))
            cases h
            exact r_zret dX5_readItem_84 rfl (zb01 _) (by decide) (by decide) hQ
        · have h := ifp (zb_p0 h8) h
          refine r_aload_n (pc' := 64) dX5_readItem_63 rfl 0 rfl rfl ?_
          obtain ⟨z52, I51, ez52, h⟩ := bd2_e h
          refine r_callV0 (pc' := 67) (k' := 0) (n' := 0) dX5_readItem_64 mb_X5_readYarn mi_X5_readYarn hp.o (by decide) rfl lk_X5_119 rfl rfl rfl (Nat.le_of_ble_eq_true rfl) rfl (c_X5_readYarn hp ez52 (cpI ?_))
          cases h
          exact r_zret dX5_readItem_67 rfl (zb01 _) (by decide) (by decide) hQ
      · have h := ifp (zb_p0 h6) h
        refine r_aload_n (pc' := 47) dX5_readItem_46 rfl 0 rfl rfl ?_
        obtain ⟨z54, I53, ez54, h⟩ := bd2_e h
        refine r_callV0 (pc' := 50) (k' := 0) (n' := 0) dX5_readItem_47 mb_X5_readDeck mi_X5_readDeck hp.o (by decide) rfl lk_X5_114 rfl rfl rfl (Nat.le_of_ble_eq_true rfl) rfl (c_X5_readDeck hp ez54 (cpI ?_))
        cases h
        exact r_zret dX5_readItem_50 rfl (zb01 _) (by decide) (by decide) hQ
    · have h := ifp (zb_p0 h4) h
      refine r_aload_n (pc' := 30) dX5_readItem_29 rfl 0 rfl rfl ?_
      obtain ⟨z56, I55, ez56, h⟩ := bd2_e h
      refine r_callV0 (pc' := 33) (k' := 0) (n' := 0) dX5_readItem_30 mb_X5_readCard mi_X5_readCard hp.o (by decide) rfl lk_X5_109 rfl rfl rfl (Nat.le_of_ble_eq_true rfl) rfl (c_X5_readCard hp ez56 (cpI ?_))
      cases h
      exact r_zret dX5_readItem_33 rfl (zb01 _) (by decide) (by decide) hQ
  · have h := ifp (zb_p0 h2) h
    refine r_aload_n (pc' := 13) dX5_readItem_12 rfl 0 rfl rfl ?_
    obtain ⟨z58, I57, ez58, h⟩ := bd2_e h
    refine r_callV0 (pc' := 16) (k' := 0) (n' := 0) dX5_readItem_13 mb_X5_readWarps mi_X5_readWarps hp.o (by decide) rfl lk_X5_104 rfl rfl rfl (Nat.le_of_ble_eq_true rfl) rfl (c_X5_readWarps hp ez58 (cpI ?_))
    cases h
    exact r_zret dX5_readItem_16 rfl (zb01 _) (by decide) (by decide) hQ
set_option maxHeartbeats 4000000 in
theorem fr_X5_readItem {I : JI} {p : Nat} {P : Nat} {r : Bool} {J : JI} {z : Nat} (h : s_X5_readItem I p P = some (r, J)) (hzp : z < p ∨ p + 2 ≤ z) (hzP : z < P ∨ P + 24 ≤ z) : J z = I z := by
  unfold s_X5_readItem at h
  obtain ⟨o1, e1, h⟩ := bd_e h
  rcases if_e h with h | h
  · obtain ⟨z58, I57, e2, h⟩ := bd2_e h
    cases h
    exact ((fr_X5_readWarps e2 (by omega) (by omega)).trans rfl)
  · obtain ⟨o3, e3, h⟩ := bd_e h
    rcases if_e h with h | h
    · obtain ⟨z56, I55, e4, h⟩ := bd2_e h
      cases h
      exact ((fr_X5_readCard e4 (by omega) (by omega)).trans rfl)
    · obtain ⟨o5, e5, h⟩ := bd_e h
      rcases if_e h with h | h
      · obtain ⟨z54, I53, e6, h⟩ := bd2_e h
        cases h
        exact ((fr_X5_readDeck e6 (by omega) (by omega)).trans rfl)
      · obtain ⟨o7, e7, h⟩ := bd_e h
        rcases if_e h with h | h
        · obtain ⟨z52, I51, e8, h⟩ := bd2_e h
          cases h
          exact ((fr_X5_readYarn e8 (by omega) (by omega)).trans rfl)
        · obtain ⟨o9, e9, h⟩ := bd_e h
          rcases if_e h with h | h
          · obtain ⟨z50, I49, e10, h⟩ := bd2_e h
            cases h
            exact ((fr_X5_readWeave e10 (by omega) (by omega)).trans rfl)
          · obtain ⟨o11, e11, h⟩ := bd_e h
            rcases if_e h with h | h
            · obtain ⟨z48, I47, e12, h⟩ := bd2_e h
              cases h
              exact ((fr_X5_readUnweave e12 (by omega) (by omega)).trans rfl)
            · obtain ⟨o13, e13, h⟩ := bd_e h
              rcases if_e h with h | h
              · obtain ⟨z46, I45, e14, h⟩ := bd2_e h
                cases h
                exact ((fr_X5_readSwap e14 (by omega) (by omega)).trans rfl)
              · obtain ⟨o15, e15, h⟩ := bd_e h
                rcases if_e h with h | h
                · obtain ⟨z44, I43, e16, h⟩ := bd2_e h
                  cases h
                  exact ((fr_X5_readPunch e16 (by omega) (by omega)).trans rfl)
                · obtain ⟨o17, e17, h⟩ := bd_e h
                  rcases if_e h with h | h
                  · obtain ⟨z42, I41, e18, h⟩ := bd2_e h
                    cases h
                    exact ((fr_X5_readDye e18 (by omega) (by omega)).trans rfl)
                  · obtain ⟨o19, e19, h⟩ := bd_e h
                    rcases if_e h with h | h
                    · obtain ⟨z40, I39, e20, h⟩ := bd2_e h
                      cases h
                      exact ((fr_X5_readOil e20 (by omega) (by omega)).trans rfl)
                    · obtain ⟨o21, e21, h⟩ := bd_e h
                      rcases if_e h with h | h
                      · obtain ⟨z38, I37, e22, h⟩ := bd2_e h
                        cases h
                        exact ((fr_X5_readInvert e22 (by omega) (by omega)).trans rfl)
                      · obtain ⟨o23, e23, h⟩ := bd_e h
                        rcases if_e h with h | h
                        · obtain ⟨z36, I35, e24, h⟩ := bd2_e h
                          cases h
                          exact ((fr_X5_readStrain e24 (by omega) (by omega)).trans rfl)
                        · obtain ⟨o25, e25, h⟩ := bd_e h
                          rcases if_e h with h | h
                          · obtain ⟨z34, I33, e26, h⟩ := bd2_e h
                            cases h
                            exact ((fr_X5_readMotor e26 (by omega) (by omega)).trans rfl)
                          · obtain ⟨o27, e27, h⟩ := bd_e h
                            rcases if_e h with h | h
                            · obtain ⟨z32, I31, e28, h⟩ := bd2_e h
                              cases h
                              exact ((fr_X5_readMend e28 (by omega) (by omega)).trans rfl)
                            · obtain ⟨z30, I29, e29, h⟩ := bd2_e h
                              cases h
                              exact ((fr_X5_fail e29 (by omega) (by omega)).trans rfl)
noncomputable def s_X5_parse_L44 (p P : Nat) (q1 : Int32) : Nat → Int32 → JI → Option ((Bool × JI) ⊕ (Int32 × JI))
  | 0, _, _ => none
  | f + 1, w2, I => if 500 ≤ w2 then (some (.inr (w2, I))) else (if (I (p + 1) 4) = 0 then (some (.inr (w2, I))) else (if (I (p + 1) 4) = 3 then (bd (s_X2_advance I (p + 1)) fun I12 => bd2 (s_X5_readItem I12 p P) fun z14 I13 => if z14 = true then (s_X5_parse_L44 p P q1 f (w2 + 1) I13) else (some (.inl (false, I13)))) else (bd2 (s_X5_fail I p P 1) fun z17 I16 => some (.inl (z17, I16)))))
noncomputable def s_X5_parse (I : JI) (p P : Nat) (x1 : Int32) : Option (Bool × JI) :=
  lx (stI I p 2 0) fun I1 => lx (stI I1 p 3 (-1)) fun I2 => lx (x3_clear I2 P) fun I3 => lx (stI I3 (p + 1) 1 0) fun I4 => bd (s_X2_startReading I4 (p + 1) x1) fun I5 => bd2 (s_X5_readHeader I5 p P) fun z7 I6 => if z7 = true then (bl (s_X5_parse_L44 p P x1 lf 0 I6) fun (y18, I19) => if 0 < (I19 P 4) then (some (true, I19)) else (bd2 (s_X5_fail I19 p P 4) fun z23 I22 => if z23 = true then (some (true, I22)) else (some (false, I22)))) else (some (false, I6))
set_option maxHeartbeats 4000000 in
theorem l_X5_parse_L44 {Ω : JO} {S : JS} {Q : JQ} {p : Nat} {P : Nat} {q1 : Int32} (hp : Is5 S p P) : ∀ (f : Nat) (w2 : Int32) (I : JI) (o : ((Bool × JI) ⊕ (Int32 × JI))), s_X5_parse_L44 p P q1 f w2 I = some o → (∀ (r : Bool) (J : JI), o = .inl (r, J) → Q (.inl (some (.int (zb r)))) J S) → (∀ (y2 : Int32) (J : JI) , o = .inr (y2, J) → AA Ω m_X5_parse (FQ Ω m_X5_parse Q) 0 0 100 [(2, .int y2), (0, .ref p), (1, .int q1)] [] J S) → AA Ω m_X5_parse (FQ Ω m_X5_parse Q) 0 0 44 [(2, .int w2), (0, .ref p), (1, .int q1)] [] I S := by
  intro f
  induction f with
  | zero =>
    intro w2 I o h hR hE
    rw [s_X5_parse_L44] at h
    cases h
  | succ f ih =>
    intro w2 I o h hR hE
    rw [s_X5_parse_L44] at h
    refine r_iload_n (pc' := 45) dX5_parse_44 rfl 0 rfl rfl ?_
    refine r_sipush (pc' := 48) (v := 500) dX5_parse_45 (by decide) rfl ?_
    refine r_icmp_ge (tgt := 100) (pc' := 51) dX5_parse_48 rfl rfl (fun h9 => ?_) (fun h9 => ?_)
    · have h := ifp h9 h
      cases h
      exact hE _ _ rfl
    · have h := ifn h9 h
      refine r_aload_n (pc' := 52) dX5_parse_51 rfl 1 rfl rfl ?_
      refine r_getO (pc' := 55) dX5_parse_52 fa_X5_12 hp.o rfl hp.r0 rfl ?_
      refine r_getI (pc' := 58) dX5_parse_55 fa_X5_49 hp.c0.o rfl rfl ?_
      refine r_if_eq (tgt := 100) (pc' := 61) dX5_parse_58 rfl rfl (fun h10 => ?_) (fun h10 => ?_)
      · have h := ifp h10 h
        cases h
        exact hE _ _ rfl
      · have h := ifn h10 h
        refine r_aload_n (pc' := 62) dX5_parse_61 rfl 1 rfl rfl ?_
        refine r_getO (pc' := 65) dX5_parse_62 fa_X5_12 hp.o rfl hp.r0 rfl ?_
        refine r_getI (pc' := 68) dX5_parse_65 fa_X5_49 hp.c0.o rfl rfl ?_
        refine r_iconst (pc' := 69) (v := 3) dX5_parse_68 (by decide) rfl ?_
        refine r_icmp_eq (tgt := 78) (pc' := 72) dX5_parse_69 rfl rfl (fun h11 => ?_) (fun h11 => ?_)
        · have h := ifp h11 h
          refine r_aload_n (pc' := 79) dX5_parse_78 rfl 1 rfl rfl ?_
          refine r_getO (pc' := 82) dX5_parse_79 fa_X5_12 hp.o rfl hp.r0 rfl ?_
          obtain ⟨I12, eI12, h⟩ := bd_e h
          refine r_callV0 (pc' := 85) (k' := 0) (n' := 0) dX5_parse_82 mb_X2_advance mi_X2_advance hp.c0.o (by decide) rfl lk_X5_56 rfl rfl rfl (Nat.le_of_ble_eq_true rfl) rfl (c_X2_advance hp.c0 eI12 (cpV ?_))
          refine r_aload_n (pc' := 86) dX5_parse_85 rfl 1 rfl rfl ?_
          obtain ⟨z14, I13, ez14, h⟩ := bd2_e h
          refine r_callV0 (pc' := 89) (k' := 0) (n' := 0) dX5_parse_86 mb_X5_readItem mi_X5_readItem hp.o (by decide) rfl lk_X5_59 rfl rfl rfl (Nat.le_of_ble_eq_true rfl) rfl (c_X5_readItem hp ez14 (cpI ?_))
          refine r_if_ne (tgt := 94) (pc' := 92) dX5_parse_89 rfl rfl (fun h15 => ?_) (fun h15 => ?_)
          · have h := ifp (zb_p0 h15) h
            refine r_iinc (pc' := 97) (v := _ + 1) (lv' := [(2, _), (0, _), (1, _)]) dX5_parse_94 0 rfl rfl (by decide) rfl rfl ?_
            refine r_goto (tgt := 44) dX5_parse_97 rfl ?_
            exact ih _ _ _ h hR hE
          · have h := ifn (zb_n0 h15) h
            refine r_iconst (pc' := 93) (v := 0) dX5_parse_92 (by decide) rfl ?_
            cases h
            exact r_zret dX5_parse_93 rfl (by decide) (by decide) (by decide) (hR _ _ rfl)
        · have h := ifn h11 h
          refine r_aload_n (pc' := 73) dX5_parse_72 rfl 1 rfl rfl ?_
          refine r_iconst (pc' := 74) (v := 1) dX5_parse_73 (by decide) rfl ?_
          obtain ⟨z17, I16, ez17, h⟩ := bd2_e h
          refine r_callV1 (pc' := 77) (k' := 0) (n' := 0) dX5_parse_74 mb_X5_fail mi_X5_fail hp.o (by decide) rfl lk_X5_52 rfl rfl rfl (Nat.le_of_ble_eq_true rfl) rfl (c_X5_fail hp ez17 (cpI ?_))
          cases h
          exact r_zret dX5_parse_77 rfl (zb01 _) (by decide) (by decide) (hR _ _ rfl)
set_option maxHeartbeats 4000000 in
theorem c_X5_parse {Ω : JO} {I : JI} {S : JS} {Q : JQ} {p : Nat} {P : Nat} {x1 : Int32} {r : Bool} {J : JI} (hp : Is5 S p P) (h : s_X5_parse I p P x1 = some (r, J)) (hQ : Q (.inl (some (.int (zb r)))) J S) : Call Ω m_X5_parse [.ref p, .int x1] I S Q := by
  refine call_of (by decide +kernel) rfl (Nat.le_of_ble_eq_true rfl) ?_
  change AA Ω m_X5_parse (FQ Ω m_X5_parse Q) 0 0 0 [(0, .ref p), (1, .int x1)] [] I S
  unfold s_X5_parse at h
  refine r_aload_n (pc' := 1) dX5_parse_0 rfl 0 rfl rfl ?_
  refine r_iconst (pc' := 2) (v := 0) dX5_parse_1 (by decide) rfl ?_
  refine r_putI (pc' := 5) dX5_parse_2 fa_X5_25 hp.o rfl rfl ?_
  have h := lx_e h
  refine r_aload_n (pc' := 6) dX5_parse_5 rfl 0 rfl rfl ?_
  refine r_iconst (pc' := 7) (v := -1) dX5_parse_6 (by decide) rfl ?_
  refine r_putI (pc' := 10) dX5_parse_7 fa_X5_29 hp.o rfl rfl ?_
  have h := lx_e h
  refine r_aload_n (pc' := 11) dX5_parse_10 rfl 0 rfl rfl ?_
  refine r_getO (pc' := 14) dX5_parse_11 fa_X5_21 hp.o rfl hp.r1 rfl ?_
  refine r_callV0 (pc' := 17) (k' := 0) (n' := 0) dX5_parse_14 mb_X3_clear mi_X3_clear hp.c1.o (by decide) rfl lk_X5_35 rfl rfl rfl (Nat.le_of_ble_eq_true rfl) rfl (c_X3_clear hp.c1 (cpV ?_))
  have h := lx_e h
  refine r_aload_n (pc' := 18) dX5_parse_17 rfl 0 rfl rfl ?_
  refine r_getO (pc' := 21) dX5_parse_18 fa_X5_12 hp.o rfl hp.r0 rfl ?_
  refine r_iconst (pc' := 22) (v := 0) dX5_parse_21 (by decide) rfl ?_
  refine r_putI (pc' := 25) dX5_parse_22 fa_X5_38 hp.c0.o rfl rfl ?_
  have h := lx_e h
  refine r_aload_n (pc' := 26) dX5_parse_25 rfl 0 rfl rfl ?_
  refine r_getO (pc' := 29) dX5_parse_26 fa_X5_12 hp.o rfl hp.r0 rfl ?_
  refine r_iload_n (pc' := 30) dX5_parse_29 rfl 1 rfl rfl ?_
  obtain ⟨I5, eI5, h⟩ := bd_e h
  refine r_callV1 (pc' := 33) (k' := 0) (n' := 0) dX5_parse_30 mb_X2_startReading mi_X2_startReading hp.c0.o (by decide) rfl lk_X5_41 rfl rfl rfl (Nat.le_of_ble_eq_true rfl) rfl (c_X2_startReading hp.c0 eI5 (cpV ?_))
  refine r_aload_n (pc' := 34) dX5_parse_33 rfl 0 rfl rfl ?_
  obtain ⟨z7, I6, ez7, h⟩ := bd2_e h
  refine r_callV0 (pc' := 37) (k' := 0) (n' := 0) dX5_parse_34 mb_X5_readHeader mi_X5_readHeader hp.o (by decide) rfl lk_X5_45 rfl rfl rfl (Nat.le_of_ble_eq_true rfl) rfl (c_X5_readHeader hp ez7 (cpI ?_))
  refine r_if_ne (tgt := 42) (pc' := 40) dX5_parse_37 rfl rfl (fun h8 => ?_) (fun h8 => ?_)
  · have h := ifp (zb_p0 h8) h
    refine r_iconst (pc' := 43) (v := 0) dX5_parse_42 (by decide) rfl ?_
    refine r_istore_n (pc' := 44) (lv' := [(2, _), (0, _), (1, _)]) dX5_parse_43 rfl (by decide) rfl rfl ?_
    obtain ⟨o20, eo20, h1, h⟩ := bl_e h
    refine l_X5_parse_L44 (Ω := Ω) hp _ _ _ _ eo20 (fun r J q => ?_) (fun y18 I19 q => ?_)
    · have h1 := h1 _ q
      cases h1
      exact hQ
    have h := h _ q
    refine r_aload_n (pc' := 101) dX5_parse_100 rfl 1 rfl rfl ?_
    refine r_getO (pc' := 104) dX5_parse_101 fa_X5_21 hp.o rfl hp.r1 rfl ?_
    refine r_getI (pc' := 107) dX5_parse_104 fa_X5_62 hp.c1.o rfl rfl ?_
    refine r_if_gt (tgt := 118) (pc' := 110) dX5_parse_107 rfl rfl (fun h21 => ?_) (fun h21 => ?_)
    · have h := ifp h21 h
      refine r_iconst (pc' := 119) (v := 1) dX5_parse_118 (by decide) rfl ?_
      refine r_goto (tgt := 123) dX5_parse_119 rfl ?_
      cases h
      exact r_zret dX5_parse_123 rfl (by decide) (by decide) (by decide) hQ
    · have h := ifn h21 h
      refine r_aload_n (pc' := 111) dX5_parse_110 rfl 1 rfl rfl ?_
      refine r_iconst (pc' := 112) (v := 4) dX5_parse_111 (by decide) rfl ?_
      obtain ⟨z23, I22, ez23, h⟩ := bd2_e h
      refine r_callV1 (pc' := 115) (k' := 0) (n' := 0) dX5_parse_112 mb_X5_fail mi_X5_fail hp.o (by decide) rfl lk_X5_52 rfl rfl rfl (Nat.le_of_ble_eq_true rfl) rfl (c_X5_fail hp ez23 (cpI ?_))
      refine r_if_eq (tgt := 122) (pc' := 118) dX5_parse_115 rfl rfl (fun h24 => ?_) (fun h24 => ?_)
      · have h := ifn (zb_n0 h24) h
        refine r_iconst (pc' := 123) (v := 0) dX5_parse_122 (by decide) rfl ?_
        cases h
        exact r_zret dX5_parse_123 rfl (by decide) (by decide) (by decide) hQ
      · have h := ifp (zb_p0 h24) h
        refine r_iconst (pc' := 119) (v := 1) dX5_parse_118 (by decide) rfl ?_
        refine r_goto (tgt := 123) dX5_parse_119 rfl ?_
        cases h
        exact r_zret dX5_parse_123 rfl (by decide) (by decide) (by decide) hQ
  · have h := ifn (zb_n0 h8) h
    refine r_iconst (pc' := 41) (v := 0) dX5_parse_40 (by decide) rfl ?_
    cases h
    exact r_zret dX5_parse_41 rfl (by decide) (by decide) (by decide) hQ
theorem frl_X5_parse_L44 {p : Nat} {P : Nat} {q1 : Int32} {z : Nat} (hzp : z < p ∨ p + 2 ≤ z) (hzP : z < P ∨ P + 24 ≤ z) : ∀ (f : Nat) (w2 : Int32) (I : JI) (o : ((Bool × JI) ⊕ (Int32 × JI))), s_X5_parse_L44 p P q1 f w2 I = some o → (∀ (r : Bool) (J : JI), o = .inl (r, J) → J z = I z) ∧ (∀ (y2 : Int32) (J : JI), o = .inr (y2, J) → J z = I z) := by
  intro f
  induction f with
  | zero =>
    intro w2 I o h
    rw [s_X5_parse_L44] at h
    cases h
  | succ f ih =>
    intro w2 I o h
    rw [s_X5_parse_L44] at h
    rcases if_e h with h | h
    · cases h
      refine ⟨?_, ?_⟩
      · intro _ _ q
        cases q
      · intro _ _ q
        cases q
        exact rfl
    · rcases if_e h with h | h
      · cases h
        refine ⟨?_, ?_⟩
        · intro _ _ q
          cases q
        · intro _ _ q
          cases q
          exact rfl
      · rcases if_e h with h | h
        · obtain ⟨I12, e1, h⟩ := bd_e h
          obtain ⟨z14, I13, e2, h⟩ := bd2_e h
          rcases if_e h with h | h
          · refine ⟨?_, ?_⟩
            · intro _ _ q
              exact ((ih _ _ _ h).1 _ _ q).trans ((fr_X5_readItem e2 (by omega) (by omega)).trans ((fr_X2_advance e1 (by omega)).trans rfl))
            · intro _ _ q
              exact ((ih _ _ _ h).2 _ _ q).trans ((fr_X5_readItem e2 (by omega) (by omega)).trans ((fr_X2_advance e1 (by omega)).trans rfl))
          · cases h
            refine ⟨?_, ?_⟩
            · intro _ _ q
              cases q
              exact ((fr_X5_readItem e2 (by omega) (by omega)).trans ((fr_X2_advance e1 (by omega)).trans rfl))
            · intro _ _ q
              cases q
        · obtain ⟨z17, I16, e3, h⟩ := bd2_e h
          cases h
          refine ⟨?_, ?_⟩
          · intro _ _ q
            cases q
            exact ((fr_X5_fail e3 (by omega) (by omega)).trans rfl)
          · intro _ _ q
            cases q
set_option maxHeartbeats 4000000 in
theorem fr_X5_parse {I : JI} {p : Nat} {P : Nat} {x1 : Int32} {r : Bool} {J : JI} {z : Nat} (h : s_X5_parse I p P x1 = some (r, J)) (hzp : z < p ∨ p + 2 ≤ z) (hzP : z < P ∨ P + 24 ≤ z) : J z = I z := by
  unfold s_X5_parse at h
  have h := lx_e h
  have h := lx_e h
  have h := lx_e h
  have h := lx_e h
  obtain ⟨I5, e1, h⟩ := bd_e h
  obtain ⟨z7, I6, e2, h⟩ := bd2_e h
  rcases if_e h with h | h
  · obtain ⟨o3, e3, h1, h⟩ := bl_e h
    rcases o3 with y3 | y3
    · have h1 := h1 _ rfl
      cases h1
      exact (((frl_X5_parse_L44 hzp hzP _ _ _ _ e3).1 _ _ rfl).trans ((fr_X5_readHeader e2 (by omega) (by omega)).trans ((fr_X2_startReading e1 (by omega)).trans ((fr_stI (by omega)).trans ((fr_x3_clear (by omega)).trans ((fr_stI (by omega)).trans ((fr_stI (by omega)).trans rfl)))))))
    have h := h _ rfl
    obtain ⟨y18, I19⟩ := y3
    rcases if_e h with h | h
    · cases h
      exact (((frl_X5_parse_L44 hzp hzP _ _ _ _ e3).2 _ _ rfl).trans ((fr_X5_readHeader e2 (by omega) (by omega)).trans ((fr_X2_startReading e1 (by omega)).trans ((fr_stI (by omega)).trans ((fr_x3_clear (by omega)).trans ((fr_stI (by omega)).trans ((fr_stI (by omega)).trans rfl)))))))
    · obtain ⟨z23, I22, e4, h⟩ := bd2_e h
      rcases if_e h with h | h
      · cases h
        exact ((fr_X5_fail e4 (by omega) (by omega)).trans (((frl_X5_parse_L44 hzp hzP _ _ _ _ e3).2 _ _ rfl).trans ((fr_X5_readHeader e2 (by omega) (by omega)).trans ((fr_X2_startReading e1 (by omega)).trans ((fr_stI (by omega)).trans ((fr_x3_clear (by omega)).trans ((fr_stI (by omega)).trans ((fr_stI (by omega)).trans rfl))))))))
      · cases h
        exact ((fr_X5_fail e4 (by omega) (by omega)).trans (((frl_X5_parse_L44 hzp hzP _ _ _ _ e3).2 _ _ rfl).trans ((fr_X5_readHeader e2 (by omega) (by omega)).trans ((fr_X2_startReading e1 (by omega)).trans ((fr_stI (by omega)).trans ((fr_x3_clear (by omega)).trans ((fr_stI (by omega)).trans ((fr_stI (by omega)).trans rfl))))))))
  · cases h
    exact ((fr_X5_readHeader e2 (by omega) (by omega)).trans ((fr_X2_startReading e1 (by omega)).trans ((fr_stI (by omega)).trans ((fr_x3_clear (by omega)).trans ((fr_stI (by omega)).trans ((fr_stI (by omega)).trans rfl))))))
