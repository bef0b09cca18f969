noncomputable def s_X9_picksUntilStuck (I : JI) (m : Nat) : Option (Int32 × JI) :=
  bd2 (s_X9_mayLook I m) fun z2 I1 => if z2 = true then (bd (s_X9_thinks I1 m) fun I4 => bd2 (s_X9_untilStuck I4 m) fun v6 I5 => bd2 (s_X9_back I5 m v6) fun v8 I7 => some (v8, I7)) else (some (0, I1))
set_option maxHeartbeats 4000000 in
theorem c_X9_picksUntilStuck {Ω : JO} {I : JI} {S : JS} {Q : JQ} {m : Nat} {r : Int32} {J : JI} (hm : Is9 S m) (h : s_X9_picksUntilStuck I m = some (r, J)) (hQ : Q (.inl (some (.int r))) J S) : Call Ω m_X9_picksUntilStuck [.ref m] I S Q := by
  refine call_of (by decide +kernel) rfl (Nat.le_of_ble_eq_true rfl) ?_
  change AA Ω m_X9_picksUntilStuck (FQ Ω m_X9_picksUntilStuck Q) 0 0 0 [(0, .ref m)] [] I S
  unfold s_X9_picksUntilStuck at h
  refine r_aload_n (pc' := 1) dX9_picksUntilStuck_0 rfl 0 rfl rfl ?_
  obtain ⟨z2, I1, ez2, h⟩ := bd2_e h
  refine r_callV0 (pc' := 4) (k' := 0) (n' := 0) dX9_picksUntilStuck_1 mb_X9_mayLook mi_X9_mayLook hm.o (by decide) rfl lk_X9_409 rfl rfl rfl (Nat.le_of_ble_eq_true rfl) rfl (c_X9_mayLook hm ez2 (cpI ?_))
  refine r_if_ne (tgt := 9) (pc' := 7) dX9_picksUntilStuck_4 rfl rfl (fun h3 => ?_) (fun h3 => ?_)
  · have h := ifp (zb_p0 h3) h
    refine r_aload_n (pc' := 10) dX9_picksUntilStuck_9 rfl 0 rfl rfl ?_
    obtain ⟨I4, eI4, h⟩ := bd_e h
    refine r_callV0 (pc' := 13) (k' := 0) (n' := 0) dX9_picksUntilStuck_10 mb_X9_thinks mi_X9_thinks hm.o (by decide) rfl lk_X9_313 rfl rfl rfl (Nat.le_of_ble_eq_true rfl) rfl (c_X9_thinks hm eI4 (cpV ?_))
    refine r_aload_n (pc' := 14) dX9_picksUntilStuck_13 rfl 0 rfl rfl ?_
    refine r_aload_n (pc' := 15) dX9_picksUntilStuck_14 rfl 0 rfl rfl ?_
    obtain ⟨v6, I5, ev6, h⟩ := bd2_e h
    refine r_callV0 (pc' := 18) (k' := 0) (n' := 0) dX9_picksUntilStuck_15 mb_X9_untilStuck mi_X9_untilStuck hm.o (by decide) rfl lk_X9_460 rfl rfl rfl (Nat.le_of_ble_eq_true rfl) rfl (c_X9_untilStuck hm ev6 (cpI ?_))
    obtain ⟨v8, I7, ev8, h⟩ := bd2_e h
    refine r_callV1 (pc' := 21) (k' := 0) (n' := 0) dX9_picksUntilStuck_18 mb_X9_back mi_X9_back hm.o (by decide) rfl lk_X9_319 rfl rfl rfl (Nat.le_of_ble_eq_true rfl) rfl (c_X9_back hm ev8 (cpI ?_))
    cases h
    exact r_iret dX9_picksUntilStuck_21 rfl (by decide) (by decide) hQ
  · have h := ifn (zb_n0 h3) h
    refine r_iconst (pc' := 8) (v := 0) dX9_picksUntilStuck_7 (by decide) rfl ?_
    cases h
    exact r_iret dX9_picksUntilStuck_8 rfl (by decide) (by decide) hQ
set_option maxHeartbeats 4000000 in
theorem fr_X9_picksUntilStuck {I : JI} {m : Nat} {r : Int32} {J : JI} {z : Nat} (h : s_X9_picksUntilStuck I m = some (r, J)) (hz_m1 : z ≠ (m + 1)) (hz_m2 : z ≠ (m + 2)) (hz_m : z ≠ m) : J z = I z := by
  unfold s_X9_picksUntilStuck at h
  obtain ⟨z2, I1, e1, h⟩ := bd2_e h
  rcases if_e h with h | h
  · obtain ⟨I4, e2, h⟩ := bd_e h
    obtain ⟨v6, I5, e3, h⟩ := bd2_e h
    obtain ⟨v8, I7, e4, h⟩ := bd2_e h
    cases h
    exact ((fr_X9_back e4 (by omega)).trans ((fr_X9_untilStuck e3 (by omega)).trans ((fr_X9_thinks e2 (by omega)).trans ((fr_X9_mayLook e1 (by omega)).trans rfl))))
  · cases h
    exact ((fr_X9_mayLook e1 (by omega)).trans rfl)
set_option maxHeartbeats 4000000 in
theorem ff_X9_picksUntilStuck {I : JI} {m : Nat} {r : Int32} {J : JI} {k : Nat} (h : s_X9_picksUntilStuck I m = some (r, J)) (hk0 : k ≠ 0) : J m k = I m k := by
  unfold s_X9_picksUntilStuck at h
  obtain ⟨z2, I1, e1, h⟩ := bd2_e h
  rcases if_e h with h | h
  · obtain ⟨I4, e2, h⟩ := bd_e h
    obtain ⟨v6, I5, e3, h⟩ := bd2_e h
    obtain ⟨v8, I7, e4, h⟩ := bd2_e h
    cases h
    exact ((congrFun (fr_X9_back e4 (by omega)) k).trans ((congrFun (fr_X9_untilStuck e3 (by omega)) k).trans ((congrFun (fr_X9_thinks e2 (by omega)) k).trans ((ff_X9_mayLook e1 hk0).trans rfl))))
  · cases h
    exact ((ff_X9_mayLook e1 hk0).trans rfl)
noncomputable def s_X9_imbalance_L25 (I : JI) (m : Nat) : Nat → Int32 → Int32 → Option (Int32 × Int32)
  | 0, _, _ => none
  | f + 1, w1, w2 => if 6 ≤ w2 then (some (w1, w2)) else (gd (vp_in (110 + w2) 2030) <| lx (w1 + (I (m + 1) (Int32.toNatClampNeg (110 + w2)))) fun v9 => s_X9_imbalance_L25 I m f v9 (w2 + 1))
noncomputable def s_X9_imbalance (I : JI) (m : Nat) : Option (Int32 × JI) :=
  bd2 (s_X9_mayLook I m) fun z2 I1 => if z2 = true then (gd (vp_in 5 2030) <| gd (vp_in 2 2030) <| lx ((I1 (m + 1) (Int32.toNatClampNeg 5)) * (I1 (m + 1) (Int32.toNatClampNeg 2))) fun v6 => bd (s_X9_imbalance_L25 I1 m lf v6 0) fun (y10, y11) => gd (vp_in 10 2030) <| gd (vp_in 8 2030) <| if (I1 (m + 1) (Int32.toNatClampNeg 8)) = 0 then (gd (vp_in 9 2030) <| if (I1 (m + 1) (Int32.toNatClampNeg 9)) = 0 then (gd (vp_in 13 2030) <| if (I1 (m + 1) (Int32.toNatClampNeg 13)) = 0 then (bd (s_X9_wrongs I1 m) fun v20 => some (((abF (y10 - (I1 (m + 1) (Int32.toNatClampNeg 10)))) + v20), I1)) else (some (((abF (y10 - (I1 (m + 1) (Int32.toNatClampNeg 10)))) + 0), I1))) else (some (((abF (y10 - (I1 (m + 1) (Int32.toNatClampNeg 10)))) + 0), I1))) else (some (((abF (y10 - (I1 (m + 1) (Int32.toNatClampNeg 10)))) + 0), I1))) else (some (0, I1))
set_option maxHeartbeats 4000000 in
theorem l_X9_imbalance_L25 {Ω : JO} {S : JS} {Q : JQ} {I : JI} {m : Nat} (hm : Is9 S m) : ∀ (f : Nat) (w1 : Int32) (w2 : Int32) (o : (Int32 × Int32)), s_X9_imbalance_L25 I m f w1 w2 = some o → True → (∀ (y1 : Int32) (y2 : Int32) , o = (y1, y2) → AA Ω m_X9_imbalance (FQ Ω m_X9_imbalance Q) 0 0 49 [(1, .int y1), (2, .int y2), (0, .ref m)] [] I S) → AA Ω m_X9_imbalance (FQ Ω m_X9_imbalance Q) 0 0 25 [(1, .int w1), (2, .int w2), (0, .ref m)] [] I S := by
  intro f
  induction f with
  | zero =>
    intro w1 w2 o h hR hE
    rw [s_X9_imbalance_L25] at h
    cases h
  | succ f ih =>
    intro w1 w2 o h hR hE
    rw [s_X9_imbalance_L25] at h
    refine r_iload_n (pc' := 26) dX9_imbalance_25 rfl 1 rfl rfl ?_
    refine r_bipush (pc' := 28) (v := 6) dX9_imbalance_26 (by decide) rfl ?_
    refine r_icmp_ge (tgt := 49) (pc' := 31) dX9_imbalance_28 rfl rfl (fun h7 => ?_) (fun h7 => ?_)
    · have h := ifp h7 h
      cases h
      exact hE _ _ rfl
    · have h := ifn h7 h
      refine r_iload_n (pc' := 32) dX9_imbalance_31 rfl 0 rfl rfl ?_
      refine r_aload_n (pc' := 33) dX9_imbalance_32 rfl 2 rfl rfl ?_
      refine r_getO (pc' := 36) dX9_imbalance_33 fa_X9_9 hm.o rfl hm.r1 rfl ?_
      refine r_bipush (pc' := 38) (v := 110) dX9_imbalance_36 (by decide) rfl ?_
      refine r_iload_n (pc' := 39) dX9_imbalance_38 rfl 1 rfl rfl ?_
      refine r_iadd (pc' := 40) dX9_imbalance_39 rfl ?_
      obtain ⟨g8, h⟩ := gd_e h
      refine r_iaload (pc' := 41) dX9_imbalance_40 hm.c1 g8 rfl ?_
      refine r_iadd (pc' := 42) dX9_imbalance_41 rfl ?_
      refine r_istore_n (pc' := 43) (lv' := [(1, _), (2, _), (0, _)]) dX9_imbalance_42 rfl (by decide) rfl rfl ?_
      have h := lx_e h
      refine r_iinc (pc' := 46) (v := _ + 1) (lv' := [(2, _), (1, _), (0, _)]) dX9_imbalance_43 1 rfl rfl (by decide) rfl rfl ?_
      refine r_goto (tgt := 25) dX9_imbalance_46 rfl ?_
      refine aa_locs (ks := [1, 0, 2]) (lv' := [(1, _), (2, _), (0, _)]) rfl ?_
      exact ih _ _ _ h hR hE
set_option maxHeartbeats 4000000 in
theorem c_X9_imbalance {Ω : JO} {I : JI} {S : JS} {Q : JQ} {m : Nat} {r : Int32} {J : JI} (hm : Is9 S m) (h : s_X9_imbalance I m = some (r, J)) (hQ : Q (.inl (some (.int r))) J S) : Call Ω m_X9_imbalance [.ref m] I S Q := by
  refine call_of (by decide +kernel) rfl (Nat.le_of_ble_eq_true rfl) ?_
  change AA Ω m_X9_imbalance (FQ Ω m_X9_imbalance Q) 0 0 0 [(0, .ref m)] [] I S
  unfold s_X9_imbalance at h
  refine r_aload_n (pc' := 1) dX9_imbalance_0 rfl 0 rfl rfl ?_
  obtain ⟨z2, I1, ez2, h⟩ := bd2_e h
  refine r_callV0 (pc' := 4) (k' := 0) (n' := 0) dX9_imbalance_1 mb_X9_mayLook mi_X9_mayLook hm.o (by decide) rfl lk_X9_409 rfl rfl rfl (Nat.le_of_ble_eq_true rfl) rfl (c_X9_mayLook hm ez2 (cpI ?_))
  refine r_if_ne (tgt := 9) (pc' := 7) dX9_imbalance_4 rfl rfl (fun h3 => ?_) (fun h3 => ?_)
  · have h := ifp (zb_p0 h3) h
    refine r_aload_n (pc' := 10) dX9_imbalance_9 rfl 0 rfl rfl ?_
    refine r_getO (pc' := 13) dX9_imbalance_10 fa_X9_9 hm.o rfl hm.r1 rfl ?_
    refine r_iconst (pc' := 14) (v := 5) dX9_imbalance_13 (by decide) rfl ?_
    obtain ⟨g4, h⟩ := gd_e h
    refine r_iaload (pc' := 15) dX9_imbalance_14 hm.c1 g4 rfl ?_
    refine r_aload_n (pc' := 16) dX9_imbalance_15 rfl 0 rfl rfl ?_
    refine r_getO (pc' := 19) dX9_imbalance_16 fa_X9_9 hm.o rfl hm.r1 rfl ?_
    refine r_iconst (pc' := 20) (v := 2) dX9_imbalance_19 (by decide) rfl ?_
    obtain ⟨g5, h⟩ := gd_e h
    refine r_iaload (pc' := 21) dX9_imbalance_20 hm.c1 g5 rfl ?_
    refine r_imul (pc' := 22) dX9_imbalance_21 rfl ?_
    refine r_istore_n (pc' := 23) (lv' := [(1, _), (0, _)]) dX9_imbalance_22 rfl (by decide) rfl rfl ?_
    have h := lx_e h
    refine r_iconst (pc' := 24) (v := 0) dX9_imbalance_23 (by decide) rfl ?_
    refine r_istore_n (pc' := 25) (lv' := [(2, _), (1, _), (0, _)]) dX9_imbalance_24 rfl (by decide) rfl rfl ?_
    refine aa_locs (ks := [1, 0, 2]) (lv' := [(1, _), (2, _), (0, _)]) rfl ?_
    obtain ⟨o12, eo12, h⟩ := bd_e h
    refine l_X9_imbalance_L25 (Ω := Ω) hm _ _ _ _ eo12 trivial (fun y10 y11 q => ?_)
    subst q
    refine r_iload_n (pc' := 50) dX9_imbalance_49 rfl 0 rfl rfl ?_
    refine r_aload_n (pc' := 51) dX9_imbalance_50 rfl 2 rfl rfl ?_
    refine r_getO (pc' := 54) dX9_imbalance_51 fa_X9_9 hm.o rfl hm.r1 rfl ?_
    refine r_bipush (pc' := 56) (v := 10) dX9_imbalance_54 (by decide) rfl ?_
    obtain ⟨g13, h⟩ := gd_e h
    refine r_iaload (pc' := 57) dX9_imbalance_56 hm.c1 g13 rfl ?_
    refine r_isub (pc' := 58) dX9_imbalance_57 rfl ?_
    refine r_mabs (pc' := 61) dX9_imbalance_58 mw_X9_463 (by decide) (Nat.le_of_ble_eq_true rfl) (by decide) (by decide) rfl ?_
    refine r_aload_n (pc' := 62) dX9_imbalance_61 rfl 2 rfl rfl ?_
    refine r_getO (pc' := 65) dX9_imbalance_62 fa_X9_9 hm.o rfl hm.r1 rfl ?_
    refine r_bipush (pc' := 67) (v := 8) dX9_imbalance_65 (by decide) rfl ?_
    obtain ⟨g14, h⟩ := gd_e h
    refine r_iaload (pc' := 68) dX9_imbalance_67 hm.c1 g14 rfl ?_
    refine r_if_ne (tgt := 98) (pc' := 71) dX9_imbalance_68 rfl rfl (fun h15 => ?_) (fun h15 => ?_)
    · have h := ifn h15 h
      refine r_iconst (pc' := 99) (v := 0) dX9_imbalance_98 (by decide) rfl ?_
      refine r_iadd (pc' := 100) dX9_imbalance_99 rfl ?_
      cases h
      exact r_iret dX9_imbalance_100 rfl (by decide) (by decide) hQ
    · have h := ifp h15 h
      refine r_aload_n (pc' := 72) dX9_imbalance_71 rfl 2 rfl rfl ?_
      refine r_getO (pc' := 75) dX9_imbalance_72 fa_X9_9 hm.o rfl hm.r1 rfl ?_
      refine r_bipush (pc' := 77) (v := 9) dX9_imbalance_75 (by decide) rfl ?_
      obtain ⟨g16, h⟩ := gd_e h
      refine r_iaload (pc' := 78) dX9_imbalance_77 hm.c1 g16 rfl ?_
      refine r_if_ne (tgt := 98) (pc' := 81) dX9_imbalance_78 rfl rfl (fun h17 => ?_) (fun h17 => ?_)
      · have h := ifn h17 h
        refine r_iconst (pc' := 99) (v := 0) dX9_imbalance_98 (by decide) rfl ?_
        refine r_iadd (pc' := 100) dX9_imbalance_99 rfl ?_
        cases h
        exact r_iret dX9_imbalance_100 rfl (by decide) (by decide) hQ
      · have h := ifp h17 h
        refine r_aload_n (pc' := 82) dX9_imbalance_81 rfl 2 rfl rfl ?_
        refine r_getO (pc' := 85) dX9_imbalance_82 fa_X9_9 hm.o rfl hm.r1 rfl ?_
        refine r_bipush (pc' := 87) (v := 13) dX9_imbalance_85 (by decide) rfl ?_
        obtain ⟨g18, h⟩ := gd_e h
        refine r_iaload (pc' := 88) dX9_imbalance_87 hm.c1 g18 rfl ?_
        refine r_if_ne (tgt := 98) (pc' := 91) dX9_imbalance_88 rfl rfl (fun h19 => ?_) (fun h19 => ?_)
        · have h := ifn h19 h
          refine r_iconst (pc' := 99) (v := 0) dX9_imbalance_98 (by decide) rfl ?_
          refine r_iadd (pc' := 100) dX9_imbalance_99 rfl ?_
          cases h
          exact r_iret dX9_imbalance_100 rfl (by decide) (by decide) hQ
        · have h := ifp h19 h
          refine r_aload_n (pc' := 92) dX9_imbalance_91 rfl 2 rfl rfl ?_
          obtain ⟨v20, ev20, h⟩ := bd_e h
          refine r_callV0 (pc' := 95) (k' := 0) (n' := 0) dX9_imbalance_92 mb_X9_wrongs mi_X9_wrongs hm.o (by decide) rfl lk_X9_384 rfl rfl rfl (Nat.le_of_ble_eq_true rfl) rfl (c_X9_wrongs hm ev20 (cpI ?_))
          refine r_goto (tgt := 99) dX9_imbalance_95 rfl ?_
          refine r_iadd (pc' := 100) dX9_imbalance_99 rfl ?_
          cases h
          exact r_iret dX9_imbalance_100 rfl (by decide) (by decide) hQ
  · have h := ifn (zb_n0 h3) h
    refine r_iconst (pc' := 8) (v := 0) dX9_imbalance_7 (by decide) rfl ?_
    cases h
    exact r_iret dX9_imbalance_8 rfl (by decide) (by decide) hQ
set_option maxHeartbeats 4000000 in
theorem fr_X9_imbalance {I : JI} {m : Nat} {r : Int32} {J : JI} {z : Nat} (h : s_X9_imbalance I m = some (r, J)) (hz_m : z ≠ m) : J z = I z := by
  unfold s_X9_imbalance at h
  obtain ⟨z2, I1, e1, h⟩ := bd2_e h
  rcases if_e h with h | h
  · obtain ⟨g2, h⟩ := gd_e h
    obtain ⟨g3, h⟩ := gd_e h
    have h := lx_e h
    obtain ⟨o4, e4, h⟩ := bd_e h
    obtain ⟨y10, y11⟩ := o4
    obtain ⟨g5, h⟩ := gd_e h
    obtain ⟨g6, h⟩ := gd_e h
    rcases if_e h with h | h
    · obtain ⟨g7, h⟩ := gd_e h
      rcases if_e h with h | h
      · obtain ⟨g8, h⟩ := gd_e h
        rcases if_e h with h | h
        · obtain ⟨o9, e9, h⟩ := bd_e h
          cases h
          exact ((fr_X9_mayLook e1 (by omega)).trans rfl)
        · cases h
          exact ((fr_X9_mayLook e1 (by omega)).trans rfl)
      · cases h
        exact ((fr_X9_mayLook e1 (by omega)).trans rfl)
    · cases h
      exact ((fr_X9_mayLook e1 (by omega)).trans rfl)
  · cases h
    exact ((fr_X9_mayLook e1 (by omega)).trans rfl)
set_option maxHeartbeats 4000000 in
theorem ff_X9_imbalance {I : JI} {m : Nat} {r : Int32} {J : JI} {k : Nat} (h : s_X9_imbalance I m = some (r, J)) (hk0 : k ≠ 0) : J m k = I m k := by
  unfold s_X9_imbalance at h
  obtain ⟨z2, I1, e1, h⟩ := bd2_e h
  rcases if_e h with h | h
  · obtain ⟨g2, h⟩ := gd_e h
    obtain ⟨g3, h⟩ := gd_e h
    have h := lx_e h
    obtain ⟨o4, e4, h⟩ := bd_e h
    obtain ⟨y10, y11⟩ := o4
    obtain ⟨g5, h⟩ := gd_e h
    obtain ⟨g6, h⟩ := gd_e h
    rcases if_e h with h | h
    · obtain ⟨g7, h⟩ := gd_e h
      rcases if_e h with h | h
      · obtain ⟨g8, h⟩ := gd_e h
        rcases if_e h with h | h
        · obtain ⟨o9, e9, h⟩ := bd_e h
          cases h
          exact ((ff_X9_mayLook e1 hk0).trans rfl)
        · cases h
          exact ((ff_X9_mayLook e1 hk0).trans rfl)
      · cases h
        exact ((ff_X9_mayLook e1 hk0).trans rfl)
    · cases h
      exact ((ff_X9_mayLook e1 hk0).trans rfl)
  · cases h
    exact ((ff_X9_mayLook e1 hk0).trans rfl)
noncomputable def s_X9_writesByte (I : JI) (m : Nat) (x1 : Int32) : Option (JI) :=
  gd (vp_in (I m 22) 1000) <| lx (stI I (m + 10) (Int32.toNatClampNeg (I m 22)) (vp_nar .byte ((Int32.toInt8 x1).toInt32))) fun I2 => lx (stI I2 m 22 ((I2 m 22) + 1)) fun I3 => some I3
set_option maxHeartbeats 4000000 in
theorem c_X9_writesByte {Ω : JO} {I : JI} {S : JS} {Q : JQ} {m : Nat} {x1 : Int32} {J : JI} (hm : Is9 S m) (h : s_X9_writesByte I m x1 = some J) (hQ : Q (.inl none) J S) : Call Ω m_X9_writesByte [.ref m, .int x1] I S Q := by
  refine call_of (by decide +kernel) rfl (Nat.le_of_ble_eq_true rfl) ?_
  change AA Ω m_X9_writesByte (FQ Ω m_X9_writesByte Q) 0 0 0 [(0, .ref m), (1, .int x1)] [] I S
  unfold s_X9_writesByte at h
  refine r_aload_n (pc' := 1) dX9_writesByte_0 rfl 0 rfl rfl ?_
  refine r_getO (pc' := 4) dX9_writesByte_1 fa_X9_43 hm.o rfl hm.r21 rfl ?_
  refine r_aload_n (pc' := 5) dX9_writesByte_4 rfl 0 rfl rfl ?_
  refine r_getI (pc' := 8) dX9_writesByte_5 fa_X9_466 hm.o rfl rfl ?_
  refine r_iload_n (pc' := 9) dX9_writesByte_8 rfl 1 rfl rfl ?_
  refine r_i2b (pc' := 10) dX9_writesByte_9 rfl ?_
  obtain ⟨g1, h⟩ := gd_e h
  refine r_bastore (pc' := 11) dX9_writesByte_10 hm.c21 g1 rfl ?_
  have h := lx_e h
  refine r_aload_n (pc' := 12) dX9_writesByte_11 rfl 0 rfl rfl ?_
  refine r_dup (pc' := 13) dX9_writesByte_12 rfl rfl ?_
  refine r_getI (pc' := 16) dX9_writesByte_13 fa_X9_466 hm.o rfl rfl ?_
  refine r_iconst (pc' := 17) (v := 1) dX9_writesByte_16 (by decide) rfl ?_
  refine r_iadd (pc' := 18) dX9_writesByte_17 rfl ?_
  refine r_putI (pc' := 21) dX9_writesByte_18 fa_X9_466 hm.o rfl rfl ?_
  have h := lx_e h
  cases h
  exact r_ret dX9_writesByte_21 rfl (by decide) (by decide) hQ
set_option maxHeartbeats 4000000 in
theorem fr_X9_writesByte {I : JI} {m : Nat} {x1 : Int32} {J : JI} {z : Nat} (h : s_X9_writesByte I m x1 = some J) (hz_m10 : z ≠ (m + 10)) (hz_m : z ≠ m) : J z = I z := by
  unfold s_X9_writesByte at h
  obtain ⟨g1, h⟩ := gd_e h
  have h := lx_e h
  have h := lx_e h
  cases h
  exact ((fr_stI (by omega)).trans ((fr_stI (by omega)).trans rfl))
set_option maxHeartbeats 4000000 in
theorem ff_X9_writesByte {I : JI} {m : Nat} {x1 : Int32} {J : JI} {k : Nat} (h : s_X9_writesByte I m x1 = some J) (hk22 : k ≠ 22) : J m k = I m k := by
  unfold s_X9_writesByte at h
  obtain ⟨g1, h⟩ := gd_e h
  have h := lx_e h
  have h := lx_e h
  cases h
  exact ((ff_stI hk22).trans ((congrFun (fr_stI (by omega)) k).trans rfl))
noncomputable def s_X9_writesNumber (I : JI) (m : Nat) (x1 : Int32) : Option (JI) :=
  if x1 ≤ 9 then (bd (s_X9_writesByte I m (48 + (x1 - x1 / 10 * 10))) fun I2 => some I2) else (bd (s_X9_writesByte I m (48 + (x1 / 10))) fun I3 => bd (s_X9_writesByte I3 m (48 + (x1 - x1 / 10 * 10))) fun I4 => some I4)
set_option maxHeartbeats 4000000 in
theorem c_X9_writesNumber {Ω : JO} {I : JI} {S : JS} {Q : JQ} {m : Nat} {x1 : Int32} {J : JI} (hm : Is9 S m) (h : s_X9_writesNumber I m x1 = some J) (hQ : Q (.inl none) J S) : Call Ω m_X9_writesNumber [.ref m, .int x1] I S Q := by
  refine call_of (by decide +kernel) rfl (Nat.le_of_ble_eq_true rfl) ?_
  change AA Ω m_X9_writesNumber (FQ Ω m_X9_writesNumber Q) 0 0 0 [(0, .ref m), (1, .int x1)] [] I S
  unfold s_X9_writesNumber at h
  refine r_iload_n (pc' := 1) dX9_writesNumber_0 rfl 1 rfl rfl ?_
  refine r_bipush (pc' := 3) (v := 9) dX9_writesNumber_1 (by decide) rfl ?_
  refine r_icmp_le (tgt := 17) (pc' := 6) dX9_writesNumber_3 rfl rfl (fun h1 => ?_) (fun h1 => ?_)
  · have h := ifp h1 h
    refine r_aload_n (pc' := 18) dX9_writesNumber_17 rfl 0 rfl rfl ?_
    refine r_bipush (pc' := 20) (v := 48) dX9_writesNumber_18 (by decide) rfl ?_
    refine r_iload_n (pc' := 21) dX9_writesNumber_20 rfl 1 rfl rfl ?_
    refine r_bipush (pc' := 23) (v := 10) dX9_writesNumber_21 (by decide) rfl ?_
    refine r_irem (pc' := 24) dX9_writesNumber_23 (by decide) rfl ?_
    refine r_iadd (pc' := 25) dX9_writesNumber_24 rfl ?_
    obtain ⟨I2, eI2, h⟩ := bd_e h
    refine r_callV1 (pc' := 28) (k' := 0) (n' := 0) dX9_writesNumber_25 mb_X9_writesByte mi_X9_writesByte hm.o (by decide) rfl lk_X9_469 rfl rfl rfl (Nat.le_of_ble_eq_true rfl) rfl (c_X9_writesByte hm eI2 (cpV ?_))
    cases h
    exact r_ret dX9_writesNumber_28 rfl (by decide) (by decide) hQ
  · have h := ifn h1 h
    refine r_aload_n (pc' := 7) dX9_writesNumber_6 rfl 0 rfl rfl ?_
    refine r_bipush (pc' := 9) (v := 48) dX9_writesNumber_7 (by decide) rfl ?_
    refine r_iload_n (pc' := 10) dX9_writesNumber_9 rfl 1 rfl rfl ?_
    refine r_bipush (pc' := 12) (v := 10) dX9_writesNumber_10 (by decide) rfl ?_
    refine r_idiv (pc' := 13) dX9_writesNumber_12 (by decide) rfl ?_
    refine r_iadd (pc' := 14) dX9_writesNumber_13 rfl ?_
    obtain ⟨I3, eI3, h⟩ := bd_e h
    refine r_callV1 (pc' := 17) (k' := 0) (n' := 0) dX9_writesNumber_14 mb_X9_writesByte mi_X9_writesByte hm.o (by decide) rfl lk_X9_469 rfl rfl rfl (Nat.le_of_ble_eq_true rfl) rfl (c_X9_writesByte hm eI3 (cpV ?_))
    refine r_aload_n (pc' := 18) dX9_writesNumber_17 rfl 0 rfl rfl ?_
    refine r_bipush (pc' := 20) (v := 48) dX9_writesNumber_18 (by decide) rfl ?_
    refine r_iload_n (pc' := 21) dX9_writesNumber_20 rfl 1 rfl rfl ?_
    refine r_bipush (pc' := 23) (v := 10) dX9_writesNumber_21 (by decide) rfl ?_
    refine r_irem (pc' := 24) dX9_writesNumber_23 (by decide) rfl ?_
    refine r_iadd (pc' := 25) dX9_writesNumber_24 rfl ?_
    obtain ⟨I4, eI4, h⟩ := bd_e h
    refine r_callV1 (pc' := 28) (k' := 0) (n' := 0) dX9_writesNumber_25 mb_X9_writesByte mi_X9_writesByte hm.o (by decide) rfl lk_X9_469 rfl rfl rfl (Nat.le_of_ble_eq_true rfl) rfl (c_X9_writesByte hm eI4 (cpV ?_))
    cases h
    exact r_ret dX9_writesNumber_28 rfl (by decide) (by decide) hQ
set_option maxHeartbeats 4000000 in
theorem fr_X9_writesNumber {I : JI} {m : Nat} {x1 : Int32} {J : JI} {z : Nat} (h : s_X9_writesNumber I m x1 = some J) (hz_m10 : z ≠ (m + 10)) (hz_m : z ≠ m) : J z = I z := by
  unfold s_X9_writesNumber at h
  rcases if_e h with h | h
  · obtain ⟨I2, e1, h⟩ := bd_e h
    cases h
    exact ((fr_X9_writesByte e1 (by omega) (by omega)).trans rfl)
  · obtain ⟨I3, e2, h⟩ := bd_e h
    obtain ⟨I4, e3, h⟩ := bd_e h
    cases h
    exact ((fr_X9_writesByte e3 (by omega) (by omega)).trans ((fr_X9_writesByte e2 (by omega) (by omega)).trans rfl))
set_option maxHeartbeats 4000000 in
theorem ff_X9_writesNumber {I : JI} {m : Nat} {x1 : Int32} {J : JI} {k : Nat} (h : s_X9_writesNumber I m x1 = some J) (hk22 : k ≠ 22) : J m k = I m k := by
  unfold s_X9_writesNumber at h
  rcases if_e h with h | h
  · obtain ⟨I2, e1, h⟩ := bd_e h
    cases h
    exact ((ff_X9_writesByte e1 hk22).trans rfl)
  · obtain ⟨I3, e2, h⟩ := bd_e h
    obtain ⟨I4, e3, h⟩ := bd_e h
    cases h
    exact ((ff_X9_writesByte e3 hk22).trans ((ff_X9_writesByte e2 hk22).trans rfl))
noncomputable def s_X9_writeRow_L17 (m : Nat) (q1 : Int32) : Nat → Int32 → JI → Option (Int32 × JI)
  | 0, _, _ => none
  | f + 1, w2, I => gd (vp_in 2 2030) <| if (I (m + 1) (Int32.toNatClampNeg 2)) ≤ w2 then (some (w2, I)) else (bd (s_X9_shows I m q1 w2) fun z7 => if z7 = true then (bd (s_X9_cellOf I m q1 w2) fun v11 => bd (s_X9_writesByte I m (65 + (v11 / 2))) fun I12 => s_X9_writeRow_L17 m q1 f (w2 + 1) I12) else (bd (s_X9_cellOf I m q1 w2) fun v9 => bd (s_X9_writesByte I m (97 + (v9 / 2))) fun I10 => s_X9_writeRow_L17 m q1 f (w2 + 1) I10))
noncomputable def s_X9_writeRow (I : JI) (m : Nat) (x1 : Int32) : Option (Int32 × JI) :=
  bd2 (s_X9_mayRow I m x1) fun z2 I1 => if z2 = true then (lx (stI I1 m 22 0) fun I4 => bd (s_X9_writeRow_L17 m x1 lf 0 I4) fun (y13, I14) => some ((I14 m 22), I14)) else (some (0, I1))
set_option maxHeartbeats 4000000 in
theorem l_X9_writeRow_L17 {Ω : JO} {S : JS} {Q : JQ} {m : Nat} {q1 : Int32} (hm : Is9 S m) : ∀ (f : Nat) (w2 : Int32) (I : JI) (o : (Int32 × JI)), s_X9_writeRow_L17 m q1 f w2 I = some o → True → (∀ (y2 : Int32) (J : JI) , o = (y2, J) → AA Ω m_X9_writeRow (FQ Ω m_X9_writeRow Q) 0 0 62 [(2, .int y2), (0, .ref m), (1, .int q1)] [] J S) → AA Ω m_X9_writeRow (FQ Ω m_X9_writeRow Q) 0 0 17 [(2, .int w2), (0, .ref m), (1, .int q1)] [] I S := by
  intro f
  induction f with
  | zero =>
    intro w2 I o h hR hE
    rw [s_X9_writeRow_L17] at h
    cases h
  | succ f ih =>
    intro w2 I o h hR hE
    rw [s_X9_writeRow_L17] at h
    refine r_iload_n (pc' := 18) dX9_writeRow_17 rfl 0 rfl rfl ?_
    refine r_aload_n (pc' := 19) dX9_writeRow_18 rfl 1 rfl rfl ?_
    refine r_getO (pc' := 22) dX9_writeRow_19 fa_X9_9 hm.o rfl hm.r1 rfl ?_
    refine r_iconst (pc' := 23) (v := 2) dX9_writeRow_22 (by decide) rfl ?_
    obtain ⟨g5, h⟩ := gd_e h
    refine r_iaload (pc' := 24) dX9_writeRow_23 hm.c1 g5 rfl ?_
    refine r_icmp_ge (tgt := 62) (pc' := 27) dX9_writeRow_24 rfl rfl (fun h6 => ?_) (fun h6 => ?_)
    · have h := ifp h6 h
      cases h
      exact hE _ _ rfl
    · have h := ifn h6 h
      refine r_aload_n (pc' := 28) dX9_writeRow_27 rfl 1 rfl rfl ?_
      refine r_aload_n (pc' := 29) dX9_writeRow_28 rfl 1 rfl rfl ?_
      refine r_iload_n (pc' := 30) dX9_writeRow_29 rfl 2 rfl rfl ?_
      refine r_iload_n (pc' := 31) dX9_writeRow_30 rfl 0 rfl rfl ?_
      obtain ⟨z7, ez7, h⟩ := bd_e h
      refine r_callV2 (pc' := 34) (k' := 0) (n' := 0) dX9_writeRow_31 mb_X9_shows mi_X9_shows hm.o (by decide) rfl lk_X9_340 rfl rfl rfl (Nat.le_of_ble_eq_true rfl) rfl (c_X9_shows hm ez7 (cpI ?_))
      refine r_if_eq (tgt := 42) (pc' := 37) dX9_writeRow_34 rfl rfl (fun h8 => ?_) (fun h8 => ?_)
      · have h := ifn (zb_n0 h8) h
        refine r_bipush (pc' := 44) (v := 97) dX9_writeRow_42 (by decide) rfl ?_
        refine r_aload_n (pc' := 45) dX9_writeRow_44 rfl 1 rfl rfl ?_
        refine r_iload_n (pc' := 46) dX9_writeRow_45 rfl 2 rfl rfl ?_
        refine r_iload_n (pc' := 47) dX9_writeRow_46 rfl 0 rfl rfl ?_
        obtain ⟨v9, ev9, h⟩ := bd_e h
        refine r_callV2 (pc' := 50) (k' := 0) (n' := 0) dX9_writeRow_47 mb_X9_cellOf mi_X9_cellOf hm.o (by decide) rfl lk_X9_375 rfl rfl rfl (Nat.le_of_ble_eq_true rfl) rfl (c_X9_cellOf hm ev9 (cpI ?_))
        refine r_iconst (pc' := 51) (v := 2) dX9_writeRow_50 (by decide) rfl ?_
        refine r_idiv (pc' := 52) dX9_writeRow_51 (by decide) rfl ?_
        refine r_iadd (pc' := 53) dX9_writeRow_52 rfl ?_
        obtain ⟨I10, eI10, h⟩ := bd_e h
        refine r_callV1 (pc' := 56) (k' := 0) (n' := 0) dX9_writeRow_53 mb_X9_writesByte mi_X9_writesByte hm.o (by decide) rfl lk_X9_469 rfl rfl rfl (Nat.le_of_ble_eq_true rfl) rfl (c_X9_writesByte hm eI10 (cpV ?_))
        refine r_iinc (pc' := 59) (v := _ + 1) (lv' := [(2, _), (0, _), (1, _)]) dX9_writeRow_56 0 rfl rfl (by decide) rfl rfl ?_
        refine r_goto (tgt := 17) dX9_writeRow_59 rfl ?_
        exact ih _ _ _ h hR hE
      · have h := ifp (zb_p0 h8) h
        refine r_bipush (pc' := 39) (v := 65) dX9_writeRow_37 (by decide) rfl ?_
        refine r_goto (tgt := 44) dX9_writeRow_39 rfl ?_
        refine r_aload_n (pc' := 45) dX9_writeRow_44 rfl 1 rfl rfl ?_
        refine r_iload_n (pc' := 46) dX9_writeRow_45 rfl 2 rfl rfl ?_
        refine r_iload_n (pc' := 47) dX9_writeRow_46 rfl 0 rfl rfl ?_
        obtain ⟨v11, ev11, h⟩ := bd_e h
        refine r_callV2 (pc' := 50) (k' := 0) (n' := 0) dX9_writeRow_47 mb_X9_cellOf mi_X9_cellOf hm.o (by decide) rfl lk_X9_375 rfl rfl rfl (Nat.le_of_ble_eq_true rfl) rfl (c_X9_cellOf hm ev11 (cpI ?_))
        refine r_iconst (pc' := 51) (v := 2) dX9_writeRow_50 (by decide) rfl ?_
        refine r_idiv (pc' := 52) dX9_writeRow_51 (by decide) rfl ?_
        refine r_iadd (pc' := 53) dX9_writeRow_52 rfl ?_
        obtain ⟨I12, eI12, h⟩ := bd_e h
        refine r_callV1 (pc' := 56) (k' := 0) (n' := 0) dX9_writeRow_53 mb_X9_writesByte mi_X9_writesByte hm.o (by decide) rfl lk_X9_469 rfl rfl rfl (Nat.le_of_ble_eq_true rfl) rfl (c_X9_writesByte hm eI12 (cpV ?_))
        refine r_iinc (pc' := 59) (v := _ + 1) (lv' := [(2, _), (0, _), (1, _)]) dX9_writeRow_56 0 rfl rfl (by decide) rfl rfl ?_
        refine r_goto (tgt := 17) dX9_writeRow_59 rfl ?_
        exact ih _ _ _ h hR hE
set_option maxHeartbeats 4000000 in
theorem c_X9_writeRow {Ω : JO} {I : JI} {S : JS} {Q : JQ} {m : Nat} {x1 : Int32} {r : Int32} {J : JI} (hm : Is9 S m) (h : s_X9_writeRow I m x1 = some (r, J)) (hQ : Q (.inl (some (.int r))) J S) : Call Ω m_X9_writeRow [.ref m, .int x1] I S Q := by
  refine call_of (by decide +kernel) rfl (Nat.le_of_ble_eq_true rfl) ?_
  change AA Ω m_X9_writeRow (FQ Ω m_X9_writeRow Q) 0 0 0 [(0, .ref m), (1, .int x1)] [] I S
  unfold s_X9_writeRow at h
  refine r_aload_n (pc' := 1) dX9_writeRow_0 rfl 0 rfl rfl ?_
  refine r_iload_n (pc' := 2) dX9_writeRow_1 rfl 1 rfl rfl ?_
  obtain ⟨z2, I1, ez2, h⟩ := bd2_e h
  refine r_callV1 (pc' := 5) (k' := 0) (n' := 0) dX9_writeRow_2 mb_X9_mayRow mi_X9_mayRow hm.o (by decide) rfl lk_X9_442 rfl rfl rfl (Nat.le_of_ble_eq_true rfl) rfl (c_X9_mayRow hm ez2 (cpI ?_))
  refine r_if_ne (tgt := 10) (pc' := 8) dX9_writeRow_5 rfl rfl (fun h3 => ?_) (fun h3 => ?_)
  · have h := ifp (zb_p0 h3) h
    refine r_aload_n (pc' := 11) dX9_writeRow_10 rfl 0 rfl rfl ?_
    refine r_iconst (pc' := 12) (v := 0) dX9_writeRow_11 (by decide) rfl ?_
    refine r_putI (pc' := 15) dX9_writeRow_12 fa_X9_466 hm.o rfl rfl ?_
    have h := lx_e h
    refine r_iconst (pc' := 16) (v := 0) dX9_writeRow_15 (by decide) rfl ?_
    refine r_istore_n (pc' := 17) (lv' := [(2, _), (0, _), (1, _)]) dX9_writeRow_16 rfl (by decide) rfl rfl ?_
    obtain ⟨o15, eo15, h⟩ := bd_e h
    refine l_X9_writeRow_L17 (Ω := Ω) hm _ _ _ _ eo15 trivial (fun y13 I14 q => ?_)
    subst q
    refine r_aload_n (pc' := 63) dX9_writeRow_62 rfl 1 rfl rfl ?_
    refine r_getI (pc' := 66) dX9_writeRow_63 fa_X9_466 hm.o rfl rfl ?_
    cases h
    exact r_iret dX9_writeRow_66 rfl (by decide) (by decide) hQ
  · have h := ifn (zb_n0 h3) h
    refine r_iconst (pc' := 9) (v := 0) dX9_writeRow_8 (by decide) rfl ?_
    cases h
    exact r_iret dX9_writeRow_9 rfl (by decide) (by decide) hQ
theorem frl_X9_writeRow_L17 {m : Nat} {q1 : Int32} {z : Nat} (hz_m10 : z ≠ (m + 10)) (hz_m : z ≠ m) : ∀ (f : Nat) (w2 : Int32) (I : JI) (o : (Int32 × JI)), s_X9_writeRow_L17 m q1 f w2 I = some o → (∀ (y2 : Int32) (J : JI), o = (y2, J) → J z = I z) := by
  intro f
  induction f with
  | zero =>
    intro w2 I o h
    rw [s_X9_writeRow_L17] at h
    cases h
  | succ f ih =>
    intro w2 I o h
    rw [s_X9_writeRow_L17] at h
    obtain ⟨g1, h⟩ := gd_e h
    rcases if_e h with h | h
    · cases h
      intro _ _ q
      cases q
      exact rfl
    · obtain ⟨o2, e2, h⟩ := bd_e h
      rcases if_e h with h | h
      · obtain ⟨o3, e3, h⟩ := bd_e h
        obtain ⟨I12, e4, h⟩ := bd_e h
        intro _ _ q
        exact ((ih _ _ _ h) _ _ q).trans ((fr_X9_writesByte e4 (by omega) (by omega)).trans rfl)
      · obtain ⟨o5, e5, h⟩ := bd_e h
        obtain ⟨I10, e6, h⟩ := bd_e h
        intro _ _ q
        exact ((ih _ _ _ h) _ _ q).trans ((fr_X9_writesByte e6 (by omega) (by omega)).trans rfl)
set_option maxHeartbeats 4000000 in
theorem fr_X9_writeRow {I : JI} {m : Nat} {x1 : Int32} {r : Int32} {J : JI} {z : Nat} (h : s_X9_writeRow I m x1 = some (r, J)) (hz_m10 : z ≠ (m + 10)) (hz_m : z ≠ m) : J z = I z := by
  unfold s_X9_writeRow at h
  obtain ⟨z2, I1, e1, h⟩ := bd2_e h
  rcases if_e h with h | h
  · have h := lx_e h
    obtain ⟨o2, e2, h⟩ := bd_e h
    obtain ⟨y13, I14⟩ := o2
    cases h
    exact (((frl_X9_writeRow_L17 hz_m10 hz_m _ _ _ _ e2) _ _ rfl).trans ((fr_stI (by omega)).trans ((fr_X9_mayRow e1 (by omega)).trans rfl)))
  · cases h
    exact ((fr_X9_mayRow e1 (by omega)).trans rfl)
theorem ffl_X9_writeRow_L17 {m : Nat} {q1 : Int32} {k : Nat} (hk0 : k ≠ 0) (hk22 : k ≠ 22) : ∀ (f : Nat) (w2 : Int32) (I : JI) (o : (Int32 × JI)), s_X9_writeRow_L17 m q1 f w2 I = some o → (∀ (y2 : Int32) (J : JI), o = (y2, J) → J m k = I m k) := by
  intro f
  induction f with
  | zero =>
    intro w2 I o h
    rw [s_X9_writeRow_L17] at h
    cases h
  | succ f ih =>
    intro w2 I o h
    rw [s_X9_writeRow_L17] at h
    obtain ⟨g1, h⟩ := gd_e h
    rcases if_e h with h | h
    · cases h
      intro _ _ q
      cases q
      exact rfl
    · obtain ⟨o2, e2, h⟩ := bd_e h
      rcases if_e h with h | h
      · obtain ⟨o3, e3, h⟩ := bd_e h
        obtain ⟨I12, e4, h⟩ := bd_e h
        intro _ _ q
        exact ((ih _ _ _ h) _ _ q).trans ((ff_X9_writesByte e4 hk22).trans rfl)
      · obtain ⟨o5, e5, h⟩ := bd_e h
        obtain ⟨I10, e6, h⟩ := bd_e h
        intro _ _ q
        exact ((ih _ _ _ h) _ _ q).trans ((ff_X9_writesByte e6 hk22).trans rfl)
set_option maxHeartbeats 4000000 in
theorem ff_X9_writeRow {I : JI} {m : Nat} {x1 : Int32} {r : Int32} {J : JI} {k : Nat} (h : s_X9_writeRow I m x1 = some (r, J)) (hk0 : k ≠ 0) (hk22 : k ≠ 22) : J m k = I m k := by
  unfold s_X9_writeRow at h
  obtain ⟨z2, I1, e1, h⟩ := bd2_e h
  rcases if_e h with h | h
  · have h := lx_e h
    obtain ⟨o2, e2, h⟩ := bd_e h
    obtain ⟨y13, I14⟩ := o2
    cases h
    exact (((ffl_X9_writeRow_L17 hk0 hk22 _ _ _ _ e2) _ _ rfl).trans ((ff_stI hk22).trans ((ff_X9_mayRow e1 hk0).trans rfl)))
  · cases h
    exact ((ff_X9_mayRow e1 hk0).trans rfl)
noncomputable def s_X9_writeCard_L17 (m : Nat) (q1 : Int32) : Nat → Int32 → JI → Option (Int32 × JI)
  | 0, _, _ => none
  | f + 1, w2, I => gd (vp_in 0 2030) <| if (I (m + 1) (Int32.toNatClampNeg 0)) ≤ w2 then (some (w2, I)) else (bd (s_X9_ofCard I m q1 0) fun v7 => if (s_X9_has v7 w2) = true then (bd (s_X9_writesByte I m 111) fun I10 => s_X9_writeCard_L17 m q1 f (w2 + 1) I10) else (bd (s_X9_writesByte I m 46) fun I9 => s_X9_writeCard_L17 m q1 f (w2 + 1) I9))
noncomputable def s_X9_writeCard (I : JI) (m : Nat) (x1 : Int32) : Option (Int32 × JI) :=
  bd2 (s_X9_mayCard I m x1) fun z2 I1 => if z2 = true then (lx (stI I1 m 22 0) fun I4 => bd (s_X9_writeCard_L17 m x1 lf 0 I4) fun (y11, I12) => bd (s_X9_writesByte I12 m 32) fun I14 => bd (s_X9_ofCard I14 m x1 1) fun v15 => bd (s_X9_writesByte I14 m (97 + v15)) fun I16 => some ((I16 m 22), I16)) else (some (0, I1))
set_option maxHeartbeats 4000000 in
theorem l_X9_writeCard_L17 {Ω : JO} {S : JS} {Q : JQ} {m : Nat} {q1 : Int32} (hm : Is9 S m) : ∀ (f : Nat) (w2 : Int32) (I : JI) (o : (Int32 × JI)), s_X9_writeCard_L17 m q1 f w2 I = some o → True → (∀ (y2 : Int32) (J : JI) , o = (y2, J) → AA Ω m_X9_writeCard (FQ Ω m_X9_writeCard Q) 0 0 57 [(2, .int y2), (0, .ref m), (1, .int q1)] [] J S) → AA Ω m_X9_writeCard (FQ Ω m_X9_writeCard Q) 0 0 17 [(2, .int w2), (0, .ref m), (1, .int q1)] [] I S := by
  intro f
  induction f with
  | zero =>
    intro w2 I o h hR hE
    rw [s_X9_writeCard_L17] at h
    cases h
  | succ f ih =>
    intro w2 I o h hR hE
    rw [s_X9_writeCard_L17] at h
    refine r_iload_n (pc' := 18) dX9_writeCard_17 rfl 0 rfl rfl ?_
    refine r_aload_n (pc' := 19) dX9_writeCard_18 rfl 1 rfl rfl ?_
    refine r_getO (pc' := 22) dX9_writeCard_19 fa_X9_9 hm.o rfl hm.r1 rfl ?_
    refine r_iconst (pc' := 23) (v := 0) dX9_writeCard_22 (by decide) rfl ?_
    obtain ⟨g5, h⟩ := gd_e h
    refine r_iaload (pc' := 24) dX9_writeCard_23 hm.c1 g5 rfl ?_
    refine r_icmp_ge (tgt := 57) (pc' := 27) dX9_writeCard_24 rfl rfl (fun h6 => ?_) (fun h6 => ?_)
    · have h := ifp h6 h
      cases h
      exact hE _ _ rfl
    · have h := ifn h6 h
      refine r_aload_n (pc' := 28) dX9_writeCard_27 rfl 1 rfl rfl ?_
      refine r_aload_n (pc' := 29) dX9_writeCard_28 rfl 1 rfl rfl ?_
      refine r_iload_n (pc' := 30) dX9_writeCard_29 rfl 2 rfl rfl ?_
      refine r_iconst (pc' := 31) (v := 0) dX9_writeCard_30 (by decide) rfl ?_
      obtain ⟨v7, ev7, h⟩ := bd_e h
      refine r_callV2 (pc' := 34) (k' := 0) (n' := 0) dX9_writeCard_31 mb_X9_ofCard mi_X9_ofCard hm.o (by decide) rfl lk_X9_232 rfl rfl rfl (Nat.le_of_ble_eq_true rfl) rfl (c_X9_ofCard hm ev7 (cpI ?_))
      refine r_iload_n (pc' := 35) dX9_writeCard_34 rfl 0 rfl rfl ?_
      refine r_callS2 (pc' := 38) (k' := 0) (n' := 0) dX9_writeCard_35 mb_X9_has ms_X9_has lk_X9_147 rfl rfl rfl (Nat.le_of_ble_eq_true rfl) rfl (c_X9_has rfl (cpI ?_))
      refine r_if_eq (tgt := 46) (pc' := 41) dX9_writeCard_38 rfl rfl (fun h8 => ?_) (fun h8 => ?_)
      · have h := ifn (zb_n0 h8) h
        refine r_bipush (pc' := 48) (v := 46) dX9_writeCard_46 (by decide) rfl ?_
        obtain ⟨I9, eI9, h⟩ := bd_e h
        refine r_callV1 (pc' := 51) (k' := 0) (n' := 0) dX9_writeCard_48 mb_X9_writesByte mi_X9_writesByte hm.o (by decide) rfl lk_X9_469 rfl rfl rfl (Nat.le_of_ble_eq_true rfl) rfl (c_X9_writesByte hm eI9 (cpV ?_))
        refine r_iinc (pc' := 54) (v := _ + 1) (lv' := [(2, _), (0, _), (1, _)]) dX9_writeCard_51 0 rfl rfl (by decide) rfl rfl ?_
        refine r_goto (tgt := 17) dX9_writeCard_54 rfl ?_
        exact ih _ _ _ h hR hE
      · have h := ifp (zb_p0 h8) h
        refine r_bipush (pc' := 43) (v := 111) dX9_writeCard_41 (by decide) rfl ?_
        refine r_goto (tgt := 48) dX9_writeCard_43 rfl ?_
        obtain ⟨I10, eI10, h⟩ := bd_e h
        refine r_callV1 (pc' := 51) (k' := 0) (n' := 0) dX9_writeCard_48 mb_X9_writesByte mi_X9_writesByte hm.o (by decide) rfl lk_X9_469 rfl rfl rfl (Nat.le_of_ble_eq_true rfl) rfl (c_X9_writesByte hm eI10 (cpV ?_))
        refine r_iinc (pc' := 54) (v := _ + 1) (lv' := [(2, _), (0, _), (1, _)]) dX9_writeCard_51 0 rfl rfl (by decide) rfl rfl ?_
        refine r_goto (tgt := 17) dX9_writeCard_54 rfl ?_
        exact ih _ _ _ h hR hE
set_option maxHeartbeats 4000000 in
theorem c_X9_writeCard {Ω : JO} {I : JI} {S : JS} {Q : JQ} {m : Nat} {x1 : Int32} {r : Int32} {J : JI} (hm : Is9 S m) (h : s_X9_writeCard I m x1 = some (r, J)) (hQ : Q (.inl (some (.int r))) J S) : Call Ω m_X9_writeCard [.ref m, .int x1] I S Q := by
  refine call_of (by decide +kernel) rfl (Nat.le_of_ble_eq_true rfl) ?_
  change AA Ω m_X9_writeCard (FQ Ω m_X9_writeCard Q) 0 0 0 [(0, .ref m), (1, .int x1)] [] I S
  unfold s_X9_writeCard at h
  refine r_aload_n (pc' := 1) dX9_writeCard_0 rfl 0 rfl rfl ?_
  refine r_iload_n (pc' := 2) dX9_writeCard_1 rfl 1 rfl rfl ?_
  obtain ⟨z2, I1, ez2, h⟩ := bd2_e h
  refine r_callV1 (pc' := 5) (k' := 0) (n' := 0) dX9_writeCard_2 mb_X9_mayCard mi_X9_mayCard hm.o (by decide) rfl lk_X9_424 rfl rfl rfl (Nat.le_of_ble_eq_true rfl) rfl (c_X9_mayCard hm ez2 (cpI ?_))
  refine r_if_ne (tgt := 10) (pc' := 8) dX9_writeCard_5 rfl rfl (fun h3 => ?_) (fun h3 => ?_)
  · have h := ifp (zb_p0 h3) h
    refine r_aload_n (pc' := 11) dX9_writeCard_10 rfl 0 rfl rfl ?_
    refine r_iconst (pc' := 12) (v := 0) dX9_writeCard_11 (by decide) rfl ?_
    refine r_putI (pc' := 15) dX9_writeCard_12 fa_X9_466 hm.o rfl rfl ?_
    have h := lx_e h
    refine r_iconst (pc' := 16) (v := 0) dX9_writeCard_15 (by decide) rfl ?_
    refine r_istore_n (pc' := 17) (lv' := [(2, _), (0, _), (1, _)]) dX9_writeCard_16 rfl (by decide) rfl rfl ?_
    obtain ⟨o13, eo13, h⟩ := bd_e h
    refine l_X9_writeCard_L17 (Ω := Ω) hm _ _ _ _ eo13 trivial (fun y11 I12 q => ?_)
    subst q
    refine r_aload_n (pc' := 58) dX9_writeCard_57 rfl 1 rfl rfl ?_
    refine r_bipush (pc' := 60) (v := 32) dX9_writeCard_58 (by decide) rfl ?_
    obtain ⟨I14, eI14, h⟩ := bd_e h
    refine r_callV1 (pc' := 63) (k' := 0) (n' := 0) dX9_writeCard_60 mb_X9_writesByte mi_X9_writesByte hm.o (by decide) rfl lk_X9_469 rfl rfl rfl (Nat.le_of_ble_eq_true rfl) rfl (c_X9_writesByte hm eI14 (cpV ?_))
    refine r_aload_n (pc' := 64) dX9_writeCard_63 rfl 1 rfl rfl ?_
    refine r_bipush (pc' := 66) (v := 97) dX9_writeCard_64 (by decide) rfl ?_
    refine r_aload_n (pc' := 67) dX9_writeCard_66 rfl 1 rfl rfl ?_
    refine r_iload_n (pc' := 68) dX9_writeCard_67 rfl 2 rfl rfl ?_
    refine r_iconst (pc' := 69) (v := 1) dX9_writeCard_68 (by decide) rfl ?_
    obtain ⟨v15, ev15, h⟩ := bd_e h
    refine r_callV2 (pc' := 72) (k' := 0) (n' := 0) dX9_writeCard_69 mb_X9_ofCard mi_X9_ofCard hm.o (by decide) rfl lk_X9_232 rfl rfl rfl (Nat.le_of_ble_eq_true rfl) rfl (c_X9_ofCard hm ev15 (cpI ?_))
    refine r_iadd (pc' := 73) dX9_writeCard_72 rfl ?_
    obtain ⟨I16, eI16, h⟩ := bd_e h
    refine r_callV1 (pc' := 76) (k' := 0) (n' := 0) dX9_writeCard_73 mb_X9_writesByte mi_X9_writesByte hm.o (by decide) rfl lk_X9_469 rfl rfl rfl (Nat.le_of_ble_eq_true rfl) rfl (c_X9_writesByte hm eI16 (cpV ?_))
    refine r_aload_n (pc' := 77) dX9_writeCard_76 rfl 1 rfl rfl ?_
    refine r_getI (pc' := 80) dX9_writeCard_77 fa_X9_466 hm.o rfl rfl ?_
    cases h
    exact r_iret dX9_writeCard_80 rfl (by decide) (by decide) hQ
  · have h := ifn (zb_n0 h3) h
    refine r_iconst (pc' := 9) (v := 0) dX9_writeCard_8 (by decide) rfl ?_
    cases h
    exact r_iret dX9_writeCard_9 rfl (by decide) (by decide) hQ
theorem frl_X9_writeCard_L17 {m : Nat} {q1 : Int32} {z : Nat} (hz_m10 : z ≠ (m + 10)) (hz_m : z ≠ m) : ∀ (f : Nat) (w2 : Int32) (I : JI) (o : (Int32 × JI)), s_X9_writeCard_L17 m q1 f w2 I = some o → (∀ (y2 : Int32) (J : JI), o = (y2, J) → J z = I z) := by
  intro f
  induction f with
  | zero =>
    intro w2 I o h
    rw [s_X9_writeCard_L17] at h
    cases h
  | succ f ih =>
    intro w2 I o h
    rw [s_X9_writeCard_L17] at h
    obtain ⟨g1, h⟩ := gd_e h
    rcases if_e h with h | h
    · cases h
      intro _ _ q
      cases q
      exact rfl
    · obtain ⟨o2, e2, h⟩ := bd_e h
      rcases if_e h with h | h
      · obtain ⟨I10, e3, h⟩ := bd_e h
        intro _ _ q
        exact ((ih _ _ _ h) _ _ q).trans ((fr_X9_writesByte e3 (by omega) (by omega)).trans rfl)
      · obtain ⟨I9, e4, h⟩ := bd_e h
        intro _ _ q
        exact ((ih _ _ _ h) _ _ q).trans ((fr_X9_writesByte e4 (by omega) (by omega)).trans rfl)
set_option maxHeartbeats 4000000 in
theorem fr_X9_writeCard {I : JI} {m : Nat} {x1 : Int32} {r : Int32} {J : JI} {z : Nat} (h : s_X9_writeCard I m x1 = some (r, J)) (hz_m10 : z ≠ (m + 10)) (hz_m : z ≠ m) : J z = I z := by
  unfold s_X9_writeCard at h
  obtain ⟨z2, I1, e1, h⟩ := bd2_e h
  rcases if_e h with h | h
  · have h := lx_e h
    obtain ⟨o2, e2, h⟩ := bd_e h
    obtain ⟨y11, I12⟩ := o2
    obtain ⟨I14, e3, h⟩ := bd_e h
    obtain ⟨o4, e4, h⟩ := bd_e h
    obtain ⟨I16, e5, h⟩ := bd_e h
    cases h
    exact ((fr_X9_writesByte e5 (by omega) (by omega)).trans ((fr_X9_writesByte e3 (by omega) (by omega)).trans (((frl_X9_writeCard_L17 hz_m10 hz_m _ _ _ _ e2) _ _ rfl).trans ((fr_stI (by omega)).trans ((fr_X9_mayCard e1 (by omega)).trans rfl)))))
  · cases h
    exact ((fr_X9_mayCard e1 (by omega)).trans rfl)
theorem ffl_X9_writeCard_L17 {m : Nat} {q1 : Int32} {k : Nat} (hk0 : k ≠ 0) (hk22 : k ≠ 22) : ∀ (f : Nat) (w2 : Int32) (I : JI) (o : (Int32 × JI)), s_X9_writeCard_L17 m q1 f w2 I = some o → (∀ (y2 : Int32) (J : JI), o = (y2, J) → J m k = I m k) := by
  intro f
  induction f with
  | zero =>
    intro w2 I o h
    rw [s_X9_writeCard_L17] at h
    cases h
  | succ f ih =>
    intro w2 I o h
    rw [s_X9_writeCard_L17] at h
    obtain ⟨g1, h⟩ := gd_e h
    rcases if_e h with h | h
    · cases h
      intro _ _ q
      cases q
      exact rfl
    · obtain ⟨o2, e2, h⟩ := bd_e h
      rcases if_e h with h | h
      · obtain ⟨I10, e3, h⟩ := bd_e h
        intro _ _ q
        exact ((ih _ _ _ h) _ _ q).trans ((ff_X9_writesByte e3 hk22).trans rfl)
      · obtain ⟨I9, e4, h⟩ := bd_e h
        intro _ _ q
        exact ((ih _ _ _ h) _ _ q).trans ((ff_X9_writesByte e4 hk22).trans rfl)
set_option maxHeartbeats 4000000 in
theorem ff_X9_writeCard {I : JI} {m : Nat} {x1 : Int32} {r : Int32} {J : JI} {k : Nat} (h : s_X9_writeCard I m x1 = some (r, J)) (hk0 : k ≠ 0) (hk22 : k ≠ 22) : J m k = I m k := by
  unfold s_X9_writeCard at h
  obtain ⟨z2, I1, e1, h⟩ := bd2_e h
  rcases if_e h with h | h
  · have h := lx_e h
    obtain ⟨o2, e2, h⟩ := bd_e h
    obtain ⟨y11, I12⟩ := o2
    obtain ⟨I14, e3, h⟩ := bd_e h
    obtain ⟨o4, e4, h⟩ := bd_e h
    obtain ⟨I16, e5, h⟩ := bd_e h
    cases h
    exact ((ff_X9_writesByte e5 hk22).trans ((ff_X9_writesByte e3 hk22).trans (((ffl_X9_writeCard_L17 hk0 hk22 _ _ _ _ e2) _ _ rfl).trans ((ff_stI hk22).trans ((ff_X9_mayCard e1 hk0).trans rfl)))))
  · cases h
    exact ((ff_X9_mayCard e1 hk0).trans rfl)
noncomputable def s_X9_writesPart (I : JI) (m : Nat) (x1 : Int32) : Option (JI) :=
  if x1 = 300 then (bd (s_X9_writesByte I m 41) fun I21 => some I21) else (if 100 ≤ x1 then (if x1 = 200 then (bd (s_X9_writesByte I m 109) fun I15 => if 200 ≤ x1 then (bd (s_X9_writesByte I15 m 40) fun I17 => some I17) else (bd (s_X9_writesNumber I15 m (x1 - 100)) fun I18 => bd (s_X9_writesByte I18 m 40) fun I19 => some I19)) else (if x1 = 201 then (bd (s_X9_writesByte I m 98) fun I10 => if 200 ≤ x1 then (bd (s_X9_writesByte I10 m 40) fun I12 => some I12) else (bd (s_X9_writesNumber I10 m (x1 - 100)) fun I13 => bd (s_X9_writesByte I13 m 40) fun I14 => some I14)) else (bd (s_X9_writesByte I m 114) fun I5 => if 200 ≤ x1 then (bd (s_X9_writesByte I5 m 40) fun I7 => some I7) else (bd (s_X9_writesNumber I5 m (x1 - 100)) fun I8 => bd (s_X9_writesByte I8 m 40) fun I9 => some I9)))) else (bd (s_X9_writesNumber I m x1) fun I20 => some I20))
set_option maxHeartbeats 4000000 in
theorem c_X9_writesPart {Ω : JO} {I : JI} {S : JS} {Q : JQ} {m : Nat} {x1 : Int32} {J : JI} (hm : Is9 S m) (h : s_X9_writesPart I m x1 = some J) (hQ : Q (.inl none) J S) : Call Ω m_X9_writesPart [.ref m, .int x1] I S Q := by
  refine call_of (by decide +kernel) rfl (Nat.le_of_ble_eq_true rfl) ?_
  change AA Ω m_X9_writesPart (FQ Ω m_X9_writesPart Q) 0 0 0 [(0, .ref m), (1, .int x1)] [] I S
  unfold s_X9_writesPart at h
  refine r_iload_n (pc' := 1) dX9_writesPart_0 rfl 1 rfl rfl ?_
  refine r_sipush (pc' := 4) (v := 300) dX9_writesPart_1 (by decide) rfl ?_
  refine r_icmp_ne (tgt := 14) (pc' := 7) dX9_writesPart_4 rfl rfl (fun h1 => ?_) (fun h1 => ?_)
  · have h := ifn h1 h
    refine r_iload_n (pc' := 15) dX9_writesPart_14 rfl 1 rfl rfl ?_
    refine r_bipush (pc' := 17) (v := 100) dX9_writesPart_15 (by decide) rfl ?_
    refine r_icmp_ge (tgt := 26) (pc' := 20) dX9_writesPart_17 rfl rfl (fun h2 => ?_) (fun h2 => ?_)
    · have h := ifp h2 h
      refine r_aload_n (pc' := 27) dX9_writesPart_26 rfl 0 rfl rfl ?_
      refine r_iload_n (pc' := 28) dX9_writesPart_27 rfl 1 rfl rfl ?_
      refine r_sipush (pc' := 31) (v := 200) dX9_writesPart_28 (by decide) rfl ?_
      refine r_icmp_ne (tgt := 39) (pc' := 34) dX9_writesPart_31 rfl rfl (fun h3 => ?_) (fun h3 => ?_)
      · have h := ifn h3 h
        refine r_iload_n (pc' := 40) dX9_writesPart_39 rfl 1 rfl rfl ?_
        refine r_sipush (pc' := 43) (v := 201) dX9_writesPart_40 (by decide) rfl ?_
        refine r_icmp_ne (tgt := 51) (pc' := 46) dX9_writesPart_43 rfl rfl (fun h4 => ?_) (fun h4 => ?_)
        · have h := ifn h4 h
          refine r_bipush (pc' := 53) (v := 114) dX9_writesPart_51 (by decide) rfl ?_
          obtain ⟨I5, eI5, h⟩ := bd_e h
          refine r_callV1 (pc' := 56) (k' := 0) (n' := 0) dX9_writesPart_53 mb_X9_writesByte mi_X9_writesByte hm.o (by decide) rfl lk_X9_469 rfl rfl rfl (Nat.le_of_ble_eq_true rfl) rfl (c_X9_writesByte hm eI5 (cpV ?_))
          refine r_iload_n (pc' := 57) dX9_writesPart_56 rfl 1 rfl rfl ?_
          refine r_sipush (pc' := 60) (v := 200) dX9_writesPart_57 (by decide) rfl ?_
          refine r_icmp_ge (tgt := 71) (pc' := 63) dX9_writesPart_60 rfl rfl (fun h6 => ?_) (fun h6 => ?_)
          · have h := ifp h6 h
            refine r_aload_n (pc' := 72) dX9_writesPart_71 rfl 0 rfl rfl ?_
            refine r_bipush (pc' := 74) (v := 40) dX9_writesPart_72 (by decide) rfl ?_
            obtain ⟨I7, eI7, h⟩ := bd_e h
            refine r_callV1 (pc' := 77) (k' := 0) (n' := 0) dX9_writesPart_74 mb_X9_writesByte mi_X9_writesByte hm.o (by decide) rfl lk_X9_469 rfl rfl rfl (Nat.le_of_ble_eq_true rfl) rfl (c_X9_writesByte hm eI7 (cpV ?_))
            cases h
            exact r_ret dX9_writesPart_77 rfl (by decide) (by decide) hQ
          · have h := ifn h6 h
            refine r_aload_n (pc' := 64) dX9_writesPart_63 rfl 0 rfl rfl ?_
            refine r_iload_n (pc' := 65) dX9_writesPart_64 rfl 1 rfl rfl ?_
            refine r_bipush (pc' := 67) (v := 100) dX9_writesPart_65 (by decide) rfl ?_
            refine r_isub (pc' := 68) dX9_writesPart_67 rfl ?_
            obtain ⟨I8, eI8, h⟩ := bd_e h
            refine r_callV1 (pc' := 71) (k' := 0) (n' := 0) dX9_writesPart_68 mb_X9_writesNumber mi_X9_writesNumber hm.o (by decide) rfl lk_X9_472 rfl rfl rfl (Nat.le_of_ble_eq_true rfl) rfl (c_X9_writesNumber hm eI8 (cpV ?_))
            refine r_aload_n (pc' := 72) dX9_writesPart_71 rfl 0 rfl rfl ?_
            refine r_bipush (pc' := 74) (v := 40) dX9_writesPart_72 (by decide) rfl ?_
            obtain ⟨I9, eI9, h⟩ := bd_e h
            refine r_callV1 (pc' := 77) (k' := 0) (n' := 0) dX9_writesPart_74 mb_X9_writesByte mi_X9_writesByte hm.o (by decide) rfl lk_X9_469 rfl rfl rfl (Nat.le_of_ble_eq_true rfl) rfl (c_X9_writesByte hm eI9 (cpV ?_))
            cases h
            exact r_ret dX9_writesPart_77 rfl (by decide) (by decide) hQ
        · have h := ifp h4 h
          refine r_bipush (pc' := 48) (v := 98) dX9_writesPart_46 (by decide) rfl ?_
          refine r_goto (tgt := 53) dX9_writesPart_48 rfl ?_
          obtain ⟨I10, eI10, h⟩ := bd_e h
          refine r_callV1 (pc' := 56) (k' := 0) (n' := 0) dX9_writesPart_53 mb_X9_writesByte mi_X9_writesByte hm.o (by decide) rfl lk_X9_469 rfl rfl rfl (Nat.le_of_ble_eq_true rfl) rfl (c_X9_writesByte hm eI10 (cpV ?_))
          refine r_iload_n (pc' := 57) dX9_writesPart_56 rfl 1 rfl rfl ?_
          refine r_sipush (pc' := 60) (v := 200) dX9_writesPart_57 (by decide) rfl ?_
          refine r_icmp_ge (tgt := 71) (pc' := 63) dX9_writesPart_60 rfl rfl (fun h11 => ?_) (fun h11 => ?_)
          · have h := ifp h11 h
            refine r_aload_n (pc' := 72) dX9_writesPart_71 rfl 0 rfl rfl ?_
            refine r_bipush (pc' := 74) (v := 40) dX9_writesPart_72 (by decide) rfl ?_
            obtain ⟨I12, eI12, h⟩ := bd_e h
            refine r_callV1 (pc' := 77) (k' := 0) (n' := 0) dX9_writesPart_74 mb_X9_writesByte mi_X9_writesByte hm.o (by decide) rfl lk_X9_469 rfl rfl rfl (Nat.le_of_ble_eq_true rfl) rfl (c_X9_writesByte hm eI12 (cpV ?_))
            cases h
            exact r_ret dX9_writesPart_77 rfl (by decide) (by decide) hQ
          · have h := ifn h11 h
            refine r_aload_n (pc' := 64) dX9_writesPart_63 rfl 0 rfl rfl ?_
            refine r_iload_n (pc' := 65) dX9_writesPart_64 rfl 1 rfl rfl ?_
            refine r_bipush (pc' := 67) (v := 100) dX9_writesPart_65 (by decide) rfl ?_
            refine r_isub (pc' := 68) dX9_writesPart_67 rfl ?_
            obtain ⟨I13, eI13, h⟩ := bd_e h
            refine r_callV1 (pc' := 71) (k' := 0) (n' := 0) dX9_writesPart_68 mb_X9_writesNumber mi_X9_writesNumber hm.o (by decide) rfl lk_X9_472 rfl rfl rfl (Nat.le_of_ble_eq_true rfl) rfl (c_X9_writesNumber hm eI13 (cpV ?_))
            refine r_aload_n (pc' := 72) dX9_writesPart_71 rfl 0 rfl rfl ?_
            refine r_bipush (pc' := 74) (v := 40) dX9_writesPart_72 (by decide) rfl ?_
            obtain ⟨I14, eI14, h⟩ := bd_e h
            refine r_callV1 (pc' := 77) (k' := 0) (n' := 0) dX9_writesPart_74 mb_X9_writesByte mi_X9_writesByte hm.o (by decide) rfl lk_X9_469 rfl rfl rfl (Nat.le_of_ble_eq_true rfl) rfl (c_X9_writesByte hm eI14 (cpV ?_))
            cases h
            exact r_ret dX9_writesPart_77 rfl (by decide) (by decide) hQ
      · have h := ifp h3 h
        refine r_bipush (pc' := 36) (v := 109) dX9_writesPart_34 (by decide) rfl ?_
        refine r_goto (tgt := 53) dX9_writesPart_36 rfl ?_
        obtain ⟨I15, eI15, h⟩ := bd_e h
        refine r_callV1 (pc' := 56) (k' := 0) (n' := 0) dX9_writesPart_53 mb_X9_writesByte mi_X9_writesByte hm.o (by decide) rfl lk_X9_469 rfl rfl rfl (Nat.le_of_ble_eq_true rfl) rfl (c_X9_writesByte hm eI15 (cpV ?_))
        refine r_iload_n (pc' := 57) dX9_writesPart_56 rfl 1 rfl rfl ?_
        refine r_sipush (pc' := 60) (v := 200) dX9_writesPart_57 (by decide) rfl ?_
        refine r_icmp_ge (tgt := 71) (pc' := 63) dX9_writesPart_60 rfl rfl (fun h16 => ?_) (fun h16 => ?_)
        · have h := ifp h16 h
          refine r_aload_n (pc' := 72) dX9_writesPart_71 rfl 0 rfl rfl ?_
          refine r_bipush (pc' := 74) (v := 40) dX9_writesPart_72 (by decide) rfl ?_
          obtain ⟨I17, eI17, h⟩ := bd_e h
          refine r_callV1 (pc' := 77) (k' := 0) (n' := 0) dX9_writesPart_74 mb_X9_writesByte mi_X9_writesByte hm.o (by decide) rfl lk_X9_469 rfl rfl rfl (Nat.le_of_ble_eq_true rfl) rfl (c_X9_writesByte hm eI17 (cpV ?_))
          cases h
          exact r_ret dX9_writesPart_77 rfl (by decide) (by decide) hQ
        · have h := ifn h16 h
          refine r_aload_n (pc' := 64) dX9_writesPart_63 rfl 0 rfl rfl ?_
          refine r_iload_n (pc' := 65) dX9_writesPart_64 rfl 1 rfl rfl ?_
          refine r_bipush (pc' := 67) (v := 100) dX9_writesPart_65 (by decide) rfl ?_
          refine r_isub (pc' := 68) dX9_writesPart_67 rfl ?_
          obtain ⟨I18, eI18, h⟩ := bd_e h
          refine r_callV1 (pc' := 71) (k' := 0) (n' := 0) dX9_writesPart_68 mb_X9_writesNumber mi_X9_writesNumber hm.o (by decide) rfl lk_X9_472 rfl rfl rfl (Nat.le_of_ble_eq_true rfl) rfl (c_X9_writesNumber hm eI18 (cpV ?_))
          refine r_aload_n (pc' := 72) dX9_writesPart_71 rfl 0 rfl rfl ?_
          refine r_bipush (pc' := 74) (v := 40) dX9_writesPart_72 (by decide) rfl ?_
          obtain ⟨I19, eI19, h⟩ := bd_e h
          refine r_callV1 (pc' := 77) (k' := 0) (n' := 0) dX9_writesPart_74 mb_X9_writesByte mi_X9_writesByte hm.o (by decide) rfl lk_X9_469 rfl rfl rfl (Nat.le_of_ble_eq_true rfl) rfl (c_X9_writesByte hm eI19 (cpV ?_))
          cases h
          exact r_ret dX9_writesPart_77 rfl (by decide) (by decide) hQ
    · have h := ifn h2 h
      refine r_aload_n (pc' := 21) dX9_writesPart_20 rfl 0 rfl rfl ?_
      refine r_iload_n (pc' := 22) dX9_writesPart_21 rfl 1 rfl rfl ?_
      obtain ⟨I20, eI20, h⟩ := bd_e h
      refine r_callV1 (pc' := 25) (k' := 0) (n' := 0) dX9_writesPart_22 mb_X9_writesNumber mi_X9_writesNumber hm.o (by decide) rfl lk_X9_472 rfl rfl rfl (Nat.le_of_ble_eq_true rfl) rfl (c_X9_writesNumber hm eI20 (cpV ?_))
      cases h
      exact r_ret dX9_writesPart_25 rfl (by decide) (by decide) hQ
  · have h := ifp h1 h
    refine r_aload_n (pc' := 8) dX9_writesPart_7 rfl 0 rfl rfl ?_
    refine r_bipush (pc' := 10) (v := 41) dX9_writesPart_8 (by decide) rfl ?_
    obtain ⟨I21, eI21, h⟩ := bd_e h
    refine r_callV1 (pc' := 13) (k' := 0) (n' := 0) dX9_writesPart_10 mb_X9_writesByte mi_X9_writesByte hm.o (by decide) rfl lk_X9_469 rfl rfl rfl (Nat.le_of_ble_eq_true rfl) rfl (c_X9_writesByte hm eI21 (cpV ?_))
    cases h
    exact r_ret dX9_writesPart_13 rfl (by decide) (by decide) hQ
set_option maxHeartbeats 4000000 in
theorem fr_X9_writesPart {I : JI} {m : Nat} {x1 : Int32} {J : JI} {z : Nat} (h : s_X9_writesPart I m x1 = some J) (hz_m10 : z ≠ (m + 10)) (hz_m : z ≠ m) : J z = I z := by
  unfold s_X9_writesPart at h
  rcases if_e h with h | h
  · obtain ⟨I21, e1, h⟩ := bd_e h
    cases h
    exact ((fr_X9_writesByte e1 (by omega) (by omega)).trans rfl)
  · rcases if_e h with h | h
    · rcases if_e h with h | h
      · obtain ⟨I15, e2, h⟩ := bd_e h
        rcases if_e h with h | h
        · obtain ⟨I17, e3, h⟩ := bd_e h
          cases h
          exact ((fr_X9_writesByte e3 (by omega) (by omega)).trans ((fr_X9_writesByte e2 (by omega) (by omega)).trans rfl))
        · obtain ⟨I18, e4, h⟩ := bd_e h
          obtain ⟨I19, e5, h⟩ := bd_e h
          cases h
          exact ((fr_X9_writesByte e5 (by omega) (by omega)).trans ((fr_X9_writesNumber e4 (by omega) (by omega)).trans ((fr_X9_writesByte e2 (by omega) (by omega)).trans rfl)))
      · rcases if_e h with h | h
        · obtain ⟨I10, e6, h⟩ := bd_e h
          rcases if_e h with h | h
          · obtain ⟨I12, e7, h⟩ := bd_e h
            cases h
            exact ((fr_X9_writesByte e7 (by omega) (by omega)).trans ((fr_X9_writesByte e6 (by omega) (by omega)).trans rfl))
          · obtain ⟨I13, e8, h⟩ := bd_e h
            obtain ⟨I14, e9, h⟩ := bd_e h
            cases h
            exact ((fr_X9_writesByte e9 (by omega) (by omega)).trans ((fr_X9_writesNumber e8 (by omega) (by omega)).trans ((fr_X9_writesByte e6 (by omega) (by omega)).trans rfl)))
        · obtain ⟨I5, e10, h⟩ := bd_e h
          rcases if_e h with h | h
          · obtain ⟨I7, e11, h⟩ := bd_e h
            cases h
            exact ((fr_X9_writesByte e11 (by omega) (by omega)).trans ((fr_X9_writesByte e10 (by omega) (by omega)).trans rfl))
          · obtain ⟨I8, e12, h⟩ := bd_e h
            obtain ⟨I9, e13, h⟩ := bd_e h
            cases h
            exact ((fr_X9_writesByte e13 (by omega) (by omega)).trans ((fr_X9_writesNumber e12 (by omega) (by omega)).trans ((fr_X9_writesByte e10 (by omega) (by omega)).trans rfl)))
    · obtain ⟨I20, e14, h⟩ := bd_e h
      cases h
      exact ((fr_X9_writesNumber e14 (by omega) (by omega)).trans rfl)
set_option maxHeartbeats 4000000 in
theorem ff_X9_writesPart {I : JI} {m : Nat} {x1 : Int32} {J : JI} {k : Nat} (h : s_X9_writesPart I m x1 = some J) (hk22 : k ≠ 22) : J m k = I m k := by
  unfold s_X9_writesPart at h
  rcases if_e h with h | h
  · obtain ⟨I21, e1, h⟩ := bd_e h
    cases h
    exact ((ff_X9_writesByte e1 hk22).trans rfl)
  · rcases if_e h with h | h
    · rcases if_e h with h | h
      · obtain ⟨I15, e2, h⟩ := bd_e h
        rcases if_e h with h | h
        · obtain ⟨I17, e3, h⟩ := bd_e h
          cases h
          exact ((ff_X9_writesByte e3 hk22).trans ((ff_X9_writesByte e2 hk22).trans rfl))
        · obtain ⟨I18, e4, h⟩ := bd_e h
          obtain ⟨I19, e5, h⟩ := bd_e h
          cases h
          exact ((ff_X9_writesByte e5 hk22).trans ((ff_X9_writesNumber e4 hk22).trans ((ff_X9_writesByte e2 hk22).trans rfl)))
      · rcases if_e h with h | h
        · obtain ⟨I10, e6, h⟩ := bd_e h
          rcases if_e h with h | h
          · obtain ⟨I12, e7, h⟩ := bd_e h
            cases h
            exact ((ff_X9_writesByte e7 hk22).trans ((ff_X9_writesByte e6 hk22).trans rfl))
          · obtain ⟨I13, e8, h⟩ := bd_e h
            obtain ⟨I14, e9, h⟩ := bd_e h
            cases h
            exact ((ff_X9_writesByte e9 hk22).trans ((ff_X9_writesNumber e8 hk22).trans ((ff_X9_writesByte e6 hk22).trans rfl)))
        · obtain ⟨I5, e10, h⟩ := bd_e h
          rcases if_e h with h | h
          · obtain ⟨I7, e11, h⟩ := bd_e h
            cases h
            exact ((ff_X9_writesByte e11 hk22).trans ((ff_X9_writesByte e10 hk22).trans rfl))
          · obtain ⟨I8, e12, h⟩ := bd_e h
            obtain ⟨I9, e13, h⟩ := bd_e h
            cases h
            exact ((ff_X9_writesByte e13 hk22).trans ((ff_X9_writesNumber e12 hk22).trans ((ff_X9_writesByte e10 hk22).trans rfl)))
    · obtain ⟨I20, e14, h⟩ := bd_e h
      cases h
      exact ((ff_X9_writesNumber e14 hk22).trans rfl)
noncomputable def s_X9_isApart (I : JI) (m : Nat) (x1 : Int32) : Option (Bool) :=
  if x1 = 0 then (some false) else (gd (vp_in (1764 + x1) 2030) <| if (I (m + 1) (Int32.toNatClampNeg (1764 + x1))) = 300 then (some false) else (gd (vp_in ((1764 + x1) - 1) 2030) <| if (I (m + 1) (Int32.toNatClampNeg ((1764 + x1) - 1))) < 100 then (some true) else (gd (vp_in ((1764 + x1) - 1) 2030) <| if (I (m + 1) (Int32.toNatClampNeg ((1764 + x1) - 1))) = 300 then (some true) else (some false))))
set_option maxHeartbeats 4000000 in
theorem c_X9_isApart {Ω : JO} {I : JI} {S : JS} {Q : JQ} {m : Nat} {x1 : Int32} {r : Bool} (hm : Is9 S m) (h : s_X9_isApart I m x1 = some r) (hQ : Q (.inl (some (.int (zb r)))) I S) : Call Ω m_X9_isApart [.ref m, .int x1] I S Q := by
  refine call_of (by decide +kernel) rfl (Nat.le_of_ble_eq_true rfl) ?_
  change AA Ω m_X9_isApart (FQ Ω m_X9_isApart Q) 0 0 0 [(0, .ref m), (1, .int x1)] [] I S
  unfold s_X9_isApart at h
  refine r_iload_n (pc' := 1) dX9_isApart_0 rfl 1 rfl rfl ?_
  refine r_if_eq (tgt := 20) (pc' := 4) dX9_isApart_1 rfl rfl (fun h1 => ?_) (fun h1 => ?_)
  · have h := ifp h1 h
    refine r_iconst (pc' := 21) (v := 0) dX9_isApart_20 (by decide) rfl ?_
    cases h
    exact r_zret dX9_isApart_21 rfl (by decide) (by decide) (by decide) hQ
  · have h := ifn h1 h
    refine r_aload_n (pc' := 5) dX9_isApart_4 rfl 0 rfl rfl ?_
    refine r_getO (pc' := 8) dX9_isApart_5 fa_X9_9 hm.o rfl hm.r1 rfl ?_
    refine r_sipush (pc' := 11) (v := 1764) dX9_isApart_8 (by decide) rfl ?_
    refine r_iload_n (pc' := 12) dX9_isApart_11 rfl 1 rfl rfl ?_
    refine r_iadd (pc' := 13) dX9_isApart_12 rfl ?_
    obtain ⟨g2, h⟩ := gd_e h
    refine r_iaload (pc' := 14) dX9_isApart_13 hm.c1 g2 rfl ?_
    refine r_sipush (pc' := 17) (v := 300) dX9_isApart_14 (by decide) rfl ?_
    refine r_icmp_ne (tgt := 22) (pc' := 20) dX9_isApart_17 rfl rfl (fun h3 => ?_) (fun h3 => ?_)
    · have h := ifn h3 h
      refine r_aload_n (pc' := 23) dX9_isApart_22 rfl 0 rfl rfl ?_
      refine r_getO (pc' := 26) dX9_isApart_23 fa_X9_9 hm.o rfl hm.r1 rfl ?_
      refine r_sipush (pc' := 29) (v := 1764) dX9_isApart_26 (by decide) rfl ?_
      refine r_iload_n (pc' := 30) dX9_isApart_29 rfl 1 rfl rfl ?_
      refine r_iadd (pc' := 31) dX9_isApart_30 rfl ?_
      refine r_iconst (pc' := 32) (v := 1) dX9_isApart_31 (by decide) rfl ?_
      refine r_isub (pc' := 33) dX9_isApart_32 rfl ?_
      obtain ⟨g4, h⟩ := gd_e h
      refine r_iaload (pc' := 34) dX9_isApart_33 hm.c1 g4 rfl ?_
      refine r_bipush (pc' := 36) (v := 100) dX9_isApart_34 (by decide) rfl ?_
      refine r_icmp_lt (tgt := 57) (pc' := 39) dX9_isApart_36 rfl rfl (fun h5 => ?_) (fun h5 => ?_)
      · have h := ifp h5 h
        refine r_iconst (pc' := 58) (v := 1) dX9_isApart_57 (by decide) rfl ?_
        refine r_goto (tgt := 62) dX9_isApart_58 rfl ?_
        cases h
        exact r_zret dX9_isApart_62 rfl (by decide) (by decide) (by decide) hQ
      · have h := ifn h5 h
        refine r_aload_n (pc' := 40) dX9_isApart_39 rfl 0 rfl rfl ?_
        refine r_getO (pc' := 43) dX9_isApart_40 fa_X9_9 hm.o rfl hm.r1 rfl ?_
        refine r_sipush (pc' := 46) (v := 1764) dX9_isApart_43 (by decide) rfl ?_
        refine r_iload_n (pc' := 47) dX9_isApart_46 rfl 1 rfl rfl ?_
        refine r_iadd (pc' := 48) dX9_isApart_47 rfl ?_
        refine r_iconst (pc' := 49) (v := 1) dX9_isApart_48 (by decide) rfl ?_
        refine r_isub (pc' := 50) dX9_isApart_49 rfl ?_
        obtain ⟨g6, h⟩ := gd_e h
        refine r_iaload (pc' := 51) dX9_isApart_50 hm.c1 g6 rfl ?_
        refine r_sipush (pc' := 54) (v := 300) dX9_isApart_51 (by decide) rfl ?_
        refine r_icmp_ne (tgt := 61) (pc' := 57) dX9_isApart_54 rfl rfl (fun h7 => ?_) (fun h7 => ?_)
        · have h := ifn h7 h
          refine r_iconst (pc' := 62) (v := 0) dX9_isApart_61 (by decide) rfl ?_
          cases h
          exact r_zret dX9_isApart_62 rfl (by decide) (by decide) (by decide) hQ
        · have h := ifp h7 h
          refine r_iconst (pc' := 58) (v := 1) dX9_isApart_57 (by decide) rfl ?_
          refine r_goto (tgt := 62) dX9_isApart_58 rfl ?_
          cases h
          exact r_zret dX9_isApart_62 rfl (by decide) (by decide) (by decide) hQ
    · have h := ifp h3 h
      refine r_iconst (pc' := 21) (v := 0) dX9_isApart_20 (by decide) rfl ?_
      cases h
      exact r_zret dX9_isApart_21 rfl (by decide) (by decide) (by decide) hQ
noncomputable def s_X9_writeDeck_L16 (m : Nat) : Nat → Int32 → JI → Option (Int32 × JI)
  | 0, _, _ => none
  | f + 1, w1, I => gd (vp_in 6 2030) <| if (I (m + 1) (Int32.toNatClampNeg 6)) ≤ w1 then (some (w1, I)) else (bd (s_X9_isApart I m w1) fun z7 => if z7 = true then (bd (s_X9_writesByte I m 32) fun I11 => gd (vp_in (1764 + w1) 2030) <| bd (s_X9_writesPart I11 m (I11 (m + 1) (Int32.toNatClampNeg (1764 + w1)))) fun I13 => s_X9_writeDeck_L16 m f (w1 + 1) I13) else (gd (vp_in (1764 + w1) 2030) <| bd (s_X9_writesPart I m (I (m + 1) (Int32.toNatClampNeg (1764 + w1)))) fun I10 => s_X9_writeDeck_L16 m f (w1 + 1) I10))
noncomputable def s_X9_writeDeck (I : JI) (m : Nat) : Option (Int32 × JI) :=
  bd2 (s_X9_mayLook I m) fun z2 I1 => if z2 = true then (lx (stI I1 m 22 0) fun I4 => bd (s_X9_writeDeck_L16 m lf 0 I4) fun (y14, I15) => if (I15 m 22) = 0 then (bd (s_X9_writesByte I15 m 45) fun I18 => some ((I18 m 22), I18)) else (some ((I15 m 22), I15))) else (some (0, I1))
set_option maxHeartbeats 4000000 in
theorem l_X9_writeDeck_L16 {Ω : JO} {S : JS} {Q : JQ} {m : Nat} (hm : Is9 S m) : ∀ (f : Nat) (w1 : Int32) (I : JI) (o : (Int32 × JI)), s_X9_writeDeck_L16 m f w1 I = some o → True → (∀ (y1 : Int32) (J : JI) , o = (y1, J) → AA Ω m_X9_writeDeck (FQ Ω m_X9_writeDeck Q) 0 0 61 [(1, .int y1), (0, .ref m)] [] J S) → AA Ω m_X9_writeDeck (FQ Ω m_X9_writeDeck Q) 0 0 16 [(1, .int w1), (0, .ref m)] [] I S := by
  intro f
  induction f with
  | zero =>
    intro w1 I o h hR hE
    rw [s_X9_writeDeck_L16] at h
    cases h
  | succ f ih =>
    intro w1 I o h hR hE
    rw [s_X9_writeDeck_L16] at h
    refine r_iload_n (pc' := 17) dX9_writeDeck_16 rfl 0 rfl rfl ?_
    refine r_aload_n (pc' := 18) dX9_writeDeck_17 rfl 1 rfl rfl ?_
    refine r_getO (pc' := 21) dX9_writeDeck_18 fa_X9_9 hm.o rfl hm.r1 rfl ?_
    refine r_bipush (pc' := 23) (v := 6) dX9_writeDeck_21 (by decide) rfl ?_
    obtain ⟨g5, h⟩ := gd_e h
    refine r_iaload (pc' := 24) dX9_writeDeck_23 hm.c1 g5 rfl ?_
    refine r_icmp_ge (tgt := 61) (pc' := 27) dX9_writeDeck_24 rfl rfl (fun h6 => ?_) (fun h6 => ?_)
    · have h := ifp h6 h
      cases h
      exact hE _ _ rfl
    · have h := ifn h6 h
      refine r_aload_n (pc' := 28) dX9_writeDeck_27 rfl 1 rfl rfl ?_
      refine r_iload_n (pc' := 29) dX9_writeDeck_28 rfl 0 rfl rfl ?_
      obtain ⟨z7, ez7, h⟩ := bd_e h
      refine r_callV1 (pc' := 32) (k' := 0) (n' := 0) dX9_writeDeck_29 mb_X9_isApart mi_X9_isApart hm.o (by decide) rfl lk_X9_475 rfl rfl rfl (Nat.le_of_ble_eq_true rfl) rfl (c_X9_isApart hm ez7 (cpI ?_))
      refine r_if_eq (tgt := 41) (pc' := 35) dX9_writeDeck_32 rfl rfl (fun h8 => ?_) (fun h8 => ?_)
      · have h := ifn (zb_n0 h8) h
        refine r_aload_n (pc' := 42) dX9_writeDeck_41 rfl 1 rfl rfl ?_
        refine r_aload_n (pc' := 43) dX9_writeDeck_42 rfl 1 rfl rfl ?_
        refine r_getO (pc' := 46) dX9_writeDeck_43 fa_X9_9 hm.o rfl hm.r1 rfl ?_
        refine r_sipush (pc' := 49) (v := 1764) dX9_writeDeck_46 (by decide) rfl ?_
        refine r_iload_n (pc' := 50) dX9_writeDeck_49 rfl 0 rfl rfl ?_
        refine r_iadd (pc' := 51) dX9_writeDeck_50 rfl ?_
        obtain ⟨g9, h⟩ := gd_e h
        refine r_iaload (pc' := 52) dX9_writeDeck_51 hm.c1 g9 rfl ?_
        obtain ⟨I10, eI10, h⟩ := bd_e h
        refine r_callV1 (pc' := 55) (k' := 0) (n' := 0) dX9_writeDeck_52 mb_X9_writesPart mi_X9_writesPart hm.o (by decide) rfl lk_X9_478 rfl rfl rfl (Nat.le_of_ble_eq_true rfl) rfl (c_X9_writesPart hm eI10 (cpV ?_))
        refine r_iinc (pc' := 58) (v := _ + 1) (lv' := [(1, _), (0, _)]) dX9_writeDeck_55 0 rfl rfl (by decide) rfl rfl ?_
        refine r_goto (tgt := 16) dX9_writeDeck_58 rfl ?_
        exact ih _ _ _ h hR hE
      · have h := ifp (zb_p0 h8) h
        refine r_aload_n (pc' := 36) dX9_writeDeck_35 rfl 1 rfl rfl ?_
        refine r_bipush (pc' := 38) (v := 32) dX9_writeDeck_36 (by decide) rfl ?_
        obtain ⟨I11, eI11, h⟩ := bd_e h
        refine r_callV1 (pc' := 41) (k' := 0) (n' := 0) dX9_writeDeck_38 mb_X9_writesByte mi_X9_writesByte hm.o (by decide) rfl lk_X9_469 rfl rfl rfl (Nat.le_of_ble_eq_true rfl) rfl (c_X9_writesByte hm eI11 (cpV ?_))
        refine r_aload_n (pc' := 42) dX9_writeDeck_41 rfl 1 rfl rfl ?_
        refine r_aload_n (pc' := 43) dX9_writeDeck_42 rfl 1 rfl rfl ?_
        refine r_getO (pc' := 46) dX9_writeDeck_43 fa_X9_9 hm.o rfl hm.r1 rfl ?_
        refine r_sipush (pc' := 49) (v := 1764) dX9_writeDeck_46 (by decide) rfl ?_
        refine r_iload_n (pc' := 50) dX9_writeDeck_49 rfl 0 rfl rfl ?_
        refine r_iadd (pc' := 51) dX9_writeDeck_50 rfl ?_
        obtain ⟨g12, h⟩ := gd_e h
        refine r_iaload (pc' := 52) dX9_writeDeck_51 hm.c1 g12 rfl ?_
        obtain ⟨I13, eI13, h⟩ := bd_e h
        refine r_callV1 (pc' := 55) (k' := 0) (n' := 0) dX9_writeDeck_52 mb_X9_writesPart mi_X9_writesPart hm.o (by decide) rfl lk_X9_478 rfl rfl rfl (Nat.le_of_ble_eq_true rfl) rfl (c_X9_writesPart hm eI13 (cpV ?_))
        refine r_iinc (pc' := 58) (v := _ + 1) (lv' := [(1, _), (0, _)]) dX9_writeDeck_55 0 rfl rfl (by decide) rfl rfl ?_
        refine r_goto (tgt := 16) dX9_writeDeck_58 rfl ?_
        exact ih _ _ _ h hR hE
set_option maxHeartbeats 4000000 in
theorem c_X9_writeDeck {Ω : JO} {I : JI} {S : JS} {Q : JQ} {m : Nat} {r : Int32} {J : JI} (hm : Is9 S m) (h : s_X9_writeDeck I m = some (r, J)) (hQ : Q (.inl (some (.int r))) J S) : Call Ω m_X9_writeDeck [.ref m] I S Q := by
  refine call_of (by decide +kernel) rfl (Nat.le_of_ble_eq_true rfl) ?_
  change AA Ω m_X9_writeDeck (FQ Ω m_X9_writeDeck Q) 0 0 0 [(0, .ref m)] [] I S
  unfold s_X9_writeDeck at h
  refine r_aload_n (pc' := 1) dX9_writeDeck_0 rfl 0 rfl rfl ?_
  obtain ⟨z2, I1, ez2, h⟩ := bd2_e h
  refine r_callV0 (pc' := 4) (k' := 0) (n' := 0) dX9_writeDeck_1 mb_X9_mayLook mi_X9_mayLook hm.o (by decide) rfl lk_X9_409 rfl rfl rfl (Nat.le_of_ble_eq_true rfl) rfl (c_X9_mayLook hm ez2 (cpI ?_))
  refine r_if_ne (tgt := 9) (pc' := 7) dX9_writeDeck_4 rfl rfl (fun h3 => ?_) (fun h3 => ?_)
  · have h := ifp (zb_p0 h3) h
    refine r_aload_n (pc' := 10) dX9_writeDeck_9 rfl 0 rfl rfl ?_
    refine r_iconst (pc' := 11) (v := 0) dX9_writeDeck_10 (by decide) rfl ?_
    refine r_putI (pc' := 14) dX9_writeDeck_11 fa_X9_466 hm.o rfl rfl ?_
    have h := lx_e h
    refine r_iconst (pc' := 15) (v := 0) dX9_writeDeck_14 (by decide) rfl ?_
    refine r_istore_n (pc' := 16) (lv' := [(1, _), (0, _)]) dX9_writeDeck_15 rfl (by decide) rfl rfl ?_
    obtain ⟨o16, eo16, h⟩ := bd_e h
    refine l_X9_writeDeck_L16 (Ω := Ω) hm _ _ _ _ eo16 trivial (fun y14 I15 q => ?_)
    subst q
    refine r_aload_n (pc' := 62) dX9_writeDeck_61 rfl 1 rfl rfl ?_
    refine r_getI (pc' := 65) dX9_writeDeck_62 fa_X9_466 hm.o rfl rfl ?_
    refine r_if_ne (tgt := 74) (pc' := 68) dX9_writeDeck_65 rfl rfl (fun h17 => ?_) (fun h17 => ?_)
    · have h := ifn h17 h
      refine r_aload_n (pc' := 75) dX9_writeDeck_74 rfl 1 rfl rfl ?_
      refine r_getI (pc' := 78) dX9_writeDeck_75 fa_X9_466 hm.o rfl rfl ?_
      cases h
      exact r_iret dX9_writeDeck_78 rfl (by decide) (by decide) hQ
    · have h := ifp h17 h
      refine r_aload_n (pc' := 69) dX9_writeDeck_68 rfl 1 rfl rfl ?_
      refine r_bipush (pc' := 71) (v := 45) dX9_writeDeck_69 (by decide) rfl ?_
      obtain ⟨I18, eI18, h⟩ := bd_e h
      refine r_callV1 (pc' := 74) (k' := 0) (n' := 0) dX9_writeDeck_71 mb_X9_writesByte mi_X9_writesByte hm.o (by decide) rfl lk_X9_469 rfl rfl rfl (Nat.le_of_ble_eq_true rfl) rfl (c_X9_writesByte hm eI18 (cpV ?_))
      refine r_aload_n (pc' := 75) dX9_writeDeck_74 rfl 1 rfl rfl ?_
      refine r_getI (pc' := 78) dX9_writeDeck_75 fa_X9_466 hm.o rfl rfl ?_
      cases h
      exact r_iret dX9_writeDeck_78 rfl (by decide) (by decide) hQ
  · have h := ifn (zb_n0 h3) h
    refine r_iconst (pc' := 8) (v := 0) dX9_writeDeck_7 (by decide) rfl ?_
    cases h
    exact r_iret dX9_writeDeck_8 rfl (by decide) (by decide) hQ
theorem frl_X9_writeDeck_L16 {m : Nat} {z : Nat} (hz_m10 : z ≠ (m + 10)) (hz_m : z ≠ m) : ∀ (f : Nat) (w1 : Int32) (I : JI) (o : (Int32 × JI)), s_X9_writeDeck_L16 m f w1 I = some o → (∀ (y1 : Int32) (J : JI), o = (y1, J) → J z = I z) := by
  intro f
  induction f with
  | zero =>
    intro w1 I o h
    rw [s_X9_writeDeck_L16] at h
    cases h
  | succ f ih =>
    intro w1 I o h
    rw [s_X9_writeDeck_L16] at h
    obtain ⟨g1, h⟩ := gd_e h
    rcases if_e h with h | h
    · cases h
      intro _ _ q
      cases q
      exact rfl
    · obtain ⟨o2, e2, h⟩ := bd_e h
      rcases if_e h with h | h
      · obtain ⟨I11, e3, h⟩ := bd_e h
        obtain ⟨g4, h⟩ := gd_e h
        obtain ⟨I13, e5, h⟩ := bd_e h
        intro _ _ q
        exact ((ih _ _ _ h) _ _ q).trans ((fr_X9_writesPart e5 (by omega) (by omega)).trans ((fr_X9_writesByte e3 (by omega) (by omega)).trans rfl))
      · obtain ⟨g6, h⟩ := gd_e h
        obtain ⟨I10, e7, h⟩ := bd_e h
        intro _ _ q
        exact ((ih _ _ _ h) _ _ q).trans ((fr_X9_writesPart e7 (by omega) (by omega)).trans rfl)
set_option maxHeartbeats 4000000 in
theorem fr_X9_writeDeck {I : JI} {m : Nat} {r : Int32} {J : JI} {z : Nat} (h : s_X9_writeDeck I m = some (r, J)) (hz_m10 : z ≠ (m + 10)) (hz_m : z ≠ m) : J z = I z := by
  unfold s_X9_writeDeck at h
  obtain ⟨z2, I1, e1, h⟩ := bd2_e h
  rcases if_e h with h | h
  · have h := lx_e h
    obtain ⟨o2, e2, h⟩ := bd_e h
    obtain ⟨y14, I15⟩ := o2
    rcases if_e h with h | h
    · obtain ⟨I18, e3, h⟩ := bd_e h
      cases h
      exact ((fr_X9_writesByte e3 (by omega) (by omega)).trans (((frl_X9_writeDeck_L16 hz_m10 hz_m _ _ _ _ e2) _ _ rfl).trans ((fr_stI (by omega)).trans ((fr_X9_mayLook e1 (by omega)).trans rfl))))
    · cases h
      exact (((frl_X9_writeDeck_L16 hz_m10 hz_m _ _ _ _ e2) _ _ rfl).trans ((fr_stI (by omega)).trans ((fr_X9_mayLook e1 (by omega)).trans rfl)))
  · cases h
    exact ((fr_X9_mayLook e1 (by omega)).trans rfl)
theorem ffl_X9_writeDeck_L16 {m : Nat} {k : Nat} (hk0 : k ≠ 0) (hk22 : k ≠ 22) : ∀ (f : Nat) (w1 : Int32) (I : JI) (o : (Int32 × JI)), s_X9_writeDeck_L16 m f w1 I = some o → (∀ (y1 : Int32) (J : JI), o = (y1, J) → J m k = I m k) := by
  intro f
  induction f with
  | zero =>
    intro w1 I o h
    rw [s_X9_writeDeck_L16] at h
    cases h
  | succ f ih =>
    intro w1 I o h
    rw [s_X9_writeDeck_L16] at h
    obtain ⟨g1, h⟩ := gd_e h
    rcases if_e h with h | h
    · cases h
      intro _ _ q
      cases q
      exact rfl
    · obtain ⟨o2, e2, h⟩ := bd_e h
      rcases if_e h with h | h
      · obtain ⟨I11, e3, h⟩ := bd_e h
        obtain ⟨g4, h⟩ := gd_e h
        obtain ⟨I13, e5, h⟩ := bd_e h
        intro _ _ q
        exact ((ih _ _ _ h) _ _ q).trans ((ff_X9_writesPart e5 hk22).trans ((ff_X9_writesByte e3 hk22).trans rfl))
      · obtain ⟨g6, h⟩ := gd_e h
        obtain ⟨I10, e7, h⟩ := bd_e h
        intro _ _ q
        exact ((ih _ _ _ h) _ _ q).trans ((ff_X9_writesPart e7 hk22).trans rfl)
set_option maxHeartbeats 4000000 in
theorem ff_X9_writeDeck {I : JI} {m : Nat} {r : Int32} {J : JI} {k : Nat} (h : s_X9_writeDeck I m = some (r, J)) (hk0 : k ≠ 0) (hk22 : k ≠ 22) : J m k = I m k := by
  unfold s_X9_writeDeck at h
  obtain ⟨z2, I1, e1, h⟩ := bd2_e h
  rcases if_e h with h | h
  · have h := lx_e h
    obtain ⟨o2, e2, h⟩ := bd_e h
    obtain ⟨y14, I15⟩ := o2
    rcases if_e h with h | h
    · obtain ⟨I18, e3, h⟩ := bd_e h
      cases h
      exact ((ff_X9_writesByte e3 hk22).trans (((ffl_X9_writeDeck_L16 hk0 hk22 _ _ _ _ e2) _ _ rfl).trans ((ff_stI hk22).trans ((ff_X9_mayLook e1 hk0).trans rfl))))
    · cases h
      exact (((ffl_X9_writeDeck_L16 hk0 hk22 _ _ _ _ e2) _ _ rfl).trans ((ff_stI hk22).trans ((ff_X9_mayLook e1 hk0).trans rfl)))
  · cases h
    exact ((ff_X9_mayLook e1 hk0).trans rfl)
noncomputable def s_X9_outputByte (I : JI) (m : Nat) (x1 : Int32) : Option (Int32 × JI) :=
  bd2 (s_X9_may I m (s_X9_in x1 0 ((I m 22) - 1)) true true) fun z2 I1 => if z2 = true then (gd (vp_in x1 1000) <| some ((I1 (m + 10) (Int32.toNatClampNeg x1)), I1)) else (some (0, I1))
set_option maxHeartbeats 4000000 in
theorem c_X9_outputByte {Ω : JO} {I : JI} {S : JS} {Q : JQ} {m : Nat} {x1 : Int32} {r : Int32} {J : JI} (hm : Is9 S m) (h : s_X9_outputByte I m x1 = some (r, J)) (hQ : Q (.inl (some (.int r))) J S) : Call Ω m_X9_outputByte [.ref m, .int x1] I S Q := by
  refine call_of (by decide +kernel) rfl (Nat.le_of_ble_eq_true rfl) ?_
  change AA Ω m_X9_outputByte (FQ Ω m_X9_outputByte Q) 0 0 0 [(0, .ref m), (1, .int x1)] [] I S
  unfold s_X9_outputByte at h
  refine r_aload_n (pc' := 1) dX9_outputByte_0 rfl 0 rfl rfl ?_
  refine r_iload_n (pc' := 2) dX9_outputByte_1 rfl 1 rfl rfl ?_
  refine r_iconst (pc' := 3) (v := 0) dX9_outputByte_2 (by decide) rfl ?_
  refine r_aload_n (pc' := 4) dX9_outputByte_3 rfl 0 rfl rfl ?_
  refine r_getI (pc' := 7) dX9_outputByte_4 fa_X9_466 hm.o rfl rfl ?_
  refine r_iconst (pc' := 8) (v := 1) dX9_outputByte_7 (by decide) rfl ?_
  refine r_isub (pc' := 9) dX9_outputByte_8 rfl ?_
  refine r_callS3 (pc' := 12) (k' := 0) (n' := 0) dX9_outputByte_9 mb_X9_in ms_X9_in lk_X9_78 rfl rfl rfl (Nat.le_of_ble_eq_true rfl) rfl (c_X9_in rfl (cpI ?_))
  refine r_iconst (pc' := 13) (v := 1) dX9_outputByte_12 (by decide) rfl ?_
  refine r_iconst (pc' := 14) (v := 1) dX9_outputByte_13 (by decide) rfl ?_
  obtain ⟨z2, I1, ez2, h⟩ := bd2_e h
  refine r_callV3 (pc' := 17) (k' := 0) (n' := 0) dX9_outputByte_14 mb_X9_may mi_X9_may hm.o (by decide) rfl lk_X9_49 rfl rfl rfl (Nat.le_of_ble_eq_true rfl) rfl (c_X9_may (b2 := true) (b3 := true) hm ez2 (cpI ?_))
  refine r_if_eq (tgt := 29) (pc' := 20) dX9_outputByte_17 rfl rfl (fun h3 => ?_) (fun h3 => ?_)
  · have h := ifn (zb_n0 h3) h
    refine r_iconst (pc' := 30) (v := 0) dX9_outputByte_29 (by decide) rfl ?_
    cases h
    exact r_iret dX9_outputByte_30 rfl (by decide) (by decide) hQ
  · have h := ifp (zb_p0 h3) h
    refine r_aload_n (pc' := 21) dX9_outputByte_20 rfl 0 rfl rfl ?_
    refine r_getO (pc' := 24) dX9_outputByte_21 fa_X9_43 hm.o rfl hm.r21 rfl ?_
    refine r_iload_n (pc' := 25) dX9_outputByte_24 rfl 1 rfl rfl ?_
    obtain ⟨g4, h⟩ := gd_e h
    refine r_baload (pc' := 26) dX9_outputByte_25 hm.c21 g4 rfl ?_
    refine r_goto (tgt := 30) dX9_outputByte_26 rfl ?_
    cases h
    exact r_iret dX9_outputByte_30 rfl (by decide) (by decide) hQ
set_option maxHeartbeats 4000000 in
theorem fr_X9_outputByte {I : JI} {m : Nat} {x1 : Int32} {r : Int32} {J : JI} {z : Nat} (h : s_X9_outputByte I m x1 = some (r, J)) (hz_m : z ≠ m) : J z = I z := by
  unfold s_X9_outputByte at h
  obtain ⟨z2, I1, e1, h⟩ := bd2_e h
  rcases if_e h with h | h
  · obtain ⟨g2, h⟩ := gd_e h
    cases h
    exact ((fr_X9_may e1 (by omega)).trans rfl)
  · cases h
    exact ((fr_X9_may e1 (by omega)).trans rfl)
set_option maxHeartbeats 4000000 in
theorem ff_X9_outputByte {I : JI} {m : Nat} {x1 : Int32} {r : Int32} {J : JI} {k : Nat} (h : s_X9_outputByte I m x1 = some (r, J)) (hk0 : k ≠ 0) : J m k = I m k := by
  unfold s_X9_outputByte at h
  obtain ⟨z2, I1, e1, h⟩ := bd2_e h
  rcases if_e h with h | h
  · obtain ⟨g2, h⟩ := gd_e h
    cases h
    exact ((ff_X9_may e1 hk0).trans rfl)
  · cases h
    exact ((ff_X9_may e1 hk0).trans rfl)
noncomputable def s_X9_remembers_L11 (m : Nat) : Nat → Int32 → JI → Option (Int32 × JI)
  | 0, _, _ => none
  | f + 1, w1, I => if 14210 ≤ w1 then (some (w1, I)) else (gd (vp_in (w1 + 2030) 16240) <| gd (vp_in w1 16240) <| lx (stI I (m + 3) (Int32.toNatClampNeg w1) (I (m + 3) (Int32.toNatClampNeg (w1 + 2030)))) fun I7 => s_X9_remembers_L11 m f (w1 + 1) I7)
noncomputable def s_X9_remembers (I : JI) (m : Nat) : Option (JI) :=
  if (I m 7) = 8 then (bd (s_X9_remembers_L11 m lf 0 I) fun (y8, I9) => lx (stI I9 m 7 ((I9 m 7) - 1)) fun I11 => bd (s_X9_lays I11 (m + 1) (m + 3) 2030 0 16240 ((I11 m 7) * 2030)) fun I12 => lx (stI I12 m 7 ((I12 m 7) + 1)) fun I13 => some I13) else (bd (s_X9_lays I (m + 1) (m + 3) 2030 0 16240 ((I m 7) * 2030)) fun I2 => lx (stI I2 m 7 ((I2 m 7) + 1)) fun I3 => some I3)
set_option maxHeartbeats 4000000 in
theorem l_X9_remembers_L11 {Ω : JO} {S : JS} {Q : JQ} {m : Nat} (hm : Is9 S m) : ∀ (f : Nat) (w1 : Int32) (I : JI) (o : (Int32 × JI)), s_X9_remembers_L11 m f w1 I = some o → True → (∀ (y1 : Int32) (J : JI) , o = (y1, J) → AA Ω m_X9_remembers (FQ Ω m_X9_remembers Q) 0 0 40 [(1, .int y1), (0, .ref m)] [] J S) → AA Ω m_X9_remembers (FQ Ω m_X9_remembers Q) 0 0 11 [(1, .int w1), (0, .ref m)] [] I S := by
  intro f
  induction f with
  | zero =>
    intro w1 I o h hR hE
    rw [s_X9_remembers_L11] at h
    cases h
  | succ f ih =>
    intro w1 I o h hR hE
    rw [s_X9_remembers_L11] at h
    refine r_iload_n (pc' := 12) dX9_remembers_11 rfl 0 rfl rfl ?_
    refine r_sipush (pc' := 15) (v := 14210) dX9_remembers_12 (by decide) rfl ?_
    refine r_icmp_ge (tgt := 40) (pc' := 18) dX9_remembers_15 rfl rfl (fun h4 => ?_) (fun h4 => ?_)
    · have h := ifp h4 h
      cases h
      exact hE _ _ rfl
    · have h := ifn h4 h
      refine r_aload_n (pc' := 19) dX9_remembers_18 rfl 1 rfl rfl ?_
      refine r_getO (pc' := 22) dX9_remembers_19 fa_X9_16 hm.o rfl hm.r3 rfl ?_
      refine r_iload_n (pc' := 23) dX9_remembers_22 rfl 0 rfl rfl ?_
      refine r_aload_n (pc' := 24) dX9_remembers_23 rfl 1 rfl rfl ?_
      refine r_getO (pc' := 27) dX9_remembers_24 fa_X9_16 hm.o rfl hm.r3 rfl ?_
      refine r_iload_n (pc' := 28) dX9_remembers_27 rfl 0 rfl rfl ?_
      refine r_sipush (pc' := 31) (v := 2030) dX9_remembers_28 (by decide) rfl ?_
      refine r_iadd (pc' := 32) dX9_remembers_31 rfl ?_
      obtain ⟨g5, h⟩ := gd_e h
      refine r_iaload (pc' := 33) dX9_remembers_32 hm.c3 g5 rfl ?_
      obtain ⟨g6, h⟩ := gd_e h
      refine r_iastore (pc' := 34) dX9_remembers_33 hm.c3 g6 rfl ?_
      have h := lx_e h
      refine r_iinc (pc' := 37) (v := _ + 1) (lv' := [(1, _), (0, _)]) dX9_remembers_34 0 rfl rfl (by decide) rfl rfl ?_
      refine r_goto (tgt := 11) dX9_remembers_37 rfl ?_
      exact ih _ _ _ h hR hE
set_option maxHeartbeats 4000000 in
theorem c_X9_remembers {Ω : JO} {I : JI} {S : JS} {Q : JQ} {m : Nat} {J : JI} (hm : Is9 S m) (h : s_X9_remembers I m = some J) (hQ : Q (.inl none) J S) : Call Ω m_X9_remembers [.ref m] I S Q := by
  refine call_of (by decide +kernel) rfl (Nat.le_of_ble_eq_true rfl) ?_
  change AA Ω m_X9_remembers (FQ Ω m_X9_remembers Q) 0 0 0 [(0, .ref m)] [] I S
  unfold s_X9_remembers at h
  refine r_aload_n (pc' := 1) dX9_remembers_0 rfl 0 rfl rfl ?_
  refine r_getI (pc' := 4) dX9_remembers_1 fa_X9_321 hm.o rfl rfl ?_
  refine r_bipush (pc' := 6) (v := 8) dX9_remembers_4 (by decide) rfl ?_
  refine r_icmp_ne (tgt := 50) (pc' := 9) dX9_remembers_6 rfl rfl (fun h1 => ?_) (fun h1 => ?_)
  · have h := ifn h1 h
    refine r_aload_n (pc' := 51) dX9_remembers_50 rfl 0 rfl rfl ?_
    refine r_getO (pc' := 54) dX9_remembers_51 fa_X9_9 hm.o rfl hm.r1 rfl ?_
    refine r_iconst (pc' := 55) (v := 0) dX9_remembers_54 (by decide) rfl ?_
    refine r_aload_n (pc' := 56) dX9_remembers_55 rfl 0 rfl rfl ?_
    refine r_getO (pc' := 59) dX9_remembers_56 fa_X9_16 hm.o rfl hm.r3 rfl ?_
    refine r_aload_n (pc' := 60) dX9_remembers_59 rfl 0 rfl rfl ?_
    refine r_getI (pc' := 63) dX9_remembers_60 fa_X9_321 hm.o rfl rfl ?_
    refine r_sipush (pc' := 66) (v := 2030) dX9_remembers_63 (by decide) rfl ?_
    refine r_imul (pc' := 67) dX9_remembers_66 rfl ?_
    obtain ⟨I2, eI2, h⟩ := bd_e h
    refine r_callS4 (pc' := 70) (k' := 0) (n' := 0) dX9_remembers_67 mb_X9_lays ms_X9_lays lk_X9_57 rfl rfl rfl (Nat.le_of_ble_eq_true rfl) rfl (c_X9_lays hm.c1 (by decide) hm.c3 (by decide) eI2 (cpV ?_))
    refine r_aload_n (pc' := 71) dX9_remembers_70 rfl 0 rfl rfl ?_
    refine r_dup (pc' := 72) dX9_remembers_71 rfl rfl ?_
    refine r_getI (pc' := 75) dX9_remembers_72 fa_X9_321 hm.o rfl rfl ?_
    refine r_iconst (pc' := 76) (v := 1) dX9_remembers_75 (by decide) rfl ?_
    refine r_iadd (pc' := 77) dX9_remembers_76 rfl ?_
    refine r_putI (pc' := 80) dX9_remembers_77 fa_X9_321 hm.o rfl rfl ?_
    have h := lx_e h
    cases h
    exact r_ret dX9_remembers_80 rfl (by decide) (by decide) hQ
  · have h := ifp h1 h
    refine r_iconst (pc' := 10) (v := 0) dX9_remembers_9 (by decide) rfl ?_
    refine r_istore_n (pc' := 11) (lv' := [(1, _), (0, _)]) dX9_remembers_10 rfl (by decide) rfl rfl ?_
    obtain ⟨o10, eo10, h⟩ := bd_e h
    refine l_X9_remembers_L11 (Ω := Ω) hm _ _ _ _ eo10 trivial (fun y8 I9 q => ?_)
    subst q
    refine r_aload_n (pc' := 41) dX9_remembers_40 rfl 1 rfl rfl ?_
    refine r_dup (pc' := 42) dX9_remembers_41 rfl rfl ?_
    refine r_getI (pc' := 45) dX9_remembers_42 fa_X9_321 hm.o rfl rfl ?_
    refine r_iconst (pc' := 46) (v := 1) dX9_remembers_45 (by decide) rfl ?_
    refine r_isub (pc' := 47) dX9_remembers_46 rfl ?_
    refine r_putI (pc' := 50) dX9_remembers_47 fa_X9_321 hm.o rfl rfl ?_
    have h := lx_e h
    refine r_aload_n (pc' := 51) dX9_remembers_50 rfl 1 rfl rfl ?_
    refine r_getO (pc' := 54) dX9_remembers_51 fa_X9_9 hm.o rfl hm.r1 rfl ?_
    refine r_iconst (pc' := 55) (v := 0) dX9_remembers_54 (by decide) rfl ?_
    refine r_aload_n (pc' := 56) dX9_remembers_55 rfl 1 rfl rfl ?_
    refine r_getO (pc' := 59) dX9_remembers_56 fa_X9_16 hm.o rfl hm.r3 rfl ?_
    refine r_aload_n (pc' := 60) dX9_remembers_59 rfl 1 rfl rfl ?_
    refine r_getI (pc' := 63) dX9_remembers_60 fa_X9_321 hm.o rfl rfl ?_
    refine r_sipush (pc' := 66) (v := 2030) dX9_remembers_63 (by decide) rfl ?_
    refine r_imul (pc' := 67) dX9_remembers_66 rfl ?_
    obtain ⟨I12, eI12, h⟩ := bd_e h
    refine r_callS4 (pc' := 70) (k' := 0) (n' := 0) dX9_remembers_67 mb_X9_lays ms_X9_lays lk_X9_57 rfl rfl rfl (Nat.le_of_ble_eq_true rfl) rfl (c_X9_lays hm.c1 (by decide) hm.c3 (by decide) eI12 (cpV ?_))
    refine r_aload_n (pc' := 71) dX9_remembers_70 rfl 1 rfl rfl ?_
    refine r_dup (pc' := 72) dX9_remembers_71 rfl rfl ?_
    refine r_getI (pc' := 75) dX9_remembers_72 fa_X9_321 hm.o rfl rfl ?_
    refine r_iconst (pc' := 76) (v := 1) dX9_remembers_75 (by decide) rfl ?_
    refine r_iadd (pc' := 77) dX9_remembers_76 rfl ?_
    refine r_putI (pc' := 80) dX9_remembers_77 fa_X9_321 hm.o rfl rfl ?_
    have h := lx_e h
    cases h
    exact r_ret dX9_remembers_80 rfl (by decide) (by decide) hQ
theorem frl_X9_remembers_L11 {m : Nat} {z : Nat} (hz_m3 : z ≠ (m + 3)) (hz_m : z ≠ m) : ∀ (f : Nat) (w1 : Int32) (I : JI) (o : (Int32 × JI)), s_X9_remembers_L11 m f w1 I = some o → (∀ (y1 : Int32) (J : JI), o = (y1, J) → J z = I z) := by
  intro f
  induction f with
  | zero =>
    intro w1 I o h
    rw [s_X9_remembers_L11] at h
    cases h
  | succ f ih =>
    intro w1 I o h
    rw [s_X9_remembers_L11] at h
    rcases if_e h with h | h
    · cases h
      intro _ _ q
      cases q
      exact rfl
    · obtain ⟨g1, h⟩ := gd_e h
      obtain ⟨g2, h⟩ := gd_e h
      have h := lx_e h
      intro _ _ q
      exact ((ih _ _ _ h) _ _ q).trans ((fr_stI (by omega)).trans rfl)
set_option maxHeartbeats 4000000 in
theorem fr_X9_remembers {I : JI} {m : Nat} {J : JI} {z : Nat} (h : s_X9_remembers I m = some J) (hz_m3 : z ≠ (m + 3)) (hz_m : z ≠ m) : J z = I z := by
  unfold s_X9_remembers at h
  rcases if_e h with h | h
  · obtain ⟨o1, e1, h⟩ := bd_e h
    obtain ⟨y8, I9⟩ := o1
    have h := lx_e h
    obtain ⟨I12, e2, h⟩ := bd_e h
    have h := lx_e h
    cases h
    exact ((fr_stI (by omega)).trans ((fr_X9_lays e2 (by omega)).trans ((fr_stI (by omega)).trans (((frl_X9_remembers_L11 hz_m3 hz_m _ _ _ _ e1) _ _ rfl).trans rfl))))
  · obtain ⟨I2, e3, h⟩ := bd_e h
    have h := lx_e h
    cases h
    exact ((fr_stI (by omega)).trans ((fr_X9_lays e3 (by omega)).trans rfl))
theorem ffl_X9_remembers_L11 {m : Nat} {k : Nat} (hk7 : k ≠ 7) : ∀ (f : Nat) (w1 : Int32) (I : JI) (o : (Int32 × JI)), s_X9_remembers_L11 m f w1 I = some o → (∀ (y1 : Int32) (J : JI), o = (y1, J) → J m k = I m k) := by
  intro f
  induction f with
  | zero =>
    intro w1 I o h
    rw [s_X9_remembers_L11] at h
    cases h
  | succ f ih =>
    intro w1 I o h
    rw [s_X9_remembers_L11] at h
    rcases if_e h with h | h
    · cases h
      intro _ _ q
      cases q
      exact rfl
    · obtain ⟨g1, h⟩ := gd_e h
      obtain ⟨g2, h⟩ := gd_e h
      have h := lx_e h
      intro _ _ q
      exact ((ih _ _ _ h) _ _ q).trans ((congrFun (fr_stI (by omega)) k).trans rfl)
set_option maxHeartbeats 4000000 in
theorem ff_X9_remembers {I : JI} {m : Nat} {J : JI} {k : Nat} (h : s_X9_remembers I m = some J) (hk7 : k ≠ 7) : J m k = I m k := by
  unfold s_X9_remembers at h
  rcases if_e h with h | h
  · obtain ⟨o1, e1, h⟩ := bd_e h
    obtain ⟨y8, I9⟩ := o1
    have h := lx_e h
    obtain ⟨I12, e2, h⟩ := bd_e h
    have h := lx_e h
    cases h
    exact ((ff_stI hk7).trans ((congrFun (fr_X9_lays e2 (by omega)) k).trans ((ff_stI hk7).trans (((ffl_X9_remembers_L11 hk7 _ _ _ _ e1) _ _ rfl).trans rfl))))
  · obtain ⟨I2, e3, h⟩ := bd_e h
    have h := lx_e h
    cases h
    exact ((ff_stI hk7).trans ((congrFun (fr_X9_lays e3 (by omega)) k).trans rfl))
noncomputable def s_X9_weave (I : JI) (m : Nat) (x1 : Int32) : Option (Int32 × JI) :=
  gd ((I m 6) = 0 ∨ (I m 6) = 1) <| bd2 (s_X9_mayTwo I m (nz (I m 6)) (s_X9_in x1 1 60)) fun z3 I2 => if z3 = true then (bd (s_X9_remembers I2 m) fun I5 => bd2 (s_X9_weaves I5 m x1) fun v7 I6 => some (v7, I6)) else (some (0, I2))
set_option maxHeartbeats 4000000 in
theorem c_X9_weave {Ω : JO} {I : JI} {S : JS} {Q : JQ} {m : Nat} {x1 : Int32} {r : Int32} {J : JI} (hm : Is9 S m) (h : s_X9_weave I m x1 = some (r, J)) (hQ : Q (.inl (some (.int r))) J S) : Call Ω m_X9_weave [.ref m, .int x1] I S Q := by
  refine call_of (by decide +kernel) rfl (Nat.le_of_ble_eq_true rfl) ?_
  change AA Ω m_X9_weave (FQ Ω m_X9_weave Q) 0 0 0 [(0, .ref m), (1, .int x1)] [] I S
  unfold s_X9_weave at h
  refine r_aload_n (pc' := 1) dX9_weave_0 rfl 0 rfl rfl ?_
  refine r_aload_n (pc' := 2) dX9_weave_1 rfl 0 rfl rfl ?_
  obtain ⟨g1, h⟩ := gd_e h
  refine r_getZ (pc' := 5) dX9_weave_2 fa_X9_53 hm.o rfl g1 rfl ?_
  refine r_iload_n (pc' := 6) dX9_weave_5 rfl 1 rfl rfl ?_
  refine r_iconst (pc' := 7) (v := 1) dX9_weave_6 (by decide) rfl ?_
  refine r_bipush (pc' := 9) (v := 60) dX9_weave_7 (by decide) rfl ?_
  refine r_callS3 (pc' := 12) (k' := 0) (n' := 0) dX9_weave_9 mb_X9_in ms_X9_in lk_X9_78 rfl rfl rfl (Nat.le_of_ble_eq_true rfl) rfl (c_X9_in rfl (cpI ?_))
  obtain ⟨z3, I2, ez3, h⟩ := bd2_e h
  refine r_callV2 (pc' := 15) (k' := 0) (n' := 0) dX9_weave_12 mb_X9_mayTwo mi_X9_mayTwo hm.o (by decide) rfl lk_X9_393 rfl rfl rfl (Nat.le_of_ble_eq_true rfl) rfl (c_X9_mayTwo hm ez3 (cpI ?_))
  refine r_if_ne (tgt := 20) (pc' := 18) dX9_weave_15 rfl rfl (fun h4 => ?_) (fun h4 => ?_)
  · have h := ifp (zb_p0 h4) h
    refine r_aload_n (pc' := 21) dX9_weave_20 rfl 0 rfl rfl ?_
    obtain ⟨I5, eI5, h⟩ := bd_e h
    refine r_callV0 (pc' := 24) (k' := 0) (n' := 0) dX9_weave_21 mb_X9_remembers mi_X9_remembers hm.o (by decide) rfl lk_X9_481 rfl rfl rfl (Nat.le_of_ble_eq_true rfl) rfl (c_X9_remembers hm eI5 (cpV ?_))
    refine r_aload_n (pc' := 25) dX9_weave_24 rfl 0 rfl rfl ?_
    refine r_iload_n (pc' := 26) dX9_weave_25 rfl 1 rfl rfl ?_
    obtain ⟨v7, I6, ev7, h⟩ := bd2_e h
    refine r_callV1 (pc' := 29) (k' := 0) (n' := 0) dX9_weave_26 mb_X9_weaves mi_X9_weaves hm.o (by decide) rfl lk_X9_211 rfl rfl rfl (Nat.le_of_ble_eq_true rfl) rfl (c_X9_weaves hm ev7 (cpI ?_))
    cases h
    exact r_iret dX9_weave_29 rfl (by decide) (by decide) hQ
  · have h := ifn (zb_n0 h4) h
    refine r_iconst (pc' := 19) (v := 0) dX9_weave_18 (by decide) rfl ?_
    cases h
    exact r_iret dX9_weave_19 rfl (by decide) (by decide) hQ
set_option maxHeartbeats 4000000 in
theorem fr_X9_weave {I : JI} {m : Nat} {x1 : Int32} {r : Int32} {J : JI} {z : Nat} (h : s_X9_weave I m x1 = some (r, J)) (hz_m1 : z ≠ (m + 1)) (hz_m3 : z ≠ (m + 3)) (hz_m : z ≠ m) : J z = I z := by
  unfold s_X9_weave at h
  obtain ⟨g1, h⟩ := gd_e h
  obtain ⟨z3, I2, e2, h⟩ := bd2_e h
  rcases if_e h with h | h
  · obtain ⟨I5, e3, h⟩ := bd_e h
    obtain ⟨v7, I6, e4, h⟩ := bd2_e h
    cases h
    exact ((fr_X9_weaves e4 (by omega)).trans ((fr_X9_remembers e3 (by omega) (by omega)).trans ((fr_X9_mayTwo e2 (by omega)).trans rfl)))
  · cases h
    exact ((fr_X9_mayTwo e2 (by omega)).trans rfl)
set_option maxHeartbeats 4000000 in
theorem ff_X9_weave {I : JI} {m : Nat} {x1 : Int32} {r : Int32} {J : JI} {k : Nat} (h : s_X9_weave I m x1 = some (r, J)) (hk0 : k ≠ 0) (hk7 : k ≠ 7) : J m k = I m k := by
  unfold s_X9_weave at h
  obtain ⟨g1, h⟩ := gd_e h
  obtain ⟨z3, I2, e2, h⟩ := bd2_e h
  rcases if_e h with h | h
  · obtain ⟨I5, e3, h⟩ := bd_e h
    obtain ⟨v7, I6, e4, h⟩ := bd2_e h
    cases h
    exact ((congrFun (fr_X9_weaves e4 (by omega)) k).trans ((ff_X9_remembers e3 hk7).trans ((ff_X9_mayTwo e2 hk0).trans rfl)))
  · cases h
    exact ((ff_X9_mayTwo e2 hk0).trans rfl)
noncomputable def s_X9_unweave (I : JI) (m : Nat) (x1 : Int32) : Option (Int32 × JI) :=
  gd ((I m 6) = 0 ∨ (I m 6) = 1) <| gd ((I m 6) = 0 ∨ (I m 6) = 1) <| if (nz (I m 6)) = true then (gd (vp_in 5 2030) <| if (s_X9_in x1 1 (I (m + 1) (Int32.toNatClampNeg 5))) = true then (bd2 (s_X9_mayTwo I m (nz (I m 6)) true) fun z19 I18 => if z19 = true then (bd (s_X9_remembers I18 m) fun I21 => bd (s_X9_removes I21 m x1) fun I22 => gd (vp_in 5 2030) <| some ((I22 (m + 1) (Int32.toNatClampNeg 5)), I22)) else (some (0, I18))) else (bd2 (s_X9_mayTwo I m (nz (I m 6)) false) fun z13 I12 => if z13 = true then (bd (s_X9_remembers I12 m) fun I15 => bd (s_X9_removes I15 m x1) fun I16 => gd (vp_in 5 2030) <| some ((I16 (m + 1) (Int32.toNatClampNeg 5)), I16)) else (some (0, I12)))) else (bd2 (s_X9_mayTwo I m (nz (I m 6)) false) fun z5 I4 => if z5 = true then (bd (s_X9_remembers I4 m) fun I7 => bd (s_X9_removes I7 m x1) fun I8 => gd (vp_in 5 2030) <| some ((I8 (m + 1) (Int32.toNatClampNeg 5)), I8)) else (some (0, I4)))
set_option maxHeartbeats 4000000 in
theorem c_X9_unweave {Ω : JO} {I : JI} {S : JS} {Q : JQ} {m : Nat} {x1 : Int32} {r : Int32} {J : JI} (hm : Is9 S m) (h : s_X9_unweave I m x1 = some (r, J)) (hQ : Q (.inl (some (.int r))) J S) : Call Ω m_X9_unweave [.ref m, .int x1] I S Q := by
  refine call_of (by decide +kernel) rfl (Nat.le_of_ble_eq_true rfl) ?_
  change AA Ω m_X9_unweave (FQ Ω m_X9_unweave Q) 0 0 0 [(0, .ref m), (1, .int x1)] [] I S
  unfold s_X9_unweave at h
  refine r_aload_n (pc' := 1) dX9_unweave_0 rfl 0 rfl rfl ?_
  refine r_aload_n (pc' := 2) dX9_unweave_1 rfl 0 rfl rfl ?_
  obtain ⟨g1, h⟩ := gd_e h
  refine r_getZ (pc' := 5) dX9_unweave_2 fa_X9_53 hm.o rfl g1 rfl ?_
  refine r_aload_n (pc' := 6) dX9_unweave_5 rfl 0 rfl rfl ?_
  obtain ⟨g2, h⟩ := gd_e h
  refine r_getZ (pc' := 9) dX9_unweave_6 fa_X9_53 hm.o rfl g2 rfl ?_
  refine r_if_eq (tgt := 30) (pc' := 12) dX9_unweave_9 rfl rfl (fun h3 => ?_) (fun h3 => ?_)
  · have h := ifn (zb_n0 h3) h
    refine r_iconst (pc' := 31) (v := 0) dX9_unweave_30 (by decide) rfl ?_
    obtain ⟨z5, I4, ez5, h⟩ := bd2_e h
    refine r_callV2 (pc' := 34) (k' := 0) (n' := 0) dX9_unweave_31 mb_X9_mayTwo mi_X9_mayTwo hm.o (by decide) rfl lk_X9_393 rfl rfl rfl (Nat.le_of_ble_eq_true rfl) rfl (c_X9_mayTwo (b2 := false) hm ez5 (cpI ?_))
    refine r_if_ne (tgt := 39) (pc' := 37) dX9_unweave_34 rfl rfl (fun h6 => ?_) (fun h6 => ?_)
    · have h := ifp (zb_p0 h6) h
      refine r_aload_n (pc' := 40) dX9_unweave_39 rfl 0 rfl rfl ?_
      obtain ⟨I7, eI7, h⟩ := bd_e h
      refine r_callV0 (pc' := 43) (k' := 0) (n' := 0) dX9_unweave_40 mb_X9_remembers mi_X9_remembers hm.o (by decide) rfl lk_X9_481 rfl rfl rfl (Nat.le_of_ble_eq_true rfl) rfl (c_X9_remembers hm eI7 (cpV ?_))
      refine r_aload_n (pc' := 44) dX9_unweave_43 rfl 0 rfl rfl ?_
      refine r_iload_n (pc' := 45) dX9_unweave_44 rfl 1 rfl rfl ?_
      obtain ⟨I8, eI8, h⟩ := bd_e h
      refine r_callV1 (pc' := 48) (k' := 0) (n' := 0) dX9_unweave_45 mb_X9_removes mi_X9_removes hm.o (by decide) rfl lk_X9_214 rfl rfl rfl (Nat.le_of_ble_eq_true rfl) rfl (c_X9_removes hm eI8 (cpV ?_))
      refine r_aload_n (pc' := 49) dX9_unweave_48 rfl 0 rfl rfl ?_
      refine r_getO (pc' := 52) dX9_unweave_49 fa_X9_9 hm.o rfl hm.r1 rfl ?_
      refine r_iconst (pc' := 53) (v := 5) dX9_unweave_52 (by decide) rfl ?_
      obtain ⟨g9, h⟩ := gd_e h
      refine r_iaload (pc' := 54) dX9_unweave_53 hm.c1 g9 rfl ?_
      cases h
      exact r_iret dX9_unweave_54 rfl (by decide) (by decide) hQ
    · have h := ifn (zb_n0 h6) h
      refine r_iconst (pc' := 38) (v := 0) dX9_unweave_37 (by decide) rfl ?_
      cases h
      exact r_iret dX9_unweave_38 rfl (by decide) (by decide) hQ
  · have h := ifp (zb_p0 h3) h
    refine r_iload_n (pc' := 13) dX9_unweave_12 rfl 1 rfl rfl ?_
    refine r_iconst (pc' := 14) (v := 1) dX9_unweave_13 (by decide) rfl ?_
    refine r_aload_n (pc' := 15) dX9_unweave_14 rfl 0 rfl rfl ?_
    refine r_getO (pc' := 18) dX9_unweave_15 fa_X9_9 hm.o rfl hm.r1 rfl ?_
    refine r_iconst (pc' := 19) (v := 5) dX9_unweave_18 (by decide) rfl ?_
    obtain ⟨g10, h⟩ := gd_e h
    refine r_iaload (pc' := 20) dX9_unweave_19 hm.c1 g10 rfl ?_
    refine r_callS3 (pc' := 23) (k' := 0) (n' := 0) dX9_unweave_20 mb_X9_in ms_X9_in lk_X9_78 rfl rfl rfl (Nat.le_of_ble_eq_true rfl) rfl (c_X9_in rfl (cpI ?_))
    refine r_if_eq (tgt := 30) (pc' := 26) dX9_unweave_23 rfl rfl (fun h11 => ?_) (fun h11 => ?_)
    · have h := ifn (zb_n0 h11) h
      refine r_iconst (pc' := 31) (v := 0) dX9_unweave_30 (by decide) rfl ?_
      obtain ⟨z13, I12, ez13, h⟩ := bd2_e h
      refine r_callV2 (pc' := 34) (k' := 0) (n' := 0) dX9_unweave_31 mb_X9_mayTwo mi_X9_mayTwo hm.o (by decide) rfl lk_X9_393 rfl rfl rfl (Nat.le_of_ble_eq_true rfl) rfl (c_X9_mayTwo (b2 := false) hm ez13 (cpI ?_))
      refine r_if_ne (tgt := 39) (pc' := 37) dX9_unweave_34 rfl rfl (fun h14 => ?_) (fun h14 => ?_)
      · have h := ifp (zb_p0 h14) h
        refine r_aload_n (pc' := 40) dX9_unweave_39 rfl 0 rfl rfl ?_
        obtain ⟨I15, eI15, h⟩ := bd_e h
        refine r_callV0 (pc' := 43) (k' := 0) (n' := 0) dX9_unweave_40 mb_X9_remembers mi_X9_remembers hm.o (by decide) rfl lk_X9_481 rfl rfl rfl (Nat.le_of_ble_eq_true rfl) rfl (c_X9_remembers hm eI15 (cpV ?_))
        refine r_aload_n (pc' := 44) dX9_unweave_43 rfl 0 rfl rfl ?_
        refine r_iload_n (pc' := 45) dX9_unweave_44 rfl 1 rfl rfl ?_
        obtain ⟨I16, eI16, h⟩ := bd_e h
        refine r_callV1 (pc' := 48) (k' := 0) (n' := 0) dX9_unweave_45 mb_X9_removes mi_X9_removes hm.o (by decide) rfl lk_X9_214 rfl rfl rfl (Nat.le_of_ble_eq_true rfl) rfl (c_X9_removes hm eI16 (cpV ?_))
        refine r_aload_n (pc' := 49) dX9_unweave_48 rfl 0 rfl rfl ?_
        refine r_getO (pc' := 52) dX9_unweave_49 fa_X9_9 hm.o rfl hm.r1 rfl ?_
        refine r_iconst (pc' := 53) (v := 5) dX9_unweave_52 (by decide) rfl ?_
        obtain ⟨g17, h⟩ := gd_e h
        refine r_iaload (pc' := 54) dX9_unweave_53 hm.c1 g17 rfl ?_
        cases h
        exact r_iret dX9_unweave_54 rfl (by decide) (by decide) hQ
      · have h := ifn (zb_n0 h14) h
        refine r_iconst (pc' := 38) (v := 0) dX9_unweave_37 (by decide) rfl ?_
        cases h
        exact r_iret dX9_unweave_38 rfl (by decide) (by decide) hQ
    · have h := ifp (zb_p0 h11) h
      refine r_iconst (pc' := 27) (v := 1) dX9_unweave_26 (by decide) rfl ?_
      refine r_goto (tgt := 31) dX9_unweave_27 rfl ?_
      obtain ⟨z19, I18, ez19, h⟩ := bd2_e h
      refine r_callV2 (pc' := 34) (k' := 0) (n' := 0) dX9_unweave_31 mb_X9_mayTwo mi_X9_mayTwo hm.o (by decide) rfl lk_X9_393 rfl rfl rfl (Nat.le_of_ble_eq_true rfl) rfl (c_X9_mayTwo (b2 := true) hm ez19 (cpI ?_))
      refine r_if_ne (tgt := 39) (pc' := 37) dX9_unweave_34 rfl rfl (fun h20 => ?_) (fun h20 => ?_)
      · have h := ifp (zb_p0 h20) h
        refine r_aload_n (pc' := 40) dX9_unweave_39 rfl 0 rfl rfl ?_
        obtain ⟨I21, eI21, h⟩ := bd_e h
        refine r_callV0 (pc' := 43) (k' := 0) (n' := 0) dX9_unweave_40 mb_X9_remembers mi_X9_remembers hm.o (by decide) rfl lk_X9_481 rfl rfl rfl (Nat.le_of_ble_eq_true rfl) rfl (c_X9_remembers hm eI21 (cpV ?_))
        refine r_aload_n (pc' := 44) dX9_unweave_43 rfl 0 rfl rfl ?_
        refine r_iload_n (pc' := 45) dX9_unweave_44 rfl 1 rfl rfl ?_
        obtain ⟨I22, eI22, h⟩ := bd_e h
        refine r_callV1 (pc' := 48) (k' := 0) (n' := 0) dX9_unweave_45 mb_X9_removes mi_X9_removes hm.o (by decide) rfl lk_X9_214 rfl rfl rfl (Nat.le_of_ble_eq_true rfl) rfl (c_X9_removes hm eI22 (cpV ?_))
        refine r_aload_n (pc' := 49) dX9_unweave_48 rfl 0 rfl rfl ?_
        refine r_getO (pc' := 52) dX9_unweave_49 fa_X9_9 hm.o rfl hm.r1 rfl ?_
        refine r_iconst (pc' := 53) (v := 5) dX9_unweave_52 (by decide) rfl ?_
        obtain ⟨g23, h⟩ := gd_e h
        refine r_iaload (pc' := 54) dX9_unweave_53 hm.c1 g23 rfl ?_
        cases h
        exact r_iret dX9_unweave_54 rfl (by decide) (by decide) hQ
      · have h := ifn (zb_n0 h20) h
        refine r_iconst (pc' := 38) (v := 0) dX9_unweave_37 (by decide) rfl ?_
        cases h
        exact r_iret dX9_unweave_38 rfl (by decide) (by decide) hQ
set_option maxHeartbeats 4000000 in
theorem fr_X9_unweave {I : JI} {m : Nat} {x1 : Int32} {r : Int32} {J : JI} {z : Nat} (h : s_X9_unweave I m x1 = some (r, J)) (hz_m1 : z ≠ (m + 1)) (hz_m3 : z ≠ (m + 3)) (hz_m : z ≠ m) : J z = I z := by
  unfold s_X9_unweave at h
  obtain ⟨g1, h⟩ := gd_e h
  obtain ⟨g2, h⟩ := gd_e h
  rcases if_e h with h | h
  · obtain ⟨g3, h⟩ := gd_e h
    rcases if_e h with h | h
    · obtain ⟨z19, I18, e4, h⟩ := bd2_e h
      rcases if_e h with h | h
      · obtain ⟨I21, e5, h⟩ := bd_e h
        obtain ⟨I22, e6, h⟩ := bd_e h
        obtain ⟨g7, h⟩ := gd_e h
        cases h
        exact ((fr_X9_removes e6 (by omega)).trans ((fr_X9_remembers e5 (by omega) (by omega)).trans ((fr_X9_mayTwo e4 (by omega)).trans rfl)))
      · cases h
        exact ((fr_X9_mayTwo e4 (by omega)).trans rfl)
    · obtain ⟨z13, I12, e8, h⟩ := bd2_e h
      rcases if_e h with h | h
      · obtain ⟨I15, e9, h⟩ := bd_e h
        obtain ⟨I16, e10, h⟩ := bd_e h
        obtain ⟨g11, h⟩ := gd_e h
        cases h
        exact ((fr_X9_removes e10 (by omega)).trans ((fr_X9_remembers e9 (by omega) (by omega)).trans ((fr_X9_mayTwo e8 (by omega)).trans rfl)))
      · cases h
        exact ((fr_X9_mayTwo e8 (by omega)).trans rfl)
  · obtain ⟨z5, I4, e12, h⟩ := bd2_e h
    rcases if_e h with h | h
    · obtain ⟨I7, e13, h⟩ := bd_e h
      obtain ⟨I8, e14, h⟩ := bd_e h
      obtain ⟨g15, h⟩ := gd_e h
      cases h
      exact ((fr_X9_removes e14 (by omega)).trans ((fr_X9_remembers e13 (by omega) (by omega)).trans ((fr_X9_mayTwo e12 (by omega)).trans rfl)))
    · cases h
      exact ((fr_X9_mayTwo e12 (by omega)).trans rfl)
set_option maxHeartbeats 4000000 in
theorem ff_X9_unweave {I : JI} {m : Nat} {x1 : Int32} {r : Int32} {J : JI} {k : Nat} (h : s_X9_unweave I m x1 = some (r, J)) (hk0 : k ≠ 0) (hk7 : k ≠ 7) : J m k = I m k := by
  unfold s_X9_unweave at h
  obtain ⟨g1, h⟩ := gd_e h
  obtain ⟨g2, h⟩ := gd_e h
  rcases if_e h with h | h
  · obtain ⟨g3, h⟩ := gd_e h
    rcases if_e h with h | h
    · obtain ⟨z19, I18, e4, h⟩ := bd2_e h
      rcases if_e h with h | h
      · obtain ⟨I21, e5, h⟩ := bd_e h
        obtain ⟨I22, e6, h⟩ := bd_e h
        obtain ⟨g7, h⟩ := gd_e h
        cases h
        exact ((congrFun (fr_X9_removes e6 (by omega)) k).trans ((ff_X9_remembers e5 hk7).trans ((ff_X9_mayTwo e4 hk0).trans rfl)))
      · cases h
        exact ((ff_X9_mayTwo e4 hk0).trans rfl)
    · obtain ⟨z13, I12, e8, h⟩ := bd2_e h
      rcases if_e h with h | h
      · obtain ⟨I15, e9, h⟩ := bd_e h
        obtain ⟨I16, e10, h⟩ := bd_e h
        obtain ⟨g11, h⟩ := gd_e h
        cases h
        exact ((congrFun (fr_X9_removes e10 (by omega)) k).trans ((ff_X9_remembers e9 hk7).trans ((ff_X9_mayTwo e8 hk0).trans rfl)))
      · cases h
        exact ((ff_X9_mayTwo e8 hk0).trans rfl)
  · obtain ⟨z5, I4, e12, h⟩ := bd2_e h
    rcases if_e h with h | h
    · obtain ⟨I7, e13, h⟩ := bd_e h
      obtain ⟨I8, e14, h⟩ := bd_e h
      obtain ⟨g15, h⟩ := gd_e h
      cases h
      exact ((congrFun (fr_X9_removes e14 (by omega)) k).trans ((ff_X9_remembers e13 hk7).trans ((ff_X9_mayTwo e12 hk0).trans rfl)))
    · cases h
      exact ((ff_X9_mayTwo e12 hk0).trans rfl)
noncomputable def s_X9_swapCards (I : JI) (m : Nat) (x1 : Int32) (x2 : Int32) : Option (Int32 × JI) :=
  bd2 (s_X9_mayCards I m x1 x2) fun z2 I1 => if z2 = true then (bd (s_X9_remembers I1 m) fun I4 => bd (s_X9_swaps I4 m x1 x2) fun I5 => bd (s_X9_usesOf I5 m x1 x2) fun v6 => some (v6, I5)) else (some (0, I1))
set_option maxHeartbeats 4000000 in
theorem c_X9_swapCards {Ω : JO} {I : JI} {S : JS} {Q : JQ} {m : Nat} {x1 : Int32} {x2 : Int32} {r : Int32} {J : JI} (hm : Is9 S m) (h : s_X9_swapCards I m x1 x2 = some (r, J)) (hQ : Q (.inl (some (.int r))) J S) : Call Ω m_X9_swapCards [.ref m, .int x1, .int x2] I S Q := by
  refine call_of (by decide +kernel) rfl (Nat.le_of_ble_eq_true rfl) ?_
  change AA Ω m_X9_swapCards (FQ Ω m_X9_swapCards Q) 0 0 0 [(0, .ref m), (1, .int x1), (2, .int x2)] [] I S
  unfold s_X9_swapCards at h
  refine r_aload_n (pc' := 1) dX9_swapCards_0 rfl 0 rfl rfl ?_
  refine r_iload_n (pc' := 2) dX9_swapCards_1 rfl 1 rfl rfl ?_
  refine r_iload_n (pc' := 3) dX9_swapCards_2 rfl 2 rfl rfl ?_
  obtain ⟨z2, I1, ez2, h⟩ := bd2_e h
  refine r_callV2 (pc' := 6) (k' := 0) (n' := 0) dX9_swapCards_3 mb_X9_mayCards mi_X9_mayCards hm.o (by decide) rfl lk_X9_427 rfl rfl rfl (Nat.le_of_ble_eq_true rfl) rfl (c_X9_mayCards hm ez2 (cpI ?_))
  refine r_if_ne (tgt := 11) (pc' := 9) dX9_swapCards_6 rfl rfl (fun h3 => ?_) (fun h3 => ?_)
  · have h := ifp (zb_p0 h3) h
    refine r_aload_n (pc' := 12) dX9_swapCards_11 rfl 0 rfl rfl ?_
    obtain ⟨I4, eI4, h⟩ := bd_e h
    refine r_callV0 (pc' := 15) (k' := 0) (n' := 0) dX9_swapCards_12 mb_X9_remembers mi_X9_remembers hm.o (by decide) rfl lk_X9_481 rfl rfl rfl (Nat.le_of_ble_eq_true rfl) rfl (c_X9_remembers hm eI4 (cpV ?_))
    refine r_aload_n (pc' := 16) dX9_swapCards_15 rfl 0 rfl rfl ?_
    refine r_iload_n (pc' := 17) dX9_swapCards_16 rfl 1 rfl rfl ?_
    refine r_iload_n (pc' := 18) dX9_swapCards_17 rfl 2 rfl rfl ?_
    obtain ⟨I5, eI5, h⟩ := bd_e h
    refine r_callV2 (pc' := 21) (k' := 0) (n' := 0) dX9_swapCards_18 mb_X9_swaps mi_X9_swaps hm.o (by decide) rfl lk_X9_220 rfl rfl rfl (Nat.le_of_ble_eq_true rfl) rfl (c_X9_swaps hm eI5 (cpV ?_))
    refine r_aload_n (pc' := 22) dX9_swapCards_21 rfl 0 rfl rfl ?_
    refine r_iload_n (pc' := 23) dX9_swapCards_22 rfl 1 rfl rfl ?_
    refine r_iload_n (pc' := 24) dX9_swapCards_23 rfl 2 rfl rfl ?_
    obtain ⟨v6, ev6, h⟩ := bd_e h
    refine r_callV2 (pc' := 27) (k' := 0) (n' := 0) dX9_swapCards_24 mb_X9_usesOf mi_X9_usesOf hm.o (by decide) rfl lk_X9_433 rfl rfl rfl (Nat.le_of_ble_eq_true rfl) rfl (c_X9_usesOf hm ev6 (cpI ?_))
    cases h
    exact r_iret dX9_swapCards_27 rfl (by decide) (by decide) hQ
  · have h := ifn (zb_n0 h3) h
    refine r_iconst (pc' := 10) (v := 0) dX9_swapCards_9 (by decide) rfl ?_
    cases h
    exact r_iret dX9_swapCards_10 rfl (by decide) (by decide) hQ
set_option maxHeartbeats 4000000 in
theorem fr_X9_swapCards {I : JI} {m : Nat} {x1 : Int32} {x2 : Int32} {r : Int32} {J : JI} {z : Nat} (h : s_X9_swapCards I m x1 x2 = some (r, J)) (hz_m1 : z ≠ (m + 1)) (hz_m3 : z ≠ (m + 3)) (hz_m : z ≠ m) : J z = I z := by
  unfold s_X9_swapCards at h
  obtain ⟨z2, I1, e1, h⟩ := bd2_e h
  rcases if_e h with h | h
  · obtain ⟨I4, e2, h⟩ := bd_e h
    obtain ⟨I5, e3, h⟩ := bd_e h
    obtain ⟨o4, e4, h⟩ := bd_e h
    cases h
    exact ((fr_X9_swaps e3 (by omega)).trans ((fr_X9_remembers e2 (by omega) (by omega)).trans ((fr_X9_mayCards e1 (by omega)).trans rfl)))
  · cases h
    exact ((fr_X9_mayCards e1 (by omega)).trans rfl)
set_option maxHeartbeats 4000000 in
theorem ff_X9_swapCards {I : JI} {m : Nat} {x1 : Int32} {x2 : Int32} {r : Int32} {J : JI} {k : Nat} (h : s_X9_swapCards I m x1 x2 = some (r, J)) (hk0 : k ≠ 0) (hk7 : k ≠ 7) : J m k = I m k := by
  unfold s_X9_swapCards at h
  obtain ⟨z2, I1, e1, h⟩ := bd2_e h
  rcases if_e h with h | h
  · obtain ⟨I4, e2, h⟩ := bd_e h
    obtain ⟨I5, e3, h⟩ := bd_e h
    obtain ⟨o4, e4, h⟩ := bd_e h
    cases h
    exact ((congrFun (fr_X9_swaps e3 (by omega)) k).trans ((ff_X9_remembers e2 hk7).trans ((ff_X9_mayCards e1 hk0).trans rfl)))
  · cases h
    exact ((ff_X9_mayCards e1 hk0).trans rfl)
noncomputable def s_X9_punch (I : JI) (m : Nat) (x1 : Int32) (x2 : Int32) : Option (Bool × JI) :=
  gd ((I m 6) = 0 ∨ (I m 6) = 1) <| bd (s_X9_isCard I m x1) fun z2 => if z2 = true then (bd (s_X9_isHarness I m x2) fun z10 => if z10 = true then (bd2 (s_X9_mayTwo I m (nz (I m 6)) true) fun z19 I18 => if z19 = true then (bd (s_X9_remembers I18 m) fun I21 => bd (s_X9_punches I21 m x1 x2) fun I22 => bd (s_X9_ofCard I22 m x1 0) fun v23 => some ((s_X9_has v23 x2), I22)) else (some (false, I18))) else (bd2 (s_X9_mayTwo I m (nz (I m 6)) false) fun z13 I12 => if z13 = true then (bd (s_X9_remembers I12 m) fun I15 => bd (s_X9_punches I15 m x1 x2) fun I16 => bd (s_X9_ofCard I16 m x1 0) fun v17 => some ((s_X9_has v17 x2), I16)) else (some (false, I12)))) else (bd2 (s_X9_mayTwo I m (nz (I m 6)) false) fun z5 I4 => if z5 = true then (bd (s_X9_remembers I4 m) fun I7 => bd (s_X9_punches I7 m x1 x2) fun I8 => bd (s_X9_ofCard I8 m x1 0) fun v9 => some ((s_X9_has v9 x2), I8)) else (some (false, I4)))
set_option maxHeartbeats 4000000 in
theorem c_X9_punch {Ω : JO} {I : JI} {S : JS} {Q : JQ} {m : Nat} {x1 : Int32} {x2 : Int32} {r : Bool} {J : JI} (hm : Is9 S m) (h : s_X9_punch I m x1 x2 = some (r, J)) (hQ : Q (.inl (some (.int (zb r)))) J S) : Call Ω m_X9_punch [.ref m, .int x1, .int x2] I S Q := by
  refine call_of (by decide +kernel) rfl (Nat.le_of_ble_eq_true rfl) ?_
  change AA Ω m_X9_punch (FQ Ω m_X9_punch Q) 0 0 0 [(0, .ref m), (1, .int x1), (2, .int x2)] [] I S
  unfold s_X9_punch at h
  refine r_aload_n (pc' := 1) dX9_punch_0 rfl 0 rfl rfl ?_
  refine r_aload_n (pc' := 2) dX9_punch_1 rfl 0 rfl rfl ?_
  obtain ⟨g1, h⟩ := gd_e h
  refine r_getZ (pc' := 5) dX9_punch_2 fa_X9_53 hm.o rfl g1 rfl ?_
  refine r_aload_n (pc' := 6) dX9_punch_5 rfl 0 rfl rfl ?_
  refine r_iload_n (pc' := 7) dX9_punch_6 rfl 1 rfl rfl ?_
  obtain ⟨z2, ez2, h⟩ := bd_e h
  refine r_callV1 (pc' := 10) (k' := 0) (n' := 0) dX9_punch_7 mb_X9_isCard mi_X9_isCard hm.o (by decide) rfl lk_X9_400 rfl rfl rfl (Nat.le_of_ble_eq_true rfl) rfl (c_X9_isCard hm ez2 (cpI ?_))
  refine r_if_eq (tgt := 25) (pc' := 13) dX9_punch_10 rfl rfl (fun h3 => ?_) (fun h3 => ?_)
  · have h := ifn (zb_n0 h3) h
    refine r_iconst (pc' := 26) (v := 0) dX9_punch_25 (by decide) rfl ?_
    obtain ⟨z5, I4, ez5, h⟩ := bd2_e h
    refine r_callV2 (pc' := 29) (k' := 0) (n' := 0) dX9_punch_26 mb_X9_mayTwo mi_X9_mayTwo hm.o (by decide) rfl lk_X9_393 rfl rfl rfl (Nat.le_of_ble_eq_true rfl) rfl (c_X9_mayTwo (b2 := false) hm ez5 (cpI ?_))
    refine r_if_ne (tgt := 34) (pc' := 32) dX9_punch_29 rfl rfl (fun h6 => ?_) (fun h6 => ?_)
    · have h := ifp (zb_p0 h6) h
      refine r_aload_n (pc' := 35) dX9_punch_34 rfl 0 rfl rfl ?_
      obtain ⟨I7, eI7, h⟩ := bd_e h
      refine r_callV0 (pc' := 38) (k' := 0) (n' := 0) dX9_punch_35 mb_X9_remembers mi_X9_remembers hm.o (by decide) rfl lk_X9_481 rfl rfl rfl (Nat.le_of_ble_eq_true rfl) rfl (c_X9_remembers hm eI7 (cpV ?_))
      refine r_aload_n (pc' := 39) dX9_punch_38 rfl 0 rfl rfl ?_
      refine r_iload_n (pc' := 40) dX9_punch_39 rfl 1 rfl rfl ?_
      refine r_iload_n (pc' := 41) dX9_punch_40 rfl 2 rfl rfl ?_
      obtain ⟨I8, eI8, h⟩ := bd_e h
      refine r_callV2 (pc' := 44) (k' := 0) (n' := 0) dX9_punch_41 mb_X9_punches mi_X9_punches hm.o (by decide) rfl lk_X9_223 rfl rfl rfl (Nat.le_of_ble_eq_true rfl) rfl (c_X9_punches hm eI8 (cpV ?_))
      refine r_aload_n (pc' := 45) dX9_punch_44 rfl 0 rfl rfl ?_
      refine r_iload_n (pc' := 46) dX9_punch_45 rfl 1 rfl rfl ?_
      refine r_iconst (pc' := 47) (v := 0) dX9_punch_46 (by decide) rfl ?_
      obtain ⟨v9, ev9, h⟩ := bd_e h
      refine r_callV2 (pc' := 50) (k' := 0) (n' := 0) dX9_punch_47 mb_X9_ofCard mi_X9_ofCard hm.o (by decide) rfl lk_X9_232 rfl rfl rfl (Nat.le_of_ble_eq_true rfl) rfl (c_X9_ofCard hm ev9 (cpI ?_))
      refine r_iload_n (pc' := 51) dX9_punch_50 rfl 2 rfl rfl ?_
      refine r_callS2 (pc' := 54) (k' := 0) (n' := 0) dX9_punch_51 mb_X9_has ms_X9_has lk_X9_147 rfl rfl rfl (Nat.le_of_ble_eq_true rfl) rfl (c_X9_has rfl (cpI ?_))
      cases h
      exact r_zret dX9_punch_54 rfl (zb01 _) (by decide) (by decide) hQ
    · have h := ifn (zb_n0 h6) h
      refine r_iconst (pc' := 33) (v := 0) dX9_punch_32 (by decide) rfl ?_
      cases h
      exact r_zret dX9_punch_33 rfl (by decide) (by decide) (by decide) hQ
  · have h := ifp (zb_p0 h3) h
    refine r_aload_n (pc' := 14) dX9_punch_13 rfl 0 rfl rfl ?_
    refine r_iload_n (pc' := 15) dX9_punch_14 rfl 2 rfl rfl ?_
    obtain ⟨z10, ez10, h⟩ := bd_e h
    refine r_callV1 (pc' := 18) (k' := 0) (n' := 0) dX9_punch_15 mb_X9_isHarness mi_X9_isHarness hm.o (by decide) rfl lk_X9_390 rfl rfl rfl (Nat.le_of_ble_eq_true rfl) rfl (c_X9_isHarness hm ez10 (cpI ?_))
    refine r_if_eq (tgt := 25) (pc' := 21) dX9_punch_18 rfl rfl (fun h11 => ?_) (fun h11 => ?_)
    · have h := ifn (zb_n0 h11) h
      refine r_iconst (pc' := 26) (v := 0) dX9_punch_25 (by decide) rfl ?_
      obtain ⟨z13, I12, ez13, h⟩ := bd2_e h
      refine r_callV2 (pc' := 29) (k' := 0) (n' := 0) dX9_punch_26 mb_X9_mayTwo mi_X9_mayTwo hm.o (by decide) rfl lk_X9_393 rfl rfl rfl (Nat.le_of_ble_eq_true rfl) rfl (c_X9_mayTwo (b2 := false) hm ez13 (cpI ?_))
      refine r_if_ne (tgt := 34) (pc' := 32) dX9_punch_29 rfl rfl (fun h14 => ?_) (fun h14 => ?_)
      · have h := ifp (zb_p0 h14) h
        refine r_aload_n (pc' := 35) dX9_punch_34 rfl 0 rfl rfl ?_
        obtain ⟨I15, eI15, h⟩ := bd_e h
        refine r_callV0 (pc' := 38) (k' := 0) (n' := 0) dX9_punch_35 mb_X9_remembers mi_X9_remembers hm.o (by decide) rfl lk_X9_481 rfl rfl rfl (Nat.le_of_ble_eq_true rfl) rfl (c_X9_remembers hm eI15 (cpV ?_))
        refine r_aload_n (pc' := 39) dX9_punch_38 rfl 0 rfl rfl ?_
        refine r_iload_n (pc' := 40) dX9_punch_39 rfl 1 rfl rfl ?_
        refine r_iload_n (pc' := 41) dX9_punch_40 rfl 2 rfl rfl ?_
        obtain ⟨I16, eI16, h⟩ := bd_e h
        refine r_callV2 (pc' := 44) (k' := 0) (n' := 0) dX9_punch_41 mb_X9_punches mi_X9_punches hm.o (by decide) rfl lk_X9_223 rfl rfl rfl (Nat.le_of_ble_eq_true rfl) rfl (c_X9_punches hm eI16 (cpV ?_))
        refine r_aload_n (pc' := 45) dX9_punch_44 rfl 0 rfl rfl ?_
        refine r_iload_n (pc' := 46) dX9_punch_45 rfl 1 rfl rfl ?_
        refine r_iconst (pc' := 47) (v := 0) dX9_punch_46 (by decide) rfl ?_
        obtain ⟨v17, ev17, h⟩ := bd_e h
        refine r_callV2 (pc' := 50) (k' := 0) (n' := 0) dX9_punch_47 mb_X9_ofCard mi_X9_ofCard hm.o (by decide) rfl lk_X9_232 rfl rfl rfl (Nat.le_of_ble_eq_true rfl) rfl (c_X9_ofCard hm ev17 (cpI ?_))
        refine r_iload_n (pc' := 51) dX9_punch_50 rfl 2 rfl rfl ?_
        refine r_callS2 (pc' := 54) (k' := 0) (n' := 0) dX9_punch_51 mb_X9_has ms_X9_has lk_X9_147 rfl rfl rfl (Nat.le_of_ble_eq_true rfl) rfl (c_X9_has rfl (cpI ?_))
        cases h
        exact r_zret dX9_punch_54 rfl (zb01 _) (by decide) (by decide) hQ
      · have h := ifn (zb_n0 h14) h
        refine r_iconst (pc' := 33) (v := 0) dX9_punch_32 (by decide) rfl ?_
        cases h
        exact r_zret dX9_punch_33 rfl (by decide) (by decide) (by decide) hQ
    · have h := ifp (zb_p0 h11) h
      refine r_iconst (pc' := 22) (v := 1) dX9_punch_21 (by decide) rfl ?_
      refine r_goto (tgt := 26) dX9_punch_22 rfl ?_
      obtain ⟨z19, I18, ez19, h⟩ := bd2_e h
      refine r_callV2 (pc' := 29) (k' := 0) (n' := 0) dX9_punch_26 mb_X9_mayTwo mi_X9_mayTwo hm.o (by decide) rfl lk_X9_393 rfl rfl rfl (Nat.le_of_ble_eq_true rfl) rfl (c_X9_mayTwo (b2 := true) hm ez19 (cpI ?_))
      refine r_if_ne (tgt := 34) (pc' := 32) dX9_punch_29 rfl rfl (fun h20 => ?_) (fun h20 => ?_)
      · have h := ifp (zb_p0 h20) h
        refine r_aload_n (pc' := 35) dX9_punch_34 rfl 0 rfl rfl ?_
        obtain ⟨I21, eI21, h⟩ := bd_e h
        refine r_callV0 (pc' := 38) (k' := 0) (n' := 0) dX9_punch_35 mb_X9_remembers mi_X9_remembers hm.o (by decide) rfl lk_X9_481 rfl rfl rfl (Nat.le_of_ble_eq_true rfl) rfl (c_X9_remembers hm eI21 (cpV ?_))
        refine r_aload_n (pc' := 39) dX9_punch_38 rfl 0 rfl rfl ?_
        refine r_iload_n (pc' := 40) dX9_punch_39 rfl 1 rfl rfl ?_
        refine r_iload_n (pc' := 41) dX9_punch_40 rfl 2 rfl rfl ?_
        obtain ⟨I22, eI22, h⟩ := bd_e h
        refine r_callV2 (pc' := 44) (k' := 0) (n' := 0) dX9_punch_41 mb_X9_punches mi_X9_punches hm.o (by decide) rfl lk_X9_223 rfl rfl rfl (Nat.le_of_ble_eq_true rfl) rfl (c_X9_punches hm eI22 (cpV ?_))
        refine r_aload_n (pc' := 45) dX9_punch_44 rfl 0 rfl rfl ?_
        refine r_iload_n (pc' := 46) dX9_punch_45 rfl 1 rfl rfl ?_
        refine r_iconst (pc' := 47) (v := 0) dX9_punch_46 (by decide) rfl ?_
        obtain ⟨v23, ev23, h⟩ := bd_e h
        refine r_callV2 (pc' := 50) (k' := 0) (n' := 0) dX9_punch_47 mb_X9_ofCard mi_X9_ofCard hm.o (by decide) rfl lk_X9_232 rfl rfl rfl (Nat.le_of_ble_eq_true rfl) rfl (c_X9_ofCard hm ev23 (cpI ?_))
        refine r_iload_n (pc' := 51) dX9_punch_50 rfl 2 rfl rfl ?_
        refine r_callS2 (pc' := 54) (k' := 0) (n' := 0) dX9_punch_51 mb_X9_has ms_X9_has lk_X9_147 rfl rfl rfl (Nat.le_of_ble_eq_true rfl) rfl (c_X9_has rfl (cpI ?_))
        cases h
        exact r_zret dX9_punch_54 rfl (zb01 _) (by decide) (by decide) hQ
      · have h := ifn (zb_n0 h20) h
        refine r_iconst (pc' := 33) (v := 0) dX9_punch_32 (by decide) rfl ?_
        cases h
        exact r_zret dX9_punch_33 rfl (by decide) (by decide) (by decide) hQ
set_option maxHeartbeats 4000000 in
theorem fr_X9_punch {I : JI} {m : Nat} {x1 : Int32} {x2 : Int32} {r : Bool} {J : JI} {z : Nat} (h : s_X9_punch I m x1 x2 = some (r, J)) (hz_m1 : z ≠ (m + 1)) (hz_m3 : z ≠ (m + 3)) (hz_m : z ≠ m) : J z = I z := by
  unfold s_X9_punch at h
  obtain ⟨g1, h⟩ := gd_e h
  obtain ⟨o2, e2, h⟩ := bd_e h
  rcases if_e h with h | h
  · obtain ⟨o3, e3, h⟩ := bd_e h
    rcases if_e h with h | h
    · obtain ⟨z19, I18, e4, h⟩ := bd2_e h
      rcases if_e h with h | h
      · obtain ⟨I21, e5, h⟩ := bd_e h
        obtain ⟨I22, e6, h⟩ := bd_e h
        obtain ⟨o7, e7, h⟩ := bd_e h
        cases h
        exact ((fr_X9_punches e6 (by omega)).trans ((fr_X9_remembers e5 (by omega) (by omega)).trans ((fr_X9_mayTwo e4 (by omega)).trans rfl)))
      · cases h
        exact ((fr_X9_mayTwo e4 (by omega)).trans rfl)
    · obtain ⟨z13, I12, e8, h⟩ := bd2_e h
      rcases if_e h with h | h
      · obtain ⟨I15, e9, h⟩ := bd_e h
        obtain ⟨I16, e10, h⟩ := bd_e h
        obtain ⟨o11, e11, h⟩ := bd_e h
        cases h
        exact ((fr_X9_punches e10 (by omega)).trans ((fr_X9_remembers e9 (by omega) (by omega)).trans ((fr_X9_mayTwo e8 (by omega)).trans rfl)))
      · cases h
        exact ((fr_X9_mayTwo e8 (by omega)).trans rfl)
  · obtain ⟨z5, I4, e12, h⟩ := bd2_e h
    rcases if_e h with h | h
    · obtain ⟨I7, e13, h⟩ := bd_e h
      obtain ⟨I8, e14, h⟩ := bd_e h
      obtain ⟨o15, e15, h⟩ := bd_e h
      cases h
      exact ((fr_X9_punches e14 (by omega)).trans ((fr_X9_remembers e13 (by omega) (by omega)).trans ((fr_X9_mayTwo e12 (by omega)).trans rfl)))
    · cases h
      exact ((fr_X9_mayTwo e12 (by omega)).trans rfl)
set_option maxHeartbeats 4000000 in
theorem ff_X9_punch {I : JI} {m : Nat} {x1 : Int32} {x2 : Int32} {r : Bool} {J : JI} {k : Nat} (h : s_X9_punch I m x1 x2 = some (r, J)) (hk0 : k ≠ 0) (hk7 : k ≠ 7) : J m k = I m k := by
  unfold s_X9_punch at h
  obtain ⟨g1, h⟩ := gd_e h
  obtain ⟨o2, e2, h⟩ := bd_e h
  rcases if_e h with h | h
  · obtain ⟨o3, e3, h⟩ := bd_e h
    rcases if_e h with h | h
    · obtain ⟨z19, I18, e4, h⟩ := bd2_e h
      rcases if_e h with h | h
      · obtain ⟨I21, e5, h⟩ := bd_e h
        obtain ⟨I22, e6, h⟩ := bd_e h
        obtain ⟨o7, e7, h⟩ := bd_e h
        cases h
        exact ((congrFun (fr_X9_punches e6 (by omega)) k).trans ((ff_X9_remembers e5 hk7).trans ((ff_X9_mayTwo e4 hk0).trans rfl)))
      · cases h
        exact ((ff_X9_mayTwo e4 hk0).trans rfl)
    · obtain ⟨z13, I12, e8, h⟩ := bd2_e h
      rcases if_e h with h | h
      · obtain ⟨I15, e9, h⟩ := bd_e h
        obtain ⟨I16, e10, h⟩ := bd_e h
        obtain ⟨o11, e11, h⟩ := bd_e h
        cases h
        exact ((congrFun (fr_X9_punches e10 (by omega)) k).trans ((ff_X9_remembers e9 hk7).trans ((ff_X9_mayTwo e8 hk0).trans rfl)))
      · cases h
        exact ((ff_X9_mayTwo e8 hk0).trans rfl)
  · obtain ⟨z5, I4, e12, h⟩ := bd2_e h
    rcases if_e h with h | h
    · obtain ⟨I7, e13, h⟩ := bd_e h
      obtain ⟨I8, e14, h⟩ := bd_e h
      obtain ⟨o15, e15, h⟩ := bd_e h
      cases h
      exact ((congrFun (fr_X9_punches e14 (by omega)) k).trans ((ff_X9_remembers e13 hk7).trans ((ff_X9_mayTwo e12 hk0).trans rfl)))
    · cases h
      exact ((ff_X9_mayTwo e12 hk0).trans rfl)
noncomputable def s_X9_setCardColour (I : JI) (m : Nat) (x1 : Int32) (x2 : Int32) : Option (Int32 × JI) :=
  gd ((I m 6) = 0 ∨ (I m 6) = 1) <| bd (s_X9_isCard I m x1) fun z2 => bd2 (s_X9_may I m (nz (I m 6)) z2 (s_X9_isColour x2)) fun z4 I3 => if z4 = true then (bd (s_X9_remembers I3 m) fun I6 => bd (s_X9_ofCard I6 m x1 1) fun v7 => bd (s_X9_dyes I6 m x1 x2) fun I8 => some (v7, I8)) else (some (0, I3))
set_option maxHeartbeats 4000000 in
theorem c_X9_setCardColour {Ω : JO} {I : JI} {S : JS} {Q : JQ} {m : Nat} {x1 : Int32} {x2 : Int32} {r : Int32} {J : JI} (hm : Is9 S m) (h : s_X9_setCardColour I m x1 x2 = some (r, J)) (hQ : Q (.inl (some (.int r))) J S) : Call Ω m_X9_setCardColour [.ref m, .int x1, .int x2] I S Q := by
  refine call_of (by decide +kernel) rfl (Nat.le_of_ble_eq_true rfl) ?_
  change AA Ω m_X9_setCardColour (FQ Ω m_X9_setCardColour Q) 0 0 0 [(0, .ref m), (1, .int x1), (2, .int x2)] [] I S
  unfold s_X9_setCardColour at h
  refine r_aload_n (pc' := 1) dX9_setCardColour_0 rfl 0 rfl rfl ?_
  refine r_aload_n (pc' := 2) dX9_setCardColour_1 rfl 0 rfl rfl ?_
  obtain ⟨g1, h⟩ := gd_e h
  refine r_getZ (pc' := 5) dX9_setCardColour_2 fa_X9_53 hm.o rfl g1 rfl ?_
  refine r_aload_n (pc' := 6) dX9_setCardColour_5 rfl 0 rfl rfl ?_
  refine r_iload_n (pc' := 7) dX9_setCardColour_6 rfl 1 rfl rfl ?_
  obtain ⟨z2, ez2, h⟩ := bd_e h
  refine r_callV1 (pc' := 10) (k' := 0) (n' := 0) dX9_setCardColour_7 mb_X9_isCard mi_X9_isCard hm.o (by decide) rfl lk_X9_400 rfl rfl rfl (Nat.le_of_ble_eq_true rfl) rfl (c_X9_isCard hm ez2 (cpI ?_))
  refine r_iload_n (pc' := 11) dX9_setCardColour_10 rfl 2 rfl rfl ?_
  refine r_callS1 (pc' := 14) (k' := 0) (n' := 0) dX9_setCardColour_11 mb_X9_isColour ms_X9_isColour lk_X9_406 rfl rfl rfl (Nat.le_of_ble_eq_true rfl) rfl (c_X9_isColour rfl (cpI ?_))
  obtain ⟨z4, I3, ez4, h⟩ := bd2_e h
  refine r_callV3 (pc' := 17) (k' := 0) (n' := 0) dX9_setCardColour_14 mb_X9_may mi_X9_may hm.o (by decide) rfl lk_X9_49 rfl rfl rfl (Nat.le_of_ble_eq_true rfl) rfl (c_X9_may hm ez4 (cpI ?_))
  refine r_if_ne (tgt := 22) (pc' := 20) dX9_setCardColour_17 rfl rfl (fun h5 => ?_) (fun h5 => ?_)
  · have h := ifp (zb_p0 h5) h
    refine r_aload_n (pc' := 23) dX9_setCardColour_22 rfl 0 rfl rfl ?_
    obtain ⟨I6, eI6, h⟩ := bd_e h
    refine r_callV0 (pc' := 26) (k' := 0) (n' := 0) dX9_setCardColour_23 mb_X9_remembers mi_X9_remembers hm.o (by decide) rfl lk_X9_481 rfl rfl rfl (Nat.le_of_ble_eq_true rfl) rfl (c_X9_remembers hm eI6 (cpV ?_))
    refine r_aload_n (pc' := 27) dX9_setCardColour_26 rfl 0 rfl rfl ?_
    refine r_iload_n (pc' := 28) dX9_setCardColour_27 rfl 1 rfl rfl ?_
    refine r_iconst (pc' := 29) (v := 1) dX9_setCardColour_28 (by decide) rfl ?_
    obtain ⟨v7, ev7, h⟩ := bd_e h
    refine r_callV2 (pc' := 32) (k' := 0) (n' := 0) dX9_setCardColour_29 mb_X9_ofCard mi_X9_ofCard hm.o (by decide) rfl lk_X9_232 rfl rfl rfl (Nat.le_of_ble_eq_true rfl) rfl (c_X9_ofCard hm ev7 (cpI ?_))
    refine r_istore_n (pc' := 33) (lv' := [(3, _), (0, _), (1, _), (2, _)]) dX9_setCardColour_32 rfl (by decide) rfl rfl ?_
    refine r_aload_n (pc' := 34) dX9_setCardColour_33 rfl 1 rfl rfl ?_
    refine r_iload_n (pc' := 35) dX9_setCardColour_34 rfl 2 rfl rfl ?_
    refine r_iload_n (pc' := 36) dX9_setCardColour_35 rfl 3 rfl rfl ?_
    obtain ⟨I8, eI8, h⟩ := bd_e h
    refine r_callV2 (pc' := 39) (k' := 0) (n' := 0) dX9_setCardColour_36 mb_X9_dyes mi_X9_dyes hm.o (by decide) rfl lk_X9_226 rfl rfl rfl (Nat.le_of_ble_eq_true rfl) rfl (c_X9_dyes hm eI8 (cpV ?_))
    refine r_iload_n (pc' := 40) dX9_setCardColour_39 rfl 0 rfl rfl ?_
    cases h
    exact r_iret dX9_setCardColour_40 rfl (by decide) (by decide) hQ
  · have h := ifn (zb_n0 h5) h
    refine r_iconst (pc' := 21) (v := 0) dX9_setCardColour_20 (by decide) rfl ?_
    cases h
    exact r_iret dX9_setCardColour_21 rfl (by decide) (by decide) hQ
set_option maxHeartbeats 4000000 in
theorem fr_X9_setCardColour {I : JI} {m : Nat} {x1 : Int32} {x2 : Int32} {r : Int32} {J : JI} {z : Nat} (h : s_X9_setCardColour I m x1 x2 = some (r, J)) (hz_m1 : z ≠ (m + 1)) (hz_m3 : z ≠ (m + 3)) (hz_m : z ≠ m) : J z = I z := by
  unfold s_X9_setCardColour at h
  obtain ⟨g1, h⟩ := gd_e h
  obtain ⟨o2, e2, h⟩ := bd_e h
  obtain ⟨z4, I3, e3, h⟩ := bd2_e h
  rcases if_e h with h | h
  · obtain ⟨I6, e4, h⟩ := bd_e h
    obtain ⟨o5, e5, h⟩ := bd_e h
    obtain ⟨I8, e6, h⟩ := bd_e h
    cases h
    exact ((fr_X9_dyes e6 (by omega)).trans ((fr_X9_remembers e4 (by omega) (by omega)).trans ((fr_X9_may e3 (by omega)).trans rfl)))
  · cases h
    exact ((fr_X9_may e3 (by omega)).trans rfl)
set_option maxHeartbeats 4000000 in
theorem ff_X9_setCardColour {I : JI} {m : Nat} {x1 : Int32} {x2 : Int32} {r : Int32} {J : JI} {k : Nat} (h : s_X9_setCardColour I m x1 x2 = some (r, J)) (hk0 : k ≠ 0) (hk7 : k ≠ 7) : J m k = I m k := by
  unfold s_X9_setCardColour at h
  obtain ⟨g1, h⟩ := gd_e h
  obtain ⟨o2, e2, h⟩ := bd_e h
  obtain ⟨z4, I3, e3, h⟩ := bd2_e h
  rcases if_e h with h | h
  · obtain ⟨I6, e4, h⟩ := bd_e h
    obtain ⟨o5, e5, h⟩ := bd_e h
    obtain ⟨I8, e6, h⟩ := bd_e h
    cases h
    exact ((congrFun (fr_X9_dyes e6 (by omega)) k).trans ((ff_X9_remembers e4 hk7).trans ((ff_X9_may e3 hk0).trans rfl)))
  · cases h
    exact ((ff_X9_may e3 hk0).trans rfl)
