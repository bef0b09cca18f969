noncomputable def s_X9_putsWarp (I : JI) (m : Nat) (x1 : Int32) (x2 : Int32) (x3 : Int32) : Option (JI) :=
  gd (vp_in ((38 + (3 * x1)) + x2) 2030) <| lx (stI I (m + 1) (Int32.toNatClampNeg ((38 + (3 * x1)) + x2)) x3) fun I2 => some I2
set_option maxHeartbeats 4000000 in
theorem c_X9_putsWarp {Ω : JO} {I : JI} {S : JS} {Q : JQ} {m : Nat} {x1 : Int32} {x2 : Int32} {x3 : Int32} {J : JI} (hm : Is9 S m) (h : s_X9_putsWarp I m x1 x2 x3 = some J) (hQ : Q (.inl none) J S) : Call Ω m_X9_putsWarp [.ref m, .int x1, .int x2, .int x3] I S Q := by
  refine call_of (by decide +kernel) rfl (Nat.le_of_ble_eq_true rfl) ?_
  change AA Ω m_X9_putsWarp (FQ Ω m_X9_putsWarp Q) 0 0 0 [(0, .ref m), (1, .int x1), (2, .int x2), (3, .int x3)] [] I S
  unfold s_X9_putsWarp at h
  refine r_aload_n (pc' := 1) dX9_putsWarp_0 rfl 0 rfl rfl ?_
  refine r_getO (pc' := 4) dX9_putsWarp_1 fa_X9_9 hm.o rfl hm.r1 rfl ?_
  refine r_bipush (pc' := 6) (v := 38) dX9_putsWarp_4 (by decide) rfl ?_
  refine r_iconst (pc' := 7) (v := 3) dX9_putsWarp_6 (by decide) rfl ?_
  refine r_iload_n (pc' := 8) dX9_putsWarp_7 rfl 1 rfl rfl ?_
  refine r_imul (pc' := 9) dX9_putsWarp_8 rfl ?_
  refine r_iadd (pc' := 10) dX9_putsWarp_9 rfl ?_
  refine r_iload_n (pc' := 11) dX9_putsWarp_10 rfl 2 rfl rfl ?_
  refine r_iadd (pc' := 12) dX9_putsWarp_11 rfl ?_
  refine r_iload_n (pc' := 13) dX9_putsWarp_12 rfl 3 rfl rfl ?_
  obtain ⟨g1, h⟩ := gd_e h
  refine r_iastore (pc' := 14) dX9_putsWarp_13 hm.c1 g1 rfl ?_
  have h := lx_e h
  cases h
  exact r_ret dX9_putsWarp_14 rfl (by decide) (by decide) hQ
set_option maxHeartbeats 4000000 in
theorem fr_X9_putsWarp {I : JI} {m : Nat} {x1 : Int32} {x2 : Int32} {x3 : Int32} {J : JI} {z : Nat} (h : s_X9_putsWarp I m x1 x2 x3 = some J) (hz_m1 : z ≠ (m + 1)) : J z = I z := by
  unfold s_X9_putsWarp at h
  obtain ⟨g1, h⟩ := gd_e h
  have h := lx_e h
  cases h
  exact ((fr_stI (by omega)).trans rfl)
noncomputable def s_X9_addsWarp (I : JI) (m : Nat) (x1 : Int32) : Option (JI) :=
  bd2 (s_X9_indexHere I m 0) fun v2 I1 => gd (vp_in 2 2030) <| if (I1 (m + 1) (Int32.toNatClampNeg 2)) = 24 then (lx (s_X9_limits I1 m true) fun I17 => if (I17 m 10) ≤ 0 then (gd (vp_in 2 2030) <| bd (s_X9_putsWarp I17 m (I17 (m + 1) (Int32.toNatClampNeg 2)) 0 v2) fun I20 => gd (vp_in 2 2030) <| bd (s_X9_putsWarp I20 m (I20 (m + 1) (Int32.toNatClampNeg 2)) 1 x1) fun I22 => gd (vp_in 2 2030) <| bd (s_X9_putsWarp I22 m (I22 (m + 1) (Int32.toNatClampNeg 2)) 2 0) fun I24 => gd (vp_in 2 2030) <| gd (vp_in 2 2030) <| lx (stI I24 (m + 1) (Int32.toNatClampNeg 2) ((I24 (m + 1) (Int32.toNatClampNeg 2)) + 1)) fun I27 => bd (s_X9_goes I27 m) fun I28 => some I28) else (some I17)) else (lx (s_X9_limits I1 m false) fun I5 => if (I5 m 10) ≤ 0 then (gd (vp_in 2 2030) <| bd (s_X9_putsWarp I5 m (I5 (m + 1) (Int32.toNatClampNeg 2)) 0 v2) fun I8 => gd (vp_in 2 2030) <| bd (s_X9_putsWarp I8 m (I8 (m + 1) (Int32.toNatClampNeg 2)) 1 x1) fun I10 => gd (vp_in 2 2030) <| bd (s_X9_putsWarp I10 m (I10 (m + 1) (Int32.toNatClampNeg 2)) 2 0) fun I12 => gd (vp_in 2 2030) <| gd (vp_in 2 2030) <| lx (stI I12 (m + 1) (Int32.toNatClampNeg 2) ((I12 (m + 1) (Int32.toNatClampNeg 2)) + 1)) fun I15 => bd (s_X9_goes I15 m) fun I16 => some I16) else (some I5))
set_option maxHeartbeats 4000000 in
theorem c_X9_addsWarp {Ω : JO} {I : JI} {S : JS} {Q : JQ} {m : Nat} {x1 : Int32} {J : JI} (hm : Is9 S m) (h : s_X9_addsWarp I m x1 = some J) (hQ : Q (.inl none) J S) : Call Ω m_X9_addsWarp [.ref m, .int x1] I S Q := by
  refine call_of (by decide +kernel) rfl (Nat.le_of_ble_eq_true rfl) ?_
  change AA Ω m_X9_addsWarp (FQ Ω m_X9_addsWarp Q) 0 0 0 [(0, .ref m), (1, .int x1)] [] I S
  unfold s_X9_addsWarp at h
  refine r_aload_n (pc' := 1) dX9_addsWarp_0 rfl 0 rfl rfl ?_
  refine r_iconst (pc' := 2) (v := 0) dX9_addsWarp_1 (by decide) rfl ?_
  obtain ⟨v2, I1, ev2, h⟩ := bd2_e h
  refine r_callV1 (pc' := 5) (k' := 0) (n' := 0) dX9_addsWarp_2 mb_X9_indexHere mi_X9_indexHere hm.o (by decide) rfl lk_X9_127 rfl rfl rfl (Nat.le_of_ble_eq_true rfl) rfl (c_X9_indexHere hm ev2 (cpI ?_))
  refine r_istore_n (pc' := 6) (lv' := [(2, _), (0, _), (1, _)]) dX9_addsWarp_5 rfl (by decide) rfl rfl ?_
  refine r_aload_n (pc' := 7) dX9_addsWarp_6 rfl 1 rfl rfl ?_
  refine r_aload_n (pc' := 8) dX9_addsWarp_7 rfl 1 rfl rfl ?_
  refine r_getO (pc' := 11) dX9_addsWarp_8 fa_X9_9 hm.o rfl hm.r1 rfl ?_
  refine r_iconst (pc' := 12) (v := 2) dX9_addsWarp_11 (by decide) rfl ?_
  obtain ⟨g3, h⟩ := gd_e h
  refine r_iaload (pc' := 13) dX9_addsWarp_12 hm.c1 g3 rfl ?_
  refine r_bipush (pc' := 15) (v := 24) dX9_addsWarp_13 (by decide) rfl ?_
  refine r_icmp_ne (tgt := 22) (pc' := 18) dX9_addsWarp_15 rfl rfl (fun h4 => ?_) (fun h4 => ?_)
  · have h := ifn h4 h
    refine r_iconst (pc' := 23) (v := 0) dX9_addsWarp_22 (by decide) rfl ?_
    refine r_callV1 (pc' := 26) (k' := 0) (n' := 0) dX9_addsWarp_23 mb_X9_limits mi_X9_limits hm.o (by decide) rfl lk_X9_130 rfl rfl rfl (Nat.le_of_ble_eq_true rfl) rfl (c_X9_limits (b1 := false) hm rfl (cpV ?_))
    have h := lx_e h
    refine r_aload_n (pc' := 27) dX9_addsWarp_26 rfl 1 rfl rfl ?_
    refine r_getI (pc' := 30) dX9_addsWarp_27 fa_X9_68 hm.o rfl rfl ?_
    refine r_if_le (tgt := 34) (pc' := 33) dX9_addsWarp_30 rfl rfl (fun h6 => ?_) (fun h6 => ?_)
    · have h := ifp h6 h
      refine r_aload_n (pc' := 35) dX9_addsWarp_34 rfl 1 rfl rfl ?_
      refine r_aload_n (pc' := 36) dX9_addsWarp_35 rfl 1 rfl rfl ?_
      refine r_getO (pc' := 39) dX9_addsWarp_36 fa_X9_9 hm.o rfl hm.r1 rfl ?_
      refine r_iconst (pc' := 40) (v := 2) dX9_addsWarp_39 (by decide) rfl ?_
      obtain ⟨g7, h⟩ := gd_e h
      refine r_iaload (pc' := 41) dX9_addsWarp_40 hm.c1 g7 rfl ?_
      refine r_iconst (pc' := 42) (v := 0) dX9_addsWarp_41 (by decide) rfl ?_
      refine r_iload_n (pc' := 43) dX9_addsWarp_42 rfl 0 rfl rfl ?_
      obtain ⟨I8, eI8, h⟩ := bd_e h
      refine r_callV3 (pc' := 46) (k' := 0) (n' := 0) dX9_addsWarp_43 mb_X9_putsWarp mi_X9_putsWarp hm.o (by decide) rfl lk_X9_134 rfl rfl rfl (Nat.le_of_ble_eq_true rfl) rfl (c_X9_putsWarp hm eI8 (cpV ?_))
      refine r_aload_n (pc' := 47) dX9_addsWarp_46 rfl 1 rfl rfl ?_
      refine r_aload_n (pc' := 48) dX9_addsWarp_47 rfl 1 rfl rfl ?_
      refine r_getO (pc' := 51) dX9_addsWarp_48 fa_X9_9 hm.o rfl hm.r1 rfl ?_
      refine r_iconst (pc' := 52) (v := 2) dX9_addsWarp_51 (by decide) rfl ?_
      obtain ⟨g9, h⟩ := gd_e h
      refine r_iaload (pc' := 53) dX9_addsWarp_52 hm.c1 g9 rfl ?_
      refine r_iconst (pc' := 54) (v := 1) dX9_addsWarp_53 (by decide) rfl ?_
      refine r_iload_n (pc' := 55) dX9_addsWarp_54 rfl 2 rfl rfl ?_
      obtain ⟨I10, eI10, h⟩ := bd_e h
      refine r_callV3 (pc' := 58) (k' := 0) (n' := 0) dX9_addsWarp_55 mb_X9_putsWarp mi_X9_putsWarp hm.o (by decide) rfl lk_X9_134 rfl rfl rfl (Nat.le_of_ble_eq_true rfl) rfl (c_X9_putsWarp hm eI10 (cpV ?_))
      refine r_aload_n (pc' := 59) dX9_addsWarp_58 rfl 1 rfl rfl ?_
      refine r_aload_n (pc' := 60) dX9_addsWarp_59 rfl 1 rfl rfl ?_
      refine r_getO (pc' := 63) dX9_addsWarp_60 fa_X9_9 hm.o rfl hm.r1 rfl ?_
      refine r_iconst (pc' := 64) (v := 2) dX9_addsWarp_63 (by decide) rfl ?_
      obtain ⟨g11, h⟩ := gd_e h
      refine r_iaload (pc' := 65) dX9_addsWarp_64 hm.c1 g11 rfl ?_
      refine r_iconst (pc' := 66) (v := 2) dX9_addsWarp_65 (by decide) rfl ?_
      refine r_iconst (pc' := 67) (v := 0) dX9_addsWarp_66 (by decide) rfl ?_
      obtain ⟨I12, eI12, h⟩ := bd_e h
      refine r_callV3 (pc' := 70) (k' := 0) (n' := 0) dX9_addsWarp_67 mb_X9_putsWarp mi_X9_putsWarp hm.o (by decide) rfl lk_X9_134 rfl rfl rfl (Nat.le_of_ble_eq_true rfl) rfl (c_X9_putsWarp hm eI12 (cpV ?_))
      refine r_aload_n (pc' := 71) dX9_addsWarp_70 rfl 1 rfl rfl ?_
      refine r_getO (pc' := 74) dX9_addsWarp_71 fa_X9_9 hm.o rfl hm.r1 rfl ?_
      refine r_iconst (pc' := 75) (v := 2) dX9_addsWarp_74 (by decide) rfl ?_
      refine r_dup2 (pc' := 76) dX9_addsWarp_75 rfl rfl rfl ?_
      obtain ⟨g13, h⟩ := gd_e h
      refine r_iaload (pc' := 77) dX9_addsWarp_76 hm.c1 g13 rfl ?_
      refine r_iconst (pc' := 78) (v := 1) dX9_addsWarp_77 (by decide) rfl ?_
      refine r_iadd (pc' := 79) dX9_addsWarp_78 rfl ?_
      obtain ⟨g14, h⟩ := gd_e h
      refine r_iastore (pc' := 80) dX9_addsWarp_79 hm.c1 g14 rfl ?_
      have h := lx_e h
      refine r_aload_n (pc' := 81) dX9_addsWarp_80 rfl 1 rfl rfl ?_
      obtain ⟨I16, eI16, h⟩ := bd_e h
      refine r_callV0 (pc' := 84) (k' := 0) (n' := 0) dX9_addsWarp_81 mb_X9_goes mi_X9_goes hm.o (by decide) rfl lk_X9_124 rfl rfl rfl (Nat.le_of_ble_eq_true rfl) rfl (c_X9_goes hm eI16 (cpV ?_))
      cases h
      exact r_ret dX9_addsWarp_84 rfl (by decide) (by decide) hQ
    · have h := ifn h6 h
      cases h
      exact r_ret dX9_addsWarp_33 rfl (by decide) (by decide) hQ
  · have h := ifp h4 h
    refine r_iconst (pc' := 19) (v := 1) dX9_addsWarp_18 (by decide) rfl ?_
    refine r_goto (tgt := 23) dX9_addsWarp_19 rfl ?_
    refine r_callV1 (pc' := 26) (k' := 0) (n' := 0) dX9_addsWarp_23 mb_X9_limits mi_X9_limits hm.o (by decide) rfl lk_X9_130 rfl rfl rfl (Nat.le_of_ble_eq_true rfl) rfl (c_X9_limits (b1 := true) hm rfl (cpV ?_))
    have h := lx_e h
    refine r_aload_n (pc' := 27) dX9_addsWarp_26 rfl 1 rfl rfl ?_
    refine r_getI (pc' := 30) dX9_addsWarp_27 fa_X9_68 hm.o rfl rfl ?_
    refine r_if_le (tgt := 34) (pc' := 33) dX9_addsWarp_30 rfl rfl (fun h18 => ?_) (fun h18 => ?_)
    · have h := ifp h18 h
      refine r_aload_n (pc' := 35) dX9_addsWarp_34 rfl 1 rfl rfl ?_
      refine r_aload_n (pc' := 36) dX9_addsWarp_35 rfl 1 rfl rfl ?_
      refine r_getO (pc' := 39) dX9_addsWarp_36 fa_X9_9 hm.o rfl hm.r1 rfl ?_
      refine r_iconst (pc' := 40) (v := 2) dX9_addsWarp_39 (by decide) rfl ?_
      obtain ⟨g19, h⟩ := gd_e h
      refine r_iaload (pc' := 41) dX9_addsWarp_40 hm.c1 g19 rfl ?_
      refine r_iconst (pc' := 42) (v := 0) dX9_addsWarp_41 (by decide) rfl ?_
      refine r_iload_n (pc' := 43) dX9_addsWarp_42 rfl 0 rfl rfl ?_
      obtain ⟨I20, eI20, h⟩ := bd_e h
      refine r_callV3 (pc' := 46) (k' := 0) (n' := 0) dX9_addsWarp_43 mb_X9_putsWarp mi_X9_putsWarp hm.o (by decide) rfl lk_X9_134 rfl rfl rfl (Nat.le_of_ble_eq_true rfl) rfl (c_X9_putsWarp hm eI20 (cpV ?_))
      refine r_aload_n (pc' := 47) dX9_addsWarp_46 rfl 1 rfl rfl ?_
      refine r_aload_n (pc' := 48) dX9_addsWarp_47 rfl 1 rfl rfl ?_
      refine r_getO (pc' := 51) dX9_addsWarp_48 fa_X9_9 hm.o rfl hm.r1 rfl ?_
      refine r_iconst (pc' := 52) (v := 2) dX9_addsWarp_51 (by decide) rfl ?_
      obtain ⟨g21, h⟩ := gd_e h
      refine r_iaload (pc' := 53) dX9_addsWarp_52 hm.c1 g21 rfl ?_
      refine r_iconst (pc' := 54) (v := 1) dX9_addsWarp_53 (by decide) rfl ?_
      refine r_iload_n (pc' := 55) dX9_addsWarp_54 rfl 2 rfl rfl ?_
      obtain ⟨I22, eI22, h⟩ := bd_e h
      refine r_callV3 (pc' := 58) (k' := 0) (n' := 0) dX9_addsWarp_55 mb_X9_putsWarp mi_X9_putsWarp hm.o (by decide) rfl lk_X9_134 rfl rfl rfl (Nat.le_of_ble_eq_true rfl) rfl (c_X9_putsWarp hm eI22 (cpV ?_))
      refine r_aload_n (pc' := 59) dX9_addsWarp_58 rfl 1 rfl rfl ?_
      refine r_aload_n (pc' := 60) dX9_addsWarp_59 rfl 1 rfl rfl ?_
      refine r_getO (pc' := 63) dX9_addsWarp_60 fa_X9_9 hm.o rfl hm.r1 rfl ?_
      refine r_iconst (pc' := 64) (v := 2) dX9_addsWarp_63 (by decide) rfl ?_
      obtain ⟨g23, h⟩ := gd_e h
      refine r_iaload (pc' := 65) dX9_addsWarp_64 hm.c1 g23 rfl ?_
      refine r_iconst (pc' := 66) (v := 2) dX9_addsWarp_65 (by decide) rfl ?_
      refine r_iconst (pc' := 67) (v := 0) dX9_addsWarp_66 (by decide) rfl ?_
      obtain ⟨I24, eI24, h⟩ := bd_e h
      refine r_callV3 (pc' := 70) (k' := 0) (n' := 0) dX9_addsWarp_67 mb_X9_putsWarp mi_X9_putsWarp hm.o (by decide) rfl lk_X9_134 rfl rfl rfl (Nat.le_of_ble_eq_true rfl) rfl (c_X9_putsWarp hm eI24 (cpV ?_))
      refine r_aload_n (pc' := 71) dX9_addsWarp_70 rfl 1 rfl rfl ?_
      refine r_getO (pc' := 74) dX9_addsWarp_71 fa_X9_9 hm.o rfl hm.r1 rfl ?_
      refine r_iconst (pc' := 75) (v := 2) dX9_addsWarp_74 (by decide) rfl ?_
      refine r_dup2 (pc' := 76) dX9_addsWarp_75 rfl rfl rfl ?_
      obtain ⟨g25, h⟩ := gd_e h
      refine r_iaload (pc' := 77) dX9_addsWarp_76 hm.c1 g25 rfl ?_
      refine r_iconst (pc' := 78) (v := 1) dX9_addsWarp_77 (by decide) rfl ?_
      refine r_iadd (pc' := 79) dX9_addsWarp_78 rfl ?_
      obtain ⟨g26, h⟩ := gd_e h
      refine r_iastore (pc' := 80) dX9_addsWarp_79 hm.c1 g26 rfl ?_
      have h := lx_e h
      refine r_aload_n (pc' := 81) dX9_addsWarp_80 rfl 1 rfl rfl ?_
      obtain ⟨I28, eI28, h⟩ := bd_e h
      refine r_callV0 (pc' := 84) (k' := 0) (n' := 0) dX9_addsWarp_81 mb_X9_goes mi_X9_goes hm.o (by decide) rfl lk_X9_124 rfl rfl rfl (Nat.le_of_ble_eq_true rfl) rfl (c_X9_goes hm eI28 (cpV ?_))
      cases h
      exact r_ret dX9_addsWarp_84 rfl (by decide) (by decide) hQ
    · have h := ifn h18 h
      cases h
      exact r_ret dX9_addsWarp_33 rfl (by decide) (by decide) hQ
set_option maxHeartbeats 4000000 in
theorem fr_X9_addsWarp {I : JI} {m : Nat} {x1 : Int32} {J : JI} {z : Nat} (h : s_X9_addsWarp I m x1 = some J) (hz_m1 : z ≠ (m + 1)) (hz_m : z ≠ m) : J z = I z := by
  unfold s_X9_addsWarp at h
  obtain ⟨v2, I1, e1, h⟩ := bd2_e h
  obtain ⟨g2, h⟩ := gd_e h
  rcases if_e h with h | h
  · have h := lx_e h
    rcases if_e h with h | h
    · obtain ⟨g3, h⟩ := gd_e h
      obtain ⟨I20, e4, h⟩ := bd_e h
      obtain ⟨g5, h⟩ := gd_e h
      obtain ⟨I22, e6, h⟩ := bd_e h
      obtain ⟨g7, h⟩ := gd_e h
      obtain ⟨I24, e8, h⟩ := bd_e h
      obtain ⟨g9, h⟩ := gd_e h
      obtain ⟨g10, h⟩ := gd_e h
      have h := lx_e h
      obtain ⟨I28, e11, h⟩ := bd_e h
      cases h
      exact ((fr_X9_goes e11 (by omega)).trans ((fr_stI (by omega)).trans ((fr_X9_putsWarp e8 (by omega)).trans ((fr_X9_putsWarp e6 (by omega)).trans ((fr_X9_putsWarp e4 (by omega)).trans ((fr_X9_limits (by omega)).trans ((fr_X9_indexHere e1 (by omega)).trans rfl)))))))
    · cases h
      exact ((fr_X9_limits (by omega)).trans ((fr_X9_indexHere e1 (by omega)).trans rfl))
  · have h := lx_e h
    rcases if_e h with h | h
    · obtain ⟨g12, h⟩ := gd_e h
      obtain ⟨I8, e13, h⟩ := bd_e h
      obtain ⟨g14, h⟩ := gd_e h
      obtain ⟨I10, e15, h⟩ := bd_e h
      obtain ⟨g16, h⟩ := gd_e h
      obtain ⟨I12, e17, h⟩ := bd_e h
      obtain ⟨g18, h⟩ := gd_e h
      obtain ⟨g19, h⟩ := gd_e h
      have h := lx_e h
      obtain ⟨I16, e20, h⟩ := bd_e h
      cases h
      exact ((fr_X9_goes e20 (by omega)).trans ((fr_stI (by omega)).trans ((fr_X9_putsWarp e17 (by omega)).trans ((fr_X9_putsWarp e15 (by omega)).trans ((fr_X9_putsWarp e13 (by omega)).trans ((fr_X9_limits (by omega)).trans ((fr_X9_indexHere e1 (by omega)).trans rfl)))))))
    · cases h
      exact ((fr_X9_limits (by omega)).trans ((fr_X9_indexHere e1 (by omega)).trans rfl))
set_option maxHeartbeats 4000000 in
theorem ff_X9_addsWarp {I : JI} {m : Nat} {x1 : Int32} {J : JI} {k : Nat} (h : s_X9_addsWarp I m x1 = some J) (hk10 : k ≠ 10) (hk11 : k ≠ 11) (hk13 : k ≠ 13) (hk14 : k ≠ 14) (hk15 : k ≠ 15) (hk16 : k ≠ 16) : J m k = I m k := by
  unfold s_X9_addsWarp at h
  obtain ⟨v2, I1, e1, h⟩ := bd2_e h
  obtain ⟨g2, h⟩ := gd_e h
  rcases if_e h with h | h
  · have h := lx_e h
    rcases if_e h with h | h
    · obtain ⟨g3, h⟩ := gd_e h
      obtain ⟨I20, e4, h⟩ := bd_e h
      obtain ⟨g5, h⟩ := gd_e h
      obtain ⟨I22, e6, h⟩ := bd_e h
      obtain ⟨g7, h⟩ := gd_e h
      obtain ⟨I24, e8, h⟩ := bd_e h
      obtain ⟨g9, h⟩ := gd_e h
      obtain ⟨g10, h⟩ := gd_e h
      have h := lx_e h
      obtain ⟨I28, e11, h⟩ := bd_e h
      cases h
      exact ((ff_X9_goes e11 hk13 hk14 hk15 hk16).trans ((congrFun (fr_stI (by omega)) k).trans ((congrFun (fr_X9_putsWarp e8 (by omega)) k).trans ((congrFun (fr_X9_putsWarp e6 (by omega)) k).trans ((congrFun (fr_X9_putsWarp e4 (by omega)) k).trans ((ff_X9_limits hk10 hk11).trans ((ff_X9_indexHere e1 hk10 hk11).trans rfl)))))))
    · cases h
      exact ((ff_X9_limits hk10 hk11).trans ((ff_X9_indexHere e1 hk10 hk11).trans rfl))
  · have h := lx_e h
    rcases if_e h with h | h
    · obtain ⟨g12, h⟩ := gd_e h
      obtain ⟨I8, e13, h⟩ := bd_e h
      obtain ⟨g14, h⟩ := gd_e h
      obtain ⟨I10, e15, h⟩ := bd_e h
      obtain ⟨g16, h⟩ := gd_e h
      obtain ⟨I12, e17, h⟩ := bd_e h
      obtain ⟨g18, h⟩ := gd_e h
      obtain ⟨g19, h⟩ := gd_e h
      have h := lx_e h
      obtain ⟨I16, e20, h⟩ := bd_e h
      cases h
      exact ((ff_X9_goes e20 hk13 hk14 hk15 hk16).trans ((congrFun (fr_stI (by omega)) k).trans ((congrFun (fr_X9_putsWarp e17 (by omega)) k).trans ((congrFun (fr_X9_putsWarp e15 (by omega)) k).trans ((congrFun (fr_X9_putsWarp e13 (by omega)) k).trans ((ff_X9_limits hk10 hk11).trans ((ff_X9_indexHere e1 hk10 hk11).trans rfl)))))))
    · cases h
      exact ((ff_X9_limits hk10 hk11).trans ((ff_X9_indexHere e1 hk10 hk11).trans rfl))
noncomputable def s_X9_readsWarp_L27 (m : Nat) (q1 : Int32) : Nat → JI → Option (JI)
  | 0, _ => none
  | f + 1, I => bd (s_X9_addsWarp I m q1) fun I7 => if (s_X9_is I7 m 3) = true then (s_X9_readsWarp_L27 m q1 f  I7) else (some (I7))
noncomputable def s_X9_readsWarp (I : JI) (m : Nat) : Option (JI) :=
  gd (vp_in 5 2030) <| if (I (m + 1) (Int32.toNatClampNeg 5)) ≤ 0 then (lx (s_X9_refuses I m false) fun I3 => bd (s_X9_goes I3 m) fun I4 => bd2 (s_X9_readColour I4 m) fun v6 I5 => bd (s_X9_readsWarp_L27 m v6 lf  I5) fun I9 => some I9) else (lx (s_X9_refuses I m true) fun I11 => bd (s_X9_goes I11 m) fun I12 => bd2 (s_X9_readColour I12 m) fun v14 I13 => bd (s_X9_readsWarp_L27 m v14 lf  I13) fun I15 => some I15)
set_option maxHeartbeats 4000000 in
theorem l_X9_readsWarp_L27 {Ω : JO} {S : JS} {Q : JQ} {m : Nat} {q1 : Int32} (hm : Is9 S m) : ∀ (f : Nat) (I : JI) (o : (JI)), s_X9_readsWarp_L27 m q1 f I = some o → True → (∀ (J : JI) , o = (J) → AA Ω m_X9_readsWarp (FQ Ω m_X9_readsWarp Q) 0 0 40 [(1, .int q1), (0, .ref m)] [] J S) → AA Ω m_X9_readsWarp (FQ Ω m_X9_readsWarp Q) 0 0 27 [(1, .int q1), (0, .ref m)] [] I S := by
  intro f
  induction f with
  | zero =>
    intro I o h hR hE
    rw [s_X9_readsWarp_L27] at h
    cases h
  | succ f ih =>
    intro I o h hR hE
    rw [s_X9_readsWarp_L27] at h
    refine r_aload_n (pc' := 28) dX9_readsWarp_27 rfl 1 rfl rfl ?_
    refine r_iload_n (pc' := 29) dX9_readsWarp_28 rfl 0 rfl rfl ?_
    obtain ⟨I7, eI7, h⟩ := bd_e h
    refine r_callV1 (pc' := 32) (k' := 0) (n' := 0) dX9_readsWarp_29 mb_X9_addsWarp mi_X9_addsWarp hm.o (by decide) rfl lk_X9_144 rfl rfl rfl (Nat.le_of_ble_eq_true rfl) rfl (c_X9_addsWarp hm eI7 (cpV ?_))
    refine r_aload_n (pc' := 33) dX9_readsWarp_32 rfl 1 rfl rfl ?_
    refine r_iconst (pc' := 34) (v := 3) dX9_readsWarp_33 (by decide) rfl ?_
    refine r_callV1 (pc' := 37) (k' := 0) (n' := 0) dX9_readsWarp_34 mb_X9_is mi_X9_is hm.o (by decide) rfl lk_X9_107 rfl rfl rfl (Nat.le_of_ble_eq_true rfl) rfl (c_X9_is hm rfl (cpI ?_))
    refine r_if_ne (tgt := 27) (pc' := 40) dX9_readsWarp_37 rfl rfl (fun h8 => ?_) (fun h8 => ?_)
    · have h := ifp (zb_p0 h8) h
      exact ih  _ _ h hR hE
    · have h := ifn (zb_n0 h8) h
      cases h
      exact hE _ rfl
set_option maxHeartbeats 4000000 in
theorem c_X9_readsWarp {Ω : JO} {I : JI} {S : JS} {Q : JQ} {m : Nat} {J : JI} (hm : Is9 S m) (h : s_X9_readsWarp I m = some J) (hQ : Q (.inl none) J S) : Call Ω m_X9_readsWarp [.ref m] I S Q := by
  refine call_of (by decide +kernel) rfl (Nat.le_of_ble_eq_true rfl) ?_
  change AA Ω m_X9_readsWarp (FQ Ω m_X9_readsWarp Q) 0 0 0 [(0, .ref m)] [] I S
  unfold s_X9_readsWarp at h
  refine r_aload_n (pc' := 1) dX9_readsWarp_0 rfl 0 rfl rfl ?_
  refine r_aload_n (pc' := 2) dX9_readsWarp_1 rfl 0 rfl rfl ?_
  refine r_getO (pc' := 5) dX9_readsWarp_2 fa_X9_9 hm.o rfl hm.r1 rfl ?_
  refine r_iconst (pc' := 6) (v := 5) dX9_readsWarp_5 (by decide) rfl ?_
  obtain ⟨g1, h⟩ := gd_e h
  refine r_iaload (pc' := 7) dX9_readsWarp_6 hm.c1 g1 rfl ?_
  refine r_if_le (tgt := 14) (pc' := 10) dX9_readsWarp_7 rfl rfl (fun h2 => ?_) (fun h2 => ?_)
  · have h := ifp h2 h
    refine r_iconst (pc' := 15) (v := 0) dX9_readsWarp_14 (by decide) rfl ?_
    refine r_callV1 (pc' := 18) (k' := 0) (n' := 0) dX9_readsWarp_15 mb_X9_refuses mi_X9_refuses hm.o (by decide) rfl lk_X9_138 rfl rfl rfl (Nat.le_of_ble_eq_true rfl) rfl (c_X9_refuses (b1 := false) hm rfl (cpV ?_))
    have h := lx_e h
    refine r_aload_n (pc' := 19) dX9_readsWarp_18 rfl 0 rfl rfl ?_
    obtain ⟨I4, eI4, h⟩ := bd_e h
    refine r_callV0 (pc' := 22) (k' := 0) (n' := 0) dX9_readsWarp_19 mb_X9_goes mi_X9_goes hm.o (by decide) rfl lk_X9_124 rfl rfl rfl (Nat.le_of_ble_eq_true rfl) rfl (c_X9_goes hm eI4 (cpV ?_))
    refine r_aload_n (pc' := 23) dX9_readsWarp_22 rfl 0 rfl rfl ?_
    obtain ⟨v6, I5, ev6, h⟩ := bd2_e h
    refine r_callV0 (pc' := 26) (k' := 0) (n' := 0) dX9_readsWarp_23 mb_X9_readColour mi_X9_readColour hm.o (by decide) rfl lk_X9_141 rfl rfl rfl (Nat.le_of_ble_eq_true rfl) rfl (c_X9_readColour hm ev6 (cpI ?_))
    refine r_istore_n (pc' := 27) (lv' := [(1, _), (0, _)]) dX9_readsWarp_26 rfl (by decide) rfl rfl ?_
    obtain ⟨o10, eo10, h⟩ := bd_e h
    refine l_X9_readsWarp_L27 (Ω := Ω) hm _ _ _ eo10 trivial (fun I9 q => ?_)
    subst q
    cases h
    exact r_ret dX9_readsWarp_40 rfl (by decide) (by decide) hQ
  · have h := ifn h2 h
    refine r_iconst (pc' := 11) (v := 1) dX9_readsWarp_10 (by decide) rfl ?_
    refine r_goto (tgt := 15) dX9_readsWarp_11 rfl ?_
    refine r_callV1 (pc' := 18) (k' := 0) (n' := 0) dX9_readsWarp_15 mb_X9_refuses mi_X9_refuses hm.o (by decide) rfl lk_X9_138 rfl rfl rfl (Nat.le_of_ble_eq_true rfl) rfl (c_X9_refuses (b1 := true) hm rfl (cpV ?_))
    have h := lx_e h
    refine r_aload_n (pc' := 19) dX9_readsWarp_18 rfl 0 rfl rfl ?_
    obtain ⟨I12, eI12, h⟩ := bd_e h
    refine r_callV0 (pc' := 22) (k' := 0) (n' := 0) dX9_readsWarp_19 mb_X9_goes mi_X9_goes hm.o (by decide) rfl lk_X9_124 rfl rfl rfl (Nat.le_of_ble_eq_true rfl) rfl (c_X9_goes hm eI12 (cpV ?_))
    refine r_aload_n (pc' := 23) dX9_readsWarp_22 rfl 0 rfl rfl ?_
    obtain ⟨v14, I13, ev14, h⟩ := bd2_e h
    refine r_callV0 (pc' := 26) (k' := 0) (n' := 0) dX9_readsWarp_23 mb_X9_readColour mi_X9_readColour hm.o (by decide) rfl lk_X9_141 rfl rfl rfl (Nat.le_of_ble_eq_true rfl) rfl (c_X9_readColour hm ev14 (cpI ?_))
    refine r_istore_n (pc' := 27) (lv' := [(1, _), (0, _)]) dX9_readsWarp_26 rfl (by decide) rfl rfl ?_
    obtain ⟨o16, eo16, h⟩ := bd_e h
    refine l_X9_readsWarp_L27 (Ω := Ω) hm _ _ _ eo16 trivial (fun I15 q => ?_)
    subst q
    cases h
    exact r_ret dX9_readsWarp_40 rfl (by decide) (by decide) hQ
theorem frl_X9_readsWarp_L27 {m : Nat} {q1 : Int32} {z : Nat} (hz_m1 : z ≠ (m + 1)) (hz_m : z ≠ m) : ∀ (f : Nat) (I : JI) (o : (JI)), s_X9_readsWarp_L27 m q1 f I = some o → (∀ (J : JI), o = (J) → J z = I z) := by
  intro f
  induction f with
  | zero =>
    intro I o h
    rw [s_X9_readsWarp_L27] at h
    cases h
  | succ f ih =>
    intro I o h
    rw [s_X9_readsWarp_L27] at h
    obtain ⟨I7, e1, h⟩ := bd_e h
    rcases if_e h with h | h
    · intro _ q
      exact ((ih  _ _ h) _ q).trans ((fr_X9_addsWarp e1 (by omega) (by omega)).trans rfl)
    · cases h
      intro _ q
      cases q
      exact ((fr_X9_addsWarp e1 (by omega) (by omega)).trans rfl)
set_option maxHeartbeats 4000000 in
theorem fr_X9_readsWarp {I : JI} {m : Nat} {J : JI} {z : Nat} (h : s_X9_readsWarp I m = some J) (hz_m1 : z ≠ (m + 1)) (hz_m : z ≠ m) : J z = I z := by
  unfold s_X9_readsWarp at h
  obtain ⟨g1, h⟩ := gd_e h
  rcases if_e h with h | h
  · have h := lx_e h
    obtain ⟨I4, e2, h⟩ := bd_e h
    obtain ⟨v6, I5, e3, h⟩ := bd2_e h
    obtain ⟨I9, e4, h⟩ := bd_e h
    cases h
    exact (((frl_X9_readsWarp_L27 hz_m1 hz_m _  _ _ e4) _ rfl).trans ((fr_X9_readColour e3 (by omega)).trans ((fr_X9_goes e2 (by omega)).trans ((fr_X9_refuses (by omega)).trans rfl))))
  · have h := lx_e h
    obtain ⟨I12, e5, h⟩ := bd_e h
    obtain ⟨v14, I13, e6, h⟩ := bd2_e h
    obtain ⟨I15, e7, h⟩ := bd_e h
    cases h
    exact (((frl_X9_readsWarp_L27 hz_m1 hz_m _  _ _ e7) _ rfl).trans ((fr_X9_readColour e6 (by omega)).trans ((fr_X9_goes e5 (by omega)).trans ((fr_X9_refuses (by omega)).trans rfl))))
theorem ffl_X9_readsWarp_L27 {m : Nat} {q1 : Int32} {k : Nat} (hk10 : k ≠ 10) (hk11 : k ≠ 11) (hk13 : k ≠ 13) (hk14 : k ≠ 14) (hk15 : k ≠ 15) (hk16 : k ≠ 16) : ∀ (f : Nat) (I : JI) (o : (JI)), s_X9_readsWarp_L27 m q1 f I = some o → (∀ (J : JI), o = (J) → J m k = I m k) := by
  intro f
  induction f with
  | zero =>
    intro I o h
    rw [s_X9_readsWarp_L27] at h
    cases h
  | succ f ih =>
    intro I o h
    rw [s_X9_readsWarp_L27] at h
    obtain ⟨I7, e1, h⟩ := bd_e h
    rcases if_e h with h | h
    · intro _ q
      exact ((ih  _ _ h) _ q).trans ((ff_X9_addsWarp e1 hk10 hk11 hk13 hk14 hk15 hk16).trans rfl)
    · cases h
      intro _ q
      cases q
      exact ((ff_X9_addsWarp e1 hk10 hk11 hk13 hk14 hk15 hk16).trans rfl)
set_option maxHeartbeats 4000000 in
theorem ff_X9_readsWarp {I : JI} {m : Nat} {J : JI} {k : Nat} (h : s_X9_readsWarp I m = some J) (hk10 : k ≠ 10) (hk11 : k ≠ 11) (hk13 : k ≠ 13) (hk14 : k ≠ 14) (hk15 : k ≠ 15) (hk16 : k ≠ 16) : J m k = I m k := by
  unfold s_X9_readsWarp at h
  obtain ⟨g1, h⟩ := gd_e h
  rcases if_e h with h | h
  · have h := lx_e h
    obtain ⟨I4, e2, h⟩ := bd_e h
    obtain ⟨v6, I5, e3, h⟩ := bd2_e h
    obtain ⟨I9, e4, h⟩ := bd_e h
    cases h
    exact (((ffl_X9_readsWarp_L27 hk10 hk11 hk13 hk14 hk15 hk16 _  _ _ e4) _ rfl).trans ((ff_X9_readColour e3 hk10 hk11 hk13 hk14 hk15 hk16).trans ((ff_X9_goes e2 hk13 hk14 hk15 hk16).trans ((ff_X9_refuses hk10 hk11).trans rfl))))
  · have h := lx_e h
    obtain ⟨I12, e5, h⟩ := bd_e h
    obtain ⟨v14, I13, e6, h⟩ := bd2_e h
    obtain ⟨I15, e7, h⟩ := bd_e h
    cases h
    exact (((ffl_X9_readsWarp_L27 hk10 hk11 hk13 hk14 hk15 hk16 _  _ _ e7) _ rfl).trans ((ff_X9_readColour e6 hk10 hk11 hk13 hk14 hk15 hk16).trans ((ff_X9_goes e5 hk13 hk14 hk15 hk16).trans ((ff_X9_refuses hk10 hk11).trans rfl))))
noncomputable def s_X9_putsCard (I : JI) (m : Nat) (x1 : Int32) (x2 : Int32) (x3 : Int32) : Option (JI) :=
  gd (vp_in ((116 + (4 * x1)) + x2) 2030) <| lx (stI I (m + 1) (Int32.toNatClampNeg ((116 + (4 * x1)) + x2)) x3) fun I2 => some I2
set_option maxHeartbeats 4000000 in
theorem c_X9_putsCard {Ω : JO} {I : JI} {S : JS} {Q : JQ} {m : Nat} {x1 : Int32} {x2 : Int32} {x3 : Int32} {J : JI} (hm : Is9 S m) (h : s_X9_putsCard I m x1 x2 x3 = some J) (hQ : Q (.inl none) J S) : Call Ω m_X9_putsCard [.ref m, .int x1, .int x2, .int x3] I S Q := by
  refine call_of (by decide +kernel) rfl (Nat.le_of_ble_eq_true rfl) ?_
  change AA Ω m_X9_putsCard (FQ Ω m_X9_putsCard Q) 0 0 0 [(0, .ref m), (1, .int x1), (2, .int x2), (3, .int x3)] [] I S
  unfold s_X9_putsCard at h
  refine r_aload_n (pc' := 1) dX9_putsCard_0 rfl 0 rfl rfl ?_
  refine r_getO (pc' := 4) dX9_putsCard_1 fa_X9_9 hm.o rfl hm.r1 rfl ?_
  refine r_bipush (pc' := 6) (v := 116) dX9_putsCard_4 (by decide) rfl ?_
  refine r_iconst (pc' := 7) (v := 4) dX9_putsCard_6 (by decide) rfl ?_
  refine r_iload_n (pc' := 8) dX9_putsCard_7 rfl 1 rfl rfl ?_
  refine r_imul (pc' := 9) dX9_putsCard_8 rfl ?_
  refine r_iadd (pc' := 10) dX9_putsCard_9 rfl ?_
  refine r_iload_n (pc' := 11) dX9_putsCard_10 rfl 2 rfl rfl ?_
  refine r_iadd (pc' := 12) dX9_putsCard_11 rfl ?_
  refine r_iload_n (pc' := 13) dX9_putsCard_12 rfl 3 rfl rfl ?_
  obtain ⟨g1, h⟩ := gd_e h
  refine r_iastore (pc' := 14) dX9_putsCard_13 hm.c1 g1 rfl ?_
  have h := lx_e h
  cases h
  exact r_ret dX9_putsCard_14 rfl (by decide) (by decide) hQ
set_option maxHeartbeats 4000000 in
theorem fr_X9_putsCard {I : JI} {m : Nat} {x1 : Int32} {x2 : Int32} {x3 : Int32} {J : JI} {z : Nat} (h : s_X9_putsCard I m x1 x2 x3 = some J) (hz_m1 : z ≠ (m + 1)) : J z = I z := by
  unfold s_X9_putsCard at h
  obtain ⟨g1, h⟩ := gd_e h
  have h := lx_e h
  cases h
  exact ((fr_stI (by omega)).trans rfl)
noncomputable def s_X9_readsCard_L31 (m : Nat) (q1 : Int32) : Nat → Int32 → JI → Option (Int32 × JI)
  | 0, _, _ => none
  | f + 1, w2, I => if (s_X9_is I m 3) = true then (bd2 (s_X9_indexHere I m 0) fun v9 I8 => lx (s_X9_refuses I8 m (s_X9_has w2 v9)) fun I10 => lx (w2 ||| ((1 : Int32) <<< (v9 &&& 31))) fun v11 => bd (s_X9_goes I10 m) fun I12 => s_X9_readsCard_L31 m q1 f v11 I12) else (some (w2, I))
noncomputable def s_X9_readsCard (I : JI) (m : Nat) : Option (JI) :=
  gd (vp_in 3 2030) <| if (I (m + 1) (Int32.toNatClampNeg 3)) = 12 then (lx (s_X9_limits I m true) fun I26 => bd (s_X9_goes I26 m) fun I27 => bd2 (s_X9_readColour I27 m) fun v29 I28 => bd (s_X9_readsCard_L31 m v29 lf 0 I28) fun (y30, I31) => if (I31 m 10) ≤ 0 then (gd (vp_in 3 2030) <| lx (I31 (m + 1) (Int32.toNatClampNeg 3)) fun v35 => bd (s_X9_putsCard I31 m v35 0 y30) fun I36 => bd (s_X9_putsCard I36 m v35 1 v29) fun I37 => bd (s_X9_putsCard I37 m v35 2 y30) fun I38 => bd (s_X9_putsCard I38 m v35 3 v29) fun I39 => gd (vp_in 3 2030) <| gd (vp_in 3 2030) <| lx (stI I39 (m + 1) (Int32.toNatClampNeg 3) ((I39 (m + 1) (Int32.toNatClampNeg 3)) + 1)) fun I42 => some I42) else (some I31)) else (lx (s_X9_limits I m false) fun I3 => bd (s_X9_goes I3 m) fun I4 => bd2 (s_X9_readColour I4 m) fun v6 I5 => bd (s_X9_readsCard_L31 m v6 lf 0 I5) fun (y13, I14) => if (I14 m 10) ≤ 0 then (gd (vp_in 3 2030) <| lx (I14 (m + 1) (Int32.toNatClampNeg 3)) fun v18 => bd (s_X9_putsCard I14 m v18 0 y13) fun I19 => bd (s_X9_putsCard I19 m v18 1 v6) fun I20 => bd (s_X9_putsCard I20 m v18 2 y13) fun I21 => bd (s_X9_putsCard I21 m v18 3 v6) fun I22 => gd (vp_in 3 2030) <| gd (vp_in 3 2030) <| lx (stI I22 (m + 1) (Int32.toNatClampNeg 3) ((I22 (m + 1) (Int32.toNatClampNeg 3)) + 1)) fun I25 => some I25) else (some I14))
set_option maxHeartbeats 4000000 in
theorem l_X9_readsCard_L31 {Ω : JO} {S : JS} {Q : JQ} {m : Nat} {q1 : Int32} (hm : Is9 S m) : ∀ (f : Nat) (w2 : Int32) (I : JI) (o : (Int32 × JI)), s_X9_readsCard_L31 m q1 f w2 I = some o → True → (∀ (y2 : Int32) (J : JI) , o = (y2, J) → AA Ω m_X9_readsCard (FQ Ω m_X9_readsCard Q) 0 0 67 [(2, .int y2), (1, .int q1), (0, .ref m)] [] J S) → AA Ω m_X9_readsCard (FQ Ω m_X9_readsCard Q) 0 0 31 [(2, .int w2), (1, .int q1), (0, .ref m)] [] I S := by
  intro f
  induction f with
  | zero =>
    intro w2 I o h hR hE
    rw [s_X9_readsCard_L31] at h
    cases h
  | succ f ih =>
    intro w2 I o h hR hE
    rw [s_X9_readsCard_L31] at h
    refine r_aload_n (pc' := 32) dX9_readsCard_31 rfl 2 rfl rfl ?_
    refine r_iconst (pc' := 33) (v := 3) dX9_readsCard_32 (by decide) rfl ?_
    refine r_callV1 (pc' := 36) (k' := 0) (n' := 0) dX9_readsCard_33 mb_X9_is mi_X9_is hm.o (by decide) rfl lk_X9_107 rfl rfl rfl (Nat.le_of_ble_eq_true rfl) rfl (c_X9_is hm rfl (cpI ?_))
    refine r_if_eq (tgt := 67) (pc' := 39) dX9_readsCard_36 rfl rfl (fun h7 => ?_) (fun h7 => ?_)
    · have h := ifn (zb_n0 h7) h
      cases h
      exact hE _ _ rfl
    · have h := ifp (zb_p0 h7) h
      refine r_aload_n (pc' := 40) dX9_readsCard_39 rfl 2 rfl rfl ?_
      refine r_iconst (pc' := 41) (v := 0) dX9_readsCard_40 (by decide) rfl ?_
      obtain ⟨v9, I8, ev9, h⟩ := bd2_e h
      refine r_callV1 (pc' := 44) (k' := 0) (n' := 0) dX9_readsCard_41 mb_X9_indexHere mi_X9_indexHere hm.o (by decide) rfl lk_X9_127 rfl rfl rfl (Nat.le_of_ble_eq_true rfl) rfl (c_X9_indexHere hm ev9 (cpI ?_))
      refine r_istore_n (pc' := 45) (lv' := [(3, _), (2, _), (1, _), (0, _)]) dX9_readsCard_44 rfl (by decide) rfl rfl ?_
      refine r_aload_n (pc' := 46) dX9_readsCard_45 rfl 3 rfl rfl ?_
      refine r_iload_n (pc' := 47) dX9_readsCard_46 rfl 1 rfl rfl ?_
      refine r_iload_n (pc' := 48) dX9_readsCard_47 rfl 0 rfl rfl ?_
      refine r_callS2 (pc' := 51) (k' := 0) (n' := 0) dX9_readsCard_48 mb_X9_has ms_X9_has lk_X9_147 rfl rfl rfl (Nat.le_of_ble_eq_true rfl) rfl (c_X9_has rfl (cpI ?_))
      refine r_callV1 (pc' := 54) (k' := 0) (n' := 0) dX9_readsCard_51 mb_X9_refuses mi_X9_refuses hm.o (by decide) rfl lk_X9_138 rfl rfl rfl (Nat.le_of_ble_eq_true rfl) rfl (c_X9_refuses hm rfl (cpV ?_))
      have h := lx_e h
      refine r_iload_n (pc' := 55) dX9_readsCard_54 rfl 1 rfl rfl ?_
      refine r_iconst (pc' := 56) (v := 1) dX9_readsCard_55 (by decide) rfl ?_
      refine r_iload_n (pc' := 57) dX9_readsCard_56 rfl 0 rfl rfl ?_
      refine r_ishl (pc' := 58) dX9_readsCard_57 rfl ?_
      refine r_ior (pc' := 59) dX9_readsCard_58 rfl ?_
      refine r_istore_n (pc' := 60) (lv' := [(2, _), (3, _), (1, _), (0, _)]) dX9_readsCard_59 rfl (by decide) rfl rfl ?_
      have h := lx_e h
      refine r_aload_n (pc' := 61) dX9_readsCard_60 rfl 3 rfl rfl ?_
      obtain ⟨I12, eI12, h⟩ := bd_e h
      refine r_callV0 (pc' := 64) (k' := 0) (n' := 0) dX9_readsCard_61 mb_X9_goes mi_X9_goes hm.o (by decide) rfl lk_X9_124 rfl rfl rfl (Nat.le_of_ble_eq_true rfl) rfl (c_X9_goes hm eI12 (cpV ?_))
      refine r_goto (tgt := 31) dX9_readsCard_64 rfl ?_
      refine aa_locs (ks := [0, 2, 3]) (lv' := [(2, _), (1, _), (0, _)]) rfl ?_
      exact ih _ _ _ h hR hE
set_option maxHeartbeats 4000000 in
theorem c_X9_readsCard {Ω : JO} {I : JI} {S : JS} {Q : JQ} {m : Nat} {J : JI} (hm : Is9 S m) (h : s_X9_readsCard I m = some J) (hQ : Q (.inl none) J S) : Call Ω m_X9_readsCard [.ref m] I S Q := by
  refine call_of (by decide +kernel) rfl (Nat.le_of_ble_eq_true rfl) ?_
  change AA Ω m_X9_readsCard (FQ Ω m_X9_readsCard Q) 0 0 0 [(0, .ref m)] [] I S
  unfold s_X9_readsCard at h
  refine r_aload_n (pc' := 1) dX9_readsCard_0 rfl 0 rfl rfl ?_
  refine r_aload_n (pc' := 2) dX9_readsCard_1 rfl 0 rfl rfl ?_
  refine r_getO (pc' := 5) dX9_readsCard_2 fa_X9_9 hm.o rfl hm.r1 rfl ?_
  refine r_iconst (pc' := 6) (v := 3) dX9_readsCard_5 (by decide) rfl ?_
  obtain ⟨g1, h⟩ := gd_e h
  refine r_iaload (pc' := 7) dX9_readsCard_6 hm.c1 g1 rfl ?_
  refine r_bipush (pc' := 9) (v := 12) dX9_readsCard_7 (by decide) rfl ?_
  refine r_icmp_ne (tgt := 16) (pc' := 12) dX9_readsCard_9 rfl rfl (fun h2 => ?_) (fun h2 => ?_)
  · have h := ifn h2 h
    refine r_iconst (pc' := 17) (v := 0) dX9_readsCard_16 (by decide) rfl ?_
    refine r_callV1 (pc' := 20) (k' := 0) (n' := 0) dX9_readsCard_17 mb_X9_limits mi_X9_limits hm.o (by decide) rfl lk_X9_130 rfl rfl rfl (Nat.le_of_ble_eq_true rfl) rfl (c_X9_limits (b1 := false) hm rfl (cpV ?_))
    have h := lx_e h
    refine r_aload_n (pc' := 21) dX9_readsCard_20 rfl 0 rfl rfl ?_
    obtain ⟨I4, eI4, h⟩ := bd_e h
    refine r_callV0 (pc' := 24) (k' := 0) (n' := 0) dX9_readsCard_21 mb_X9_goes mi_X9_goes hm.o (by decide) rfl lk_X9_124 rfl rfl rfl (Nat.le_of_ble_eq_true rfl) rfl (c_X9_goes hm eI4 (cpV ?_))
    refine r_aload_n (pc' := 25) dX9_readsCard_24 rfl 0 rfl rfl ?_
    obtain ⟨v6, I5, ev6, h⟩ := bd2_e h
    refine r_callV0 (pc' := 28) (k' := 0) (n' := 0) dX9_readsCard_25 mb_X9_readColour mi_X9_readColour hm.o (by decide) rfl lk_X9_141 rfl rfl rfl (Nat.le_of_ble_eq_true rfl) rfl (c_X9_readColour hm ev6 (cpI ?_))
    refine r_istore_n (pc' := 29) (lv' := [(1, _), (0, _)]) dX9_readsCard_28 rfl (by decide) rfl rfl ?_
    refine r_iconst (pc' := 30) (v := 0) dX9_readsCard_29 (by decide) rfl ?_
    refine r_istore_n (pc' := 31) (lv' := [(2, _), (1, _), (0, _)]) dX9_readsCard_30 rfl (by decide) rfl rfl ?_
    obtain ⟨o15, eo15, h⟩ := bd_e h
    refine l_X9_readsCard_L31 (Ω := Ω) hm _ _ _ _ eo15 trivial (fun y13 I14 q => ?_)
    subst q
    refine r_aload_n (pc' := 68) dX9_readsCard_67 rfl 2 rfl rfl ?_
    refine r_getI (pc' := 71) dX9_readsCard_68 fa_X9_68 hm.o rfl rfl ?_
    refine r_if_le (tgt := 75) (pc' := 74) dX9_readsCard_71 rfl rfl (fun h16 => ?_) (fun h16 => ?_)
    · have h := ifp h16 h
      refine r_aload_n (pc' := 76) dX9_readsCard_75 rfl 2 rfl rfl ?_
      refine r_getO (pc' := 79) dX9_readsCard_76 fa_X9_9 hm.o rfl hm.r1 rfl ?_
      refine r_iconst (pc' := 80) (v := 3) dX9_readsCard_79 (by decide) rfl ?_
      obtain ⟨g17, h⟩ := gd_e h
      refine r_iaload (pc' := 81) dX9_readsCard_80 hm.c1 g17 rfl ?_
      refine r_istore_n (pc' := 82) (lv' := [(3, _), (2, _), (1, _), (0, _)]) dX9_readsCard_81 rfl (by decide) rfl rfl ?_
      have h := lx_e h
      refine r_aload_n (pc' := 83) dX9_readsCard_82 rfl 3 rfl rfl ?_
      refine r_iload_n (pc' := 84) dX9_readsCard_83 rfl 0 rfl rfl ?_
      refine r_iconst (pc' := 85) (v := 0) dX9_readsCard_84 (by decide) rfl ?_
      refine r_iload_n (pc' := 86) dX9_readsCard_85 rfl 1 rfl rfl ?_
      obtain ⟨I19, eI19, h⟩ := bd_e h
      refine r_callV3 (pc' := 89) (k' := 0) (n' := 0) dX9_readsCard_86 mb_X9_putsCard mi_X9_putsCard hm.o (by decide) rfl lk_X9_151 rfl rfl rfl (Nat.le_of_ble_eq_true rfl) rfl (c_X9_putsCard hm eI19 (cpV ?_))
      refine r_aload_n (pc' := 90) dX9_readsCard_89 rfl 3 rfl rfl ?_
      refine r_iload_n (pc' := 91) dX9_readsCard_90 rfl 0 rfl rfl ?_
      refine r_iconst (pc' := 92) (v := 1) dX9_readsCard_91 (by decide) rfl ?_
      refine r_iload_n (pc' := 93) dX9_readsCard_92 rfl 2 rfl rfl ?_
      obtain ⟨I20, eI20, h⟩ := bd_e h
      refine r_callV3 (pc' := 96) (k' := 0) (n' := 0) dX9_readsCard_93 mb_X9_putsCard mi_X9_putsCard hm.o (by decide) rfl lk_X9_151 rfl rfl rfl (Nat.le_of_ble_eq_true rfl) rfl (c_X9_putsCard hm eI20 (cpV ?_))
      refine r_aload_n (pc' := 97) dX9_readsCard_96 rfl 3 rfl rfl ?_
      refine r_iload_n (pc' := 98) dX9_readsCard_97 rfl 0 rfl rfl ?_
      refine r_iconst (pc' := 99) (v := 2) dX9_readsCard_98 (by decide) rfl ?_
      refine r_iload_n (pc' := 100) dX9_readsCard_99 rfl 1 rfl rfl ?_
      obtain ⟨I21, eI21, h⟩ := bd_e h
      refine r_callV3 (pc' := 103) (k' := 0) (n' := 0) dX9_readsCard_100 mb_X9_putsCard mi_X9_putsCard hm.o (by decide) rfl lk_X9_151 rfl rfl rfl (Nat.le_of_ble_eq_true rfl) rfl (c_X9_putsCard hm eI21 (cpV ?_))
      refine r_aload_n (pc' := 104) dX9_readsCard_103 rfl 3 rfl rfl ?_
      refine r_iload_n (pc' := 105) dX9_readsCard_104 rfl 0 rfl rfl ?_
      refine r_iconst (pc' := 106) (v := 3) dX9_readsCard_105 (by decide) rfl ?_
      refine r_iload_n (pc' := 107) dX9_readsCard_106 rfl 2 rfl rfl ?_
      obtain ⟨I22, eI22, h⟩ := bd_e h
      refine r_callV3 (pc' := 110) (k' := 0) (n' := 0) dX9_readsCard_107 mb_X9_putsCard mi_X9_putsCard hm.o (by decide) rfl lk_X9_151 rfl rfl rfl (Nat.le_of_ble_eq_true rfl) rfl (c_X9_putsCard hm eI22 (cpV ?_))
      refine r_aload_n (pc' := 111) dX9_readsCard_110 rfl 3 rfl rfl ?_
      refine r_getO (pc' := 114) dX9_readsCard_111 fa_X9_9 hm.o rfl hm.r1 rfl ?_
      refine r_iconst (pc' := 115) (v := 3) dX9_readsCard_114 (by decide) rfl ?_
      refine r_dup2 (pc' := 116) dX9_readsCard_115 rfl rfl rfl ?_
      obtain ⟨g23, h⟩ := gd_e h
      refine r_iaload (pc' := 117) dX9_readsCard_116 hm.c1 g23 rfl ?_
      refine r_iconst (pc' := 118) (v := 1) dX9_readsCard_117 (by decide) rfl ?_
      refine r_iadd (pc' := 119) dX9_readsCard_118 rfl ?_
      obtain ⟨g24, h⟩ := gd_e h
      refine r_iastore (pc' := 120) dX9_readsCard_119 hm.c1 g24 rfl ?_
      have h := lx_e h
      cases h
      exact r_ret dX9_readsCard_120 rfl (by decide) (by decide) hQ
    · have h := ifn h16 h
      cases h
      exact r_ret dX9_readsCard_74 rfl (by decide) (by decide) hQ
  · have h := ifp h2 h
    refine r_iconst (pc' := 13) (v := 1) dX9_readsCard_12 (by decide) rfl ?_
    refine r_goto (tgt := 17) dX9_readsCard_13 rfl ?_
    refine r_callV1 (pc' := 20) (k' := 0) (n' := 0) dX9_readsCard_17 mb_X9_limits mi_X9_limits hm.o (by decide) rfl lk_X9_130 rfl rfl rfl (Nat.le_of_ble_eq_true rfl) rfl (c_X9_limits (b1 := true) hm rfl (cpV ?_))
    have h := lx_e h
    refine r_aload_n (pc' := 21) dX9_readsCard_20 rfl 0 rfl rfl ?_
    obtain ⟨I27, eI27, h⟩ := bd_e h
    refine r_callV0 (pc' := 24) (k' := 0) (n' := 0) dX9_readsCard_21 mb_X9_goes mi_X9_goes hm.o (by decide) rfl lk_X9_124 rfl rfl rfl (Nat.le_of_ble_eq_true rfl) rfl (c_X9_goes hm eI27 (cpV ?_))
    refine r_aload_n (pc' := 25) dX9_readsCard_24 rfl 0 rfl rfl ?_
    obtain ⟨v29, I28, ev29, h⟩ := bd2_e h
    refine r_callV0 (pc' := 28) (k' := 0) (n' := 0) dX9_readsCard_25 mb_X9_readColour mi_X9_readColour hm.o (by decide) rfl lk_X9_141 rfl rfl rfl (Nat.le_of_ble_eq_true rfl) rfl (c_X9_readColour hm ev29 (cpI ?_))
    refine r_istore_n (pc' := 29) (lv' := [(1, _), (0, _)]) dX9_readsCard_28 rfl (by decide) rfl rfl ?_
    refine r_iconst (pc' := 30) (v := 0) dX9_readsCard_29 (by decide) rfl ?_
    refine r_istore_n (pc' := 31) (lv' := [(2, _), (1, _), (0, _)]) dX9_readsCard_30 rfl (by decide) rfl rfl ?_
    obtain ⟨o32, eo32, h⟩ := bd_e h
    refine l_X9_readsCard_L31 (Ω := Ω) hm _ _ _ _ eo32 trivial (fun y30 I31 q => ?_)
    subst q
    refine r_aload_n (pc' := 68) dX9_readsCard_67 rfl 2 rfl rfl ?_
    refine r_getI (pc' := 71) dX9_readsCard_68 fa_X9_68 hm.o rfl rfl ?_
    refine r_if_le (tgt := 75) (pc' := 74) dX9_readsCard_71 rfl rfl (fun h33 => ?_) (fun h33 => ?_)
    · have h := ifp h33 h
      refine r_aload_n (pc' := 76) dX9_readsCard_75 rfl 2 rfl rfl ?_
      refine r_getO (pc' := 79) dX9_readsCard_76 fa_X9_9 hm.o rfl hm.r1 rfl ?_
      refine r_iconst (pc' := 80) (v := 3) dX9_readsCard_79 (by decide) rfl ?_
      obtain ⟨g34, h⟩ := gd_e h
      refine r_iaload (pc' := 81) dX9_readsCard_80 hm.c1 g34 rfl ?_
      refine r_istore_n (pc' := 82) (lv' := [(3, _), (2, _), (1, _), (0, _)]) dX9_readsCard_81 rfl (by decide) rfl rfl ?_
      have h := lx_e h
      refine r_aload_n (pc' := 83) dX9_readsCard_82 rfl 3 rfl rfl ?_
      refine r_iload_n (pc' := 84) dX9_readsCard_83 rfl 0 rfl rfl ?_
      refine r_iconst (pc' := 85) (v := 0) dX9_readsCard_84 (by decide) rfl ?_
      refine r_iload_n (pc' := 86) dX9_readsCard_85 rfl 1 rfl rfl ?_
      obtain ⟨I36, eI36, h⟩ := bd_e h
      refine r_callV3 (pc' := 89) (k' := 0) (n' := 0) dX9_readsCard_86 mb_X9_putsCard mi_X9_putsCard hm.o (by decide) rfl lk_X9_151 rfl rfl rfl (Nat.le_of_ble_eq_true rfl) rfl (c_X9_putsCard hm eI36 (cpV ?_))
      refine r_aload_n (pc' := 90) dX9_readsCard_89 rfl 3 rfl rfl ?_
      refine r_iload_n (pc' := 91) dX9_readsCard_90 rfl 0 rfl rfl ?_
      refine r_iconst (pc' := 92) (v := 1) dX9_readsCard_91 (by decide) rfl ?_
      refine r_iload_n (pc' := 93) dX9_readsCard_92 rfl 2 rfl rfl ?_
      obtain ⟨I37, eI37, h⟩ := bd_e h
      refine r_callV3 (pc' := 96) (k' := 0) (n' := 0) dX9_readsCard_93 mb_X9_putsCard mi_X9_putsCard hm.o (by decide) rfl lk_X9_151 rfl rfl rfl (Nat.le_of_ble_eq_true rfl) rfl (c_X9_putsCard hm eI37 (cpV ?_))
      refine r_aload_n (pc' := 97) dX9_readsCard_96 rfl 3 rfl rfl ?_
      refine r_iload_n (pc' := 98) dX9_readsCard_97 rfl 0 rfl rfl ?_
      refine r_iconst (pc' := 99) (v := 2) dX9_readsCard_98 (by decide) rfl ?_
      refine r_iload_n (pc' := 100) dX9_readsCard_99 rfl 1 rfl rfl ?_
      obtain ⟨I38, eI38, h⟩ := bd_e h
      refine r_callV3 (pc' := 103) (k' := 0) (n' := 0) dX9_readsCard_100 mb_X9_putsCard mi_X9_putsCard hm.o (by decide) rfl lk_X9_151 rfl rfl rfl (Nat.le_of_ble_eq_true rfl) rfl (c_X9_putsCard hm eI38 (cpV ?_))
      refine r_aload_n (pc' := 104) dX9_readsCard_103 rfl 3 rfl rfl ?_
      refine r_iload_n (pc' := 105) dX9_readsCard_104 rfl 0 rfl rfl ?_
      refine r_iconst (pc' := 106) (v := 3) dX9_readsCard_105 (by decide) rfl ?_
      refine r_iload_n (pc' := 107) dX9_readsCard_106 rfl 2 rfl rfl ?_
      obtain ⟨I39, eI39, h⟩ := bd_e h
      refine r_callV3 (pc' := 110) (k' := 0) (n' := 0) dX9_readsCard_107 mb_X9_putsCard mi_X9_putsCard hm.o (by decide) rfl lk_X9_151 rfl rfl rfl (Nat.le_of_ble_eq_true rfl) rfl (c_X9_putsCard hm eI39 (cpV ?_))
      refine r_aload_n (pc' := 111) dX9_readsCard_110 rfl 3 rfl rfl ?_
      refine r_getO (pc' := 114) dX9_readsCard_111 fa_X9_9 hm.o rfl hm.r1 rfl ?_
      refine r_iconst (pc' := 115) (v := 3) dX9_readsCard_114 (by decide) rfl ?_
      refine r_dup2 (pc' := 116) dX9_readsCard_115 rfl rfl rfl ?_
      obtain ⟨g40, h⟩ := gd_e h
      refine r_iaload (pc' := 117) dX9_readsCard_116 hm.c1 g40 rfl ?_
      refine r_iconst (pc' := 118) (v := 1) dX9_readsCard_117 (by decide) rfl ?_
      refine r_iadd (pc' := 119) dX9_readsCard_118 rfl ?_
      obtain ⟨g41, h⟩ := gd_e h
      refine r_iastore (pc' := 120) dX9_readsCard_119 hm.c1 g41 rfl ?_
      have h := lx_e h
      cases h
      exact r_ret dX9_readsCard_120 rfl (by decide) (by decide) hQ
    · have h := ifn h33 h
      cases h
      exact r_ret dX9_readsCard_74 rfl (by decide) (by decide) hQ
theorem frl_X9_readsCard_L31 {m : Nat} {q1 : Int32} {z : Nat} (hz_m1 : z ≠ (m + 1)) (hz_m : z ≠ m) : ∀ (f : Nat) (w2 : Int32) (I : JI) (o : (Int32 × JI)), s_X9_readsCard_L31 m q1 f w2 I = some o → (∀ (y2 : Int32) (J : JI), o = (y2, J) → J z = I z) := by
  intro f
  induction f with
  | zero =>
    intro w2 I o h
    rw [s_X9_readsCard_L31] at h
    cases h
  | succ f ih =>
    intro w2 I o h
    rw [s_X9_readsCard_L31] at h
    rcases if_e h with h | h
    · obtain ⟨v9, I8, e1, h⟩ := bd2_e h
      have h := lx_e h
      have h := lx_e h
      obtain ⟨I12, e2, h⟩ := bd_e h
      intro _ _ q
      exact ((ih _ _ _ h) _ _ q).trans ((fr_X9_goes e2 (by omega)).trans ((fr_X9_refuses (by omega)).trans ((fr_X9_indexHere e1 (by omega)).trans rfl)))
    · cases h
      intro _ _ q
      cases q
      exact rfl
set_option maxHeartbeats 4000000 in
theorem fr_X9_readsCard {I : JI} {m : Nat} {J : JI} {z : Nat} (h : s_X9_readsCard I m = some J) (hz_m1 : z ≠ (m + 1)) (hz_m : z ≠ m) : J z = I z := by
  unfold s_X9_readsCard at h
  obtain ⟨g1, h⟩ := gd_e h
  rcases if_e h with h | h
  · have h := lx_e h
    obtain ⟨I27, e2, h⟩ := bd_e h
    obtain ⟨v29, I28, e3, h⟩ := bd2_e h
    obtain ⟨o4, e4, h⟩ := bd_e h
    obtain ⟨y30, I31⟩ := o4
    rcases if_e h with h | h
    · obtain ⟨g5, h⟩ := gd_e h
      have h := lx_e h
      obtain ⟨I36, e6, h⟩ := bd_e h
      obtain ⟨I37, e7, h⟩ := bd_e h
      obtain ⟨I38, e8, h⟩ := bd_e h
      obtain ⟨I39, e9, h⟩ := bd_e h
      obtain ⟨g10, h⟩ := gd_e h
      obtain ⟨g11, h⟩ := gd_e h
      have h := lx_e h
      cases h
      exact ((fr_stI (by omega)).trans ((fr_X9_putsCard e9 (by omega)).trans ((fr_X9_putsCard e8 (by omega)).trans ((fr_X9_putsCard e7 (by omega)).trans ((fr_X9_putsCard e6 (by omega)).trans (((frl_X9_readsCard_L31 hz_m1 hz_m _ _ _ _ e4) _ _ rfl).trans ((fr_X9_readColour e3 (by omega)).trans ((fr_X9_goes e2 (by omega)).trans ((fr_X9_limits (by omega)).trans rfl)))))))))
    · cases h
      exact (((frl_X9_readsCard_L31 hz_m1 hz_m _ _ _ _ e4) _ _ rfl).trans ((fr_X9_readColour e3 (by omega)).trans ((fr_X9_goes e2 (by omega)).trans ((fr_X9_limits (by omega)).trans rfl))))
  · have h := lx_e h
    obtain ⟨I4, e12, h⟩ := bd_e h
    obtain ⟨v6, I5, e13, h⟩ := bd2_e h
    obtain ⟨o14, e14, h⟩ := bd_e h
    obtain ⟨y13, I14⟩ := o14
    rcases if_e h with h | h
    · obtain ⟨g15, h⟩ := gd_e h
      have h := lx_e h
      obtain ⟨I19, e16, h⟩ := bd_e h
      obtain ⟨I20, e17, h⟩ := bd_e h
      obtain ⟨I21, e18, h⟩ := bd_e h
      obtain ⟨I22, e19, h⟩ := bd_e h
      obtain ⟨g20, h⟩ := gd_e h
      obtain ⟨g21, h⟩ := gd_e h
      have h := lx_e h
      cases h
      exact ((fr_stI (by omega)).trans ((fr_X9_putsCard e19 (by omega)).trans ((fr_X9_putsCard e18 (by omega)).trans ((fr_X9_putsCard e17 (by omega)).trans ((fr_X9_putsCard e16 (by omega)).trans (((frl_X9_readsCard_L31 hz_m1 hz_m _ _ _ _ e14) _ _ rfl).trans ((fr_X9_readColour e13 (by omega)).trans ((fr_X9_goes e12 (by omega)).trans ((fr_X9_limits (by omega)).trans rfl)))))))))
    · cases h
      exact (((frl_X9_readsCard_L31 hz_m1 hz_m _ _ _ _ e14) _ _ rfl).trans ((fr_X9_readColour e13 (by omega)).trans ((fr_X9_goes e12 (by omega)).trans ((fr_X9_limits (by omega)).trans rfl))))
theorem ffl_X9_readsCard_L31 {m : Nat} {q1 : Int32} {k : Nat} (hk10 : k ≠ 10) (hk11 : k ≠ 11) (hk13 : k ≠ 13) (hk14 : k ≠ 14) (hk15 : k ≠ 15) (hk16 : k ≠ 16) : ∀ (f : Nat) (w2 : Int32) (I : JI) (o : (Int32 × JI)), s_X9_readsCard_L31 m q1 f w2 I = some o → (∀ (y2 : Int32) (J : JI), o = (y2, J) → J m k = I m k) := by
  intro f
  induction f with
  | zero =>
    intro w2 I o h
    rw [s_X9_readsCard_L31] at h
    cases h
  | succ f ih =>
    intro w2 I o h
    rw [s_X9_readsCard_L31] at h
    rcases if_e h with h | h
    · obtain ⟨v9, I8, e1, h⟩ := bd2_e h
      have h := lx_e h
      have h := lx_e h
      obtain ⟨I12, e2, h⟩ := bd_e h
      intro _ _ q
      exact ((ih _ _ _ h) _ _ q).trans ((ff_X9_goes e2 hk13 hk14 hk15 hk16).trans ((ff_X9_refuses hk10 hk11).trans ((ff_X9_indexHere e1 hk10 hk11).trans rfl)))
    · cases h
      intro _ _ q
      cases q
      exact rfl
set_option maxHeartbeats 4000000 in
theorem ff_X9_readsCard {I : JI} {m : Nat} {J : JI} {k : Nat} (h : s_X9_readsCard I m = some J) (hk10 : k ≠ 10) (hk11 : k ≠ 11) (hk13 : k ≠ 13) (hk14 : k ≠ 14) (hk15 : k ≠ 15) (hk16 : k ≠ 16) : J m k = I m k := by
  unfold s_X9_readsCard at h
  obtain ⟨g1, h⟩ := gd_e h
  rcases if_e h with h | h
  · have h := lx_e h
    obtain ⟨I27, e2, h⟩ := bd_e h
    obtain ⟨v29, I28, e3, h⟩ := bd2_e h
    obtain ⟨o4, e4, h⟩ := bd_e h
    obtain ⟨y30, I31⟩ := o4
    rcases if_e h with h | h
    · obtain ⟨g5, h⟩ := gd_e h
      have h := lx_e h
      obtain ⟨I36, e6, h⟩ := bd_e h
      obtain ⟨I37, e7, h⟩ := bd_e h
      obtain ⟨I38, e8, h⟩ := bd_e h
      obtain ⟨I39, e9, h⟩ := bd_e h
      obtain ⟨g10, h⟩ := gd_e h
      obtain ⟨g11, h⟩ := gd_e h
      have h := lx_e h
      cases h
      exact ((congrFun (fr_stI (by omega)) k).trans ((congrFun (fr_X9_putsCard e9 (by omega)) k).trans ((congrFun (fr_X9_putsCard e8 (by omega)) k).trans ((congrFun (fr_X9_putsCard e7 (by omega)) k).trans ((congrFun (fr_X9_putsCard e6 (by omega)) k).trans (((ffl_X9_readsCard_L31 hk10 hk11 hk13 hk14 hk15 hk16 _ _ _ _ e4) _ _ rfl).trans ((ff_X9_readColour e3 hk10 hk11 hk13 hk14 hk15 hk16).trans ((ff_X9_goes e2 hk13 hk14 hk15 hk16).trans ((ff_X9_limits hk10 hk11).trans rfl)))))))))
    · cases h
      exact (((ffl_X9_readsCard_L31 hk10 hk11 hk13 hk14 hk15 hk16 _ _ _ _ e4) _ _ rfl).trans ((ff_X9_readColour e3 hk10 hk11 hk13 hk14 hk15 hk16).trans ((ff_X9_goes e2 hk13 hk14 hk15 hk16).trans ((ff_X9_limits hk10 hk11).trans rfl))))
  · have h := lx_e h
    obtain ⟨I4, e12, h⟩ := bd_e h
    obtain ⟨v6, I5, e13, h⟩ := bd2_e h
    obtain ⟨o14, e14, h⟩ := bd_e h
    obtain ⟨y13, I14⟩ := o14
    rcases if_e h with h | h
    · obtain ⟨g15, h⟩ := gd_e h
      have h := lx_e h
      obtain ⟨I19, e16, h⟩ := bd_e h
      obtain ⟨I20, e17, h⟩ := bd_e h
      obtain ⟨I21, e18, h⟩ := bd_e h
      obtain ⟨I22, e19, h⟩ := bd_e h
      obtain ⟨g20, h⟩ := gd_e h
      obtain ⟨g21, h⟩ := gd_e h
      have h := lx_e h
      cases h
      exact ((congrFun (fr_stI (by omega)) k).trans ((congrFun (fr_X9_putsCard e19 (by omega)) k).trans ((congrFun (fr_X9_putsCard e18 (by omega)) k).trans ((congrFun (fr_X9_putsCard e17 (by omega)) k).trans ((congrFun (fr_X9_putsCard e16 (by omega)) k).trans (((ffl_X9_readsCard_L31 hk10 hk11 hk13 hk14 hk15 hk16 _ _ _ _ e14) _ _ rfl).trans ((ff_X9_readColour e13 hk10 hk11 hk13 hk14 hk15 hk16).trans ((ff_X9_goes e12 hk13 hk14 hk15 hk16).trans ((ff_X9_limits hk10 hk11).trans rfl)))))))))
    · cases h
      exact (((ffl_X9_readsCard_L31 hk10 hk11 hk13 hk14 hk15 hk16 _ _ _ _ e14) _ _ rfl).trans ((ff_X9_readColour e13 hk10 hk11 hk13 hk14 hk15 hk16).trans ((ff_X9_goes e12 hk13 hk14 hk15 hk16).trans ((ff_X9_limits hk10 hk11).trans rfl))))
noncomputable def s_X9_addsPart (I : JI) (m : Nat) (x1 : Int32) : Option (JI) :=
  gd (vp_in 6 2030) <| gd (vp_in (1764 + (I (m + 1) (Int32.toNatClampNeg 6))) 2030) <| lx (stI I (m + 1) (Int32.toNatClampNeg (1764 + (I (m + 1) (Int32.toNatClampNeg 6)))) x1) fun I3 => gd (vp_in 6 2030) <| gd (vp_in 6 2030) <| lx (stI I3 (m + 1) (Int32.toNatClampNeg 6) ((I3 (m + 1) (Int32.toNatClampNeg 6)) + 1)) fun I6 => some I6
set_option maxHeartbeats 4000000 in
theorem c_X9_addsPart {Ω : JO} {I : JI} {S : JS} {Q : JQ} {m : Nat} {x1 : Int32} {J : JI} (hm : Is9 S m) (h : s_X9_addsPart I m x1 = some J) (hQ : Q (.inl none) J S) : Call Ω m_X9_addsPart [.ref m, .int x1] I S Q := by
  refine call_of (by decide +kernel) rfl (Nat.le_of_ble_eq_true rfl) ?_
  change AA Ω m_X9_addsPart (FQ Ω m_X9_addsPart Q) 0 0 0 [(0, .ref m), (1, .int x1)] [] I S
  unfold s_X9_addsPart at h
  refine r_aload_n (pc' := 1) dX9_addsPart_0 rfl 0 rfl rfl ?_
  refine r_getO (pc' := 4) dX9_addsPart_1 fa_X9_9 hm.o rfl hm.r1 rfl ?_
  refine r_sipush (pc' := 7) (v := 1764) dX9_addsPart_4 (by decide) rfl ?_
  refine r_aload_n (pc' := 8) dX9_addsPart_7 rfl 0 rfl rfl ?_
  refine r_getO (pc' := 11) dX9_addsPart_8 fa_X9_9 hm.o rfl hm.r1 rfl ?_
  refine r_bipush (pc' := 13) (v := 6) dX9_addsPart_11 (by decide) rfl ?_
  obtain ⟨g1, h⟩ := gd_e h
  refine r_iaload (pc' := 14) dX9_addsPart_13 hm.c1 g1 rfl ?_
  refine r_iadd (pc' := 15) dX9_addsPart_14 rfl ?_
  refine r_iload_n (pc' := 16) dX9_addsPart_15 rfl 1 rfl rfl ?_
  obtain ⟨g2, h⟩ := gd_e h
  refine r_iastore (pc' := 17) dX9_addsPart_16 hm.c1 g2 rfl ?_
  have h := lx_e h
  refine r_aload_n (pc' := 18) dX9_addsPart_17 rfl 0 rfl rfl ?_
  refine r_getO (pc' := 21) dX9_addsPart_18 fa_X9_9 hm.o rfl hm.r1 rfl ?_
  refine r_bipush (pc' := 23) (v := 6) dX9_addsPart_21 (by decide) rfl ?_
  refine r_dup2 (pc' := 24) dX9_addsPart_23 rfl rfl rfl ?_
  obtain ⟨g4, h⟩ := gd_e h
  refine r_iaload (pc' := 25) dX9_addsPart_24 hm.c1 g4 rfl ?_
  refine r_iconst (pc' := 26) (v := 1) dX9_addsPart_25 (by decide) rfl ?_
  refine r_iadd (pc' := 27) dX9_addsPart_26 rfl ?_
  obtain ⟨g5, h⟩ := gd_e h
  refine r_iastore (pc' := 28) dX9_addsPart_27 hm.c1 g5 rfl ?_
  have h := lx_e h
  cases h
  exact r_ret dX9_addsPart_28 rfl (by decide) (by decide) hQ
set_option maxHeartbeats 4000000 in
theorem fr_X9_addsPart {I : JI} {m : Nat} {x1 : Int32} {J : JI} {z : Nat} (h : s_X9_addsPart I m x1 = some J) (hz_m1 : z ≠ (m + 1)) : J z = I z := by
  unfold s_X9_addsPart at h
  obtain ⟨g1, h⟩ := gd_e h
  obtain ⟨g2, h⟩ := gd_e h
  have h := lx_e h
  obtain ⟨g3, h⟩ := gd_e h
  obtain ⟨g4, h⟩ := gd_e h
  have h := lx_e h
  cases h
  exact ((fr_stI (by omega)).trans ((fr_stI (by omega)).trans rfl))
noncomputable def s_X9_addsPick (I : JI) (m : Nat) (x1 : Int32) (x2 : Int32) : Option (JI) :=
  gd (vp_in x1 4) <| gd (vp_in ((100 * x1) + (I (m + 8) (Int32.toNatClampNeg x1))) 400) <| lx (stI I (m + 7) (Int32.toNatClampNeg ((100 * x1) + (I (m + 8) (Int32.toNatClampNeg x1)))) x2) fun I3 => gd (vp_in x1 4) <| gd (vp_in x1 4) <| lx (stI I3 (m + 8) (Int32.toNatClampNeg x1) ((I3 (m + 8) (Int32.toNatClampNeg x1)) + 1)) fun I6 => some I6
set_option maxHeartbeats 4000000 in
theorem c_X9_addsPick {Ω : JO} {I : JI} {S : JS} {Q : JQ} {m : Nat} {x1 : Int32} {x2 : Int32} {J : JI} (hm : Is9 S m) (h : s_X9_addsPick I m x1 x2 = some J) (hQ : Q (.inl none) J S) : Call Ω m_X9_addsPick [.ref m, .int x1, .int x2] I S Q := by
  refine call_of (by decide +kernel) rfl (Nat.le_of_ble_eq_true rfl) ?_
  change AA Ω m_X9_addsPick (FQ Ω m_X9_addsPick Q) 0 0 0 [(0, .ref m), (1, .int x1), (2, .int x2)] [] I S
  unfold s_X9_addsPick at h
  refine r_aload_n (pc' := 1) dX9_addsPick_0 rfl 0 rfl rfl ?_
  refine r_getO (pc' := 4) dX9_addsPick_1 fa_X9_34 hm.o rfl hm.r17 rfl ?_
  refine r_bipush (pc' := 6) (v := 100) dX9_addsPick_4 (by decide) rfl ?_
  refine r_iload_n (pc' := 7) dX9_addsPick_6 rfl 1 rfl rfl ?_
  refine r_imul (pc' := 8) dX9_addsPick_7 rfl ?_
  refine r_aload_n (pc' := 9) dX9_addsPick_8 rfl 0 rfl rfl ?_
  refine r_getO (pc' := 12) dX9_addsPick_9 fa_X9_37 hm.o rfl hm.r18 rfl ?_
  refine r_iload_n (pc' := 13) dX9_addsPick_12 rfl 1 rfl rfl ?_
  obtain ⟨g1, h⟩ := gd_e h
  refine r_iaload (pc' := 14) dX9_addsPick_13 hm.c18 g1 rfl ?_
  refine r_iadd (pc' := 15) dX9_addsPick_14 rfl ?_
  refine r_iload_n (pc' := 16) dX9_addsPick_15 rfl 2 rfl rfl ?_
  obtain ⟨g2, h⟩ := gd_e h
  refine r_iastore (pc' := 17) dX9_addsPick_16 hm.c17 g2 rfl ?_
  have h := lx_e h
  refine r_aload_n (pc' := 18) dX9_addsPick_17 rfl 0 rfl rfl ?_
  refine r_getO (pc' := 21) dX9_addsPick_18 fa_X9_37 hm.o rfl hm.r18 rfl ?_
  refine r_iload_n (pc' := 22) dX9_addsPick_21 rfl 1 rfl rfl ?_
  refine r_dup2 (pc' := 23) dX9_addsPick_22 rfl rfl rfl ?_
  obtain ⟨g4, h⟩ := gd_e h
  refine r_iaload (pc' := 24) dX9_addsPick_23 hm.c18 g4 rfl ?_
  refine r_iconst (pc' := 25) (v := 1) dX9_addsPick_24 (by decide) rfl ?_
  refine r_iadd (pc' := 26) dX9_addsPick_25 rfl ?_
  obtain ⟨g5, h⟩ := gd_e h
  refine r_iastore (pc' := 27) dX9_addsPick_26 hm.c18 g5 rfl ?_
  have h := lx_e h
  cases h
  exact r_ret dX9_addsPick_27 rfl (by decide) (by decide) hQ
set_option maxHeartbeats 4000000 in
theorem fr_X9_addsPick {I : JI} {m : Nat} {x1 : Int32} {x2 : Int32} {J : JI} {z : Nat} (h : s_X9_addsPick I m x1 x2 = some J) (hz_m7 : z ≠ (m + 7)) (hz_m8 : z ≠ (m + 8)) : J z = I z := by
  unfold s_X9_addsPick at h
  obtain ⟨g1, h⟩ := gd_e h
  obtain ⟨g2, h⟩ := gd_e h
  have h := lx_e h
  obtain ⟨g3, h⟩ := gd_e h
  obtain ⟨g4, h⟩ := gd_e h
  have h := lx_e h
  cases h
  exact ((fr_stI (by omega)).trans ((fr_stI (by omega)).trans rfl))
noncomputable def s_X9_pickOf (I : JI) (m : Nat) (x1 : Int32) (x2 : Int32) : Option (Int32) :=
  gd (vp_in ((100 * x1) + x2) 400) <| some (I (m + 7) (Int32.toNatClampNeg ((100 * x1) + x2)))
set_option maxHeartbeats 4000000 in
theorem c_X9_pickOf {Ω : JO} {I : JI} {S : JS} {Q : JQ} {m : Nat} {x1 : Int32} {x2 : Int32} {r : Int32} (hm : Is9 S m) (h : s_X9_pickOf I m x1 x2 = some r) (hQ : Q (.inl (some (.int r))) I S) : Call Ω m_X9_pickOf [.ref m, .int x1, .int x2] I S Q := by
  refine call_of (by decide +kernel) rfl (Nat.le_of_ble_eq_true rfl) ?_
  change AA Ω m_X9_pickOf (FQ Ω m_X9_pickOf Q) 0 0 0 [(0, .ref m), (1, .int x1), (2, .int x2)] [] I S
  unfold s_X9_pickOf at h
  refine r_aload_n (pc' := 1) dX9_pickOf_0 rfl 0 rfl rfl ?_
  refine r_getO (pc' := 4) dX9_pickOf_1 fa_X9_34 hm.o rfl hm.r17 rfl ?_
  refine r_bipush (pc' := 6) (v := 100) dX9_pickOf_4 (by decide) rfl ?_
  refine r_iload_n (pc' := 7) dX9_pickOf_6 rfl 1 rfl rfl ?_
  refine r_imul (pc' := 8) dX9_pickOf_7 rfl ?_
  refine r_iload_n (pc' := 9) dX9_pickOf_8 rfl 2 rfl rfl ?_
  refine r_iadd (pc' := 10) dX9_pickOf_9 rfl ?_
  obtain ⟨g1, h⟩ := gd_e h
  refine r_iaload (pc' := 11) dX9_pickOf_10 hm.c17 g1 rfl ?_
  cases h
  exact r_iret dX9_pickOf_11 rfl (by decide) (by decide) hQ
noncomputable def s_X9_readsDeckCard (I : JI) (m : Nat) : Option (JI) :=
  bd2 (s_X9_indexHere I m 3) fun v2 I1 => gd (vp_in (I1 m 20) 4) <| if (I1 (m + 8) (Int32.toNatClampNeg (I1 m 20))) = 100 then (lx (s_X9_limits I1 m true) fun I10 => if (I10 m 10) ≤ 0 then (bd (s_X9_addsPart I10 m v2) fun I12 => bd (s_X9_addsPick I12 m (I12 m 20) v2) fun I13 => bd (s_X9_goes I13 m) fun I14 => some I14) else (some I10)) else (lx (s_X9_limits I1 m false) fun I5 => if (I5 m 10) ≤ 0 then (bd (s_X9_addsPart I5 m v2) fun I7 => bd (s_X9_addsPick I7 m (I7 m 20) v2) fun I8 => bd (s_X9_goes I8 m) fun I9 => some I9) else (some I5))
set_option maxHeartbeats 4000000 in
theorem c_X9_readsDeckCard {Ω : JO} {I : JI} {S : JS} {Q : JQ} {m : Nat} {J : JI} (hm : Is9 S m) (h : s_X9_readsDeckCard I m = some J) (hQ : Q (.inl none) J S) : Call Ω m_X9_readsDeckCard [.ref m] I S Q := by
  refine call_of (by decide +kernel) rfl (Nat.le_of_ble_eq_true rfl) ?_
  change AA Ω m_X9_readsDeckCard (FQ Ω m_X9_readsDeckCard Q) 0 0 0 [(0, .ref m)] [] I S
  unfold s_X9_readsDeckCard at h
  refine r_aload_n (pc' := 1) dX9_readsDeckCard_0 rfl 0 rfl rfl ?_
  refine r_iconst (pc' := 2) (v := 3) dX9_readsDeckCard_1 (by decide) rfl ?_
  obtain ⟨v2, I1, ev2, h⟩ := bd2_e h
  refine r_callV1 (pc' := 5) (k' := 0) (n' := 0) dX9_readsDeckCard_2 mb_X9_indexHere mi_X9_indexHere hm.o (by decide) rfl lk_X9_127 rfl rfl rfl (Nat.le_of_ble_eq_true rfl) rfl (c_X9_indexHere hm ev2 (cpI ?_))
  refine r_istore_n (pc' := 6) (lv' := [(1, _), (0, _)]) dX9_readsDeckCard_5 rfl (by decide) rfl rfl ?_
  refine r_aload_n (pc' := 7) dX9_readsDeckCard_6 rfl 1 rfl rfl ?_
  refine r_aload_n (pc' := 8) dX9_readsDeckCard_7 rfl 1 rfl rfl ?_
  refine r_getO (pc' := 11) dX9_readsDeckCard_8 fa_X9_37 hm.o rfl hm.r18 rfl ?_
  refine r_aload_n (pc' := 12) dX9_readsDeckCard_11 rfl 1 rfl rfl ?_
  refine r_getI (pc' := 15) dX9_readsDeckCard_12 fa_X9_154 hm.o rfl rfl ?_
  obtain ⟨g3, h⟩ := gd_e h
  refine r_iaload (pc' := 16) dX9_readsDeckCard_15 hm.c18 g3 rfl ?_
  refine r_bipush (pc' := 18) (v := 100) dX9_readsDeckCard_16 (by decide) rfl ?_
  refine r_icmp_ne (tgt := 25) (pc' := 21) dX9_readsDeckCard_18 rfl rfl (fun h4 => ?_) (fun h4 => ?_)
  · have h := ifn h4 h
    refine r_iconst (pc' := 26) (v := 0) dX9_readsDeckCard_25 (by decide) rfl ?_
    refine r_callV1 (pc' := 29) (k' := 0) (n' := 0) dX9_readsDeckCard_26 mb_X9_limits mi_X9_limits hm.o (by decide) rfl lk_X9_130 rfl rfl rfl (Nat.le_of_ble_eq_true rfl) rfl (c_X9_limits (b1 := false) hm rfl (cpV ?_))
    have h := lx_e h
    refine r_aload_n (pc' := 30) dX9_readsDeckCard_29 rfl 1 rfl rfl ?_
    refine r_getI (pc' := 33) dX9_readsDeckCard_30 fa_X9_68 hm.o rfl rfl ?_
    refine r_if_le (tgt := 37) (pc' := 36) dX9_readsDeckCard_33 rfl rfl (fun h6 => ?_) (fun h6 => ?_)
    · have h := ifp h6 h
      refine r_aload_n (pc' := 38) dX9_readsDeckCard_37 rfl 1 rfl rfl ?_
      refine r_iload_n (pc' := 39) dX9_readsDeckCard_38 rfl 0 rfl rfl ?_
      obtain ⟨I7, eI7, h⟩ := bd_e h
      refine r_callV1 (pc' := 42) (k' := 0) (n' := 0) dX9_readsDeckCard_39 mb_X9_addsPart mi_X9_addsPart hm.o (by decide) rfl lk_X9_157 rfl rfl rfl (Nat.le_of_ble_eq_true rfl) rfl (c_X9_addsPart hm eI7 (cpV ?_))
      refine r_aload_n (pc' := 43) dX9_readsDeckCard_42 rfl 1 rfl rfl ?_
      refine r_aload_n (pc' := 44) dX9_readsDeckCard_43 rfl 1 rfl rfl ?_
      refine r_getI (pc' := 47) dX9_readsDeckCard_44 fa_X9_154 hm.o rfl rfl ?_
      refine r_iload_n (pc' := 48) dX9_readsDeckCard_47 rfl 0 rfl rfl ?_
      obtain ⟨I8, eI8, h⟩ := bd_e h
      refine r_callV2 (pc' := 51) (k' := 0) (n' := 0) dX9_readsDeckCard_48 mb_X9_addsPick mi_X9_addsPick hm.o (by decide) rfl lk_X9_160 rfl rfl rfl (Nat.le_of_ble_eq_true rfl) rfl (c_X9_addsPick hm eI8 (cpV ?_))
      refine r_aload_n (pc' := 52) dX9_readsDeckCard_51 rfl 1 rfl rfl ?_
      obtain ⟨I9, eI9, h⟩ := bd_e h
      refine r_callV0 (pc' := 55) (k' := 0) (n' := 0) dX9_readsDeckCard_52 mb_X9_goes mi_X9_goes hm.o (by decide) rfl lk_X9_124 rfl rfl rfl (Nat.le_of_ble_eq_true rfl) rfl (c_X9_goes hm eI9 (cpV ?_))
      cases h
      exact r_ret dX9_readsDeckCard_55 rfl (by decide) (by decide) hQ
    · have h := ifn h6 h
      cases h
      exact r_ret dX9_readsDeckCard_36 rfl (by decide) (by decide) hQ
  · have h := ifp h4 h
    refine r_iconst (pc' := 22) (v := 1) dX9_readsDeckCard_21 (by decide) rfl ?_
    refine r_goto (tgt := 26) dX9_readsDeckCard_22 rfl ?_
    refine r_callV1 (pc' := 29) (k' := 0) (n' := 0) dX9_readsDeckCard_26 mb_X9_limits mi_X9_limits hm.o (by decide) rfl lk_X9_130 rfl rfl rfl (Nat.le_of_ble_eq_true rfl) rfl (c_X9_limits (b1 := true) hm rfl (cpV ?_))
    have h := lx_e h
    refine r_aload_n (pc' := 30) dX9_readsDeckCard_29 rfl 1 rfl rfl ?_
    refine r_getI (pc' := 33) dX9_readsDeckCard_30 fa_X9_68 hm.o rfl rfl ?_
    refine r_if_le (tgt := 37) (pc' := 36) dX9_readsDeckCard_33 rfl rfl (fun h11 => ?_) (fun h11 => ?_)
    · have h := ifp h11 h
      refine r_aload_n (pc' := 38) dX9_readsDeckCard_37 rfl 1 rfl rfl ?_
      refine r_iload_n (pc' := 39) dX9_readsDeckCard_38 rfl 0 rfl rfl ?_
      obtain ⟨I12, eI12, h⟩ := bd_e h
      refine r_callV1 (pc' := 42) (k' := 0) (n' := 0) dX9_readsDeckCard_39 mb_X9_addsPart mi_X9_addsPart hm.o (by decide) rfl lk_X9_157 rfl rfl rfl (Nat.le_of_ble_eq_true rfl) rfl (c_X9_addsPart hm eI12 (cpV ?_))
      refine r_aload_n (pc' := 43) dX9_readsDeckCard_42 rfl 1 rfl rfl ?_
      refine r_aload_n (pc' := 44) dX9_readsDeckCard_43 rfl 1 rfl rfl ?_
      refine r_getI (pc' := 47) dX9_readsDeckCard_44 fa_X9_154 hm.o rfl rfl ?_
      refine r_iload_n (pc' := 48) dX9_readsDeckCard_47 rfl 0 rfl rfl ?_
      obtain ⟨I13, eI13, h⟩ := bd_e h
      refine r_callV2 (pc' := 51) (k' := 0) (n' := 0) dX9_readsDeckCard_48 mb_X9_addsPick mi_X9_addsPick hm.o (by decide) rfl lk_X9_160 rfl rfl rfl (Nat.le_of_ble_eq_true rfl) rfl (c_X9_addsPick hm eI13 (cpV ?_))
      refine r_aload_n (pc' := 52) dX9_readsDeckCard_51 rfl 1 rfl rfl ?_
      obtain ⟨I14, eI14, h⟩ := bd_e h
      refine r_callV0 (pc' := 55) (k' := 0) (n' := 0) dX9_readsDeckCard_52 mb_X9_goes mi_X9_goes hm.o (by decide) rfl lk_X9_124 rfl rfl rfl (Nat.le_of_ble_eq_true rfl) rfl (c_X9_goes hm eI14 (cpV ?_))
      cases h
      exact r_ret dX9_readsDeckCard_55 rfl (by decide) (by decide) hQ
    · have h := ifn h11 h
      cases h
      exact r_ret dX9_readsDeckCard_36 rfl (by decide) (by decide) hQ
set_option maxHeartbeats 4000000 in
theorem fr_X9_readsDeckCard {I : JI} {m : Nat} {J : JI} {z : Nat} (h : s_X9_readsDeckCard I m = some J) (hz_m1 : z ≠ (m + 1)) (hz_m7 : z ≠ (m + 7)) (hz_m8 : z ≠ (m + 8)) (hz_m : z ≠ m) : J z = I z := by
  unfold s_X9_readsDeckCard at h
  obtain ⟨v2, I1, e1, h⟩ := bd2_e h
  obtain ⟨g2, h⟩ := gd_e h
  rcases if_e h with h | h
  · have h := lx_e h
    rcases if_e h with h | h
    · obtain ⟨I12, e3, h⟩ := bd_e h
      obtain ⟨I13, e4, h⟩ := bd_e h
      obtain ⟨I14, e5, h⟩ := bd_e h
      cases h
      exact ((fr_X9_goes e5 (by omega)).trans ((fr_X9_addsPick e4 (by omega) (by omega)).trans ((fr_X9_addsPart e3 (by omega)).trans ((fr_X9_limits (by omega)).trans ((fr_X9_indexHere e1 (by omega)).trans rfl)))))
    · cases h
      exact ((fr_X9_limits (by omega)).trans ((fr_X9_indexHere e1 (by omega)).trans rfl))
  · have h := lx_e h
    rcases if_e h with h | h
    · obtain ⟨I7, e6, h⟩ := bd_e h
      obtain ⟨I8, e7, h⟩ := bd_e h
      obtain ⟨I9, e8, h⟩ := bd_e h
      cases h
      exact ((fr_X9_goes e8 (by omega)).trans ((fr_X9_addsPick e7 (by omega) (by omega)).trans ((fr_X9_addsPart e6 (by omega)).trans ((fr_X9_limits (by omega)).trans ((fr_X9_indexHere e1 (by omega)).trans rfl)))))
    · cases h
      exact ((fr_X9_limits (by omega)).trans ((fr_X9_indexHere e1 (by omega)).trans rfl))
set_option maxHeartbeats 4000000 in
theorem ff_X9_readsDeckCard {I : JI} {m : Nat} {J : JI} {k : Nat} (h : s_X9_readsDeckCard I m = some J) (hk10 : k ≠ 10) (hk11 : k ≠ 11) (hk13 : k ≠ 13) (hk14 : k ≠ 14) (hk15 : k ≠ 15) (hk16 : k ≠ 16) : J m k = I m k := by
  unfold s_X9_readsDeckCard at h
  obtain ⟨v2, I1, e1, h⟩ := bd2_e h
  obtain ⟨g2, h⟩ := gd_e h
  rcases if_e h with h | h
  · have h := lx_e h
    rcases if_e h with h | h
    · obtain ⟨I12, e3, h⟩ := bd_e h
      obtain ⟨I13, e4, h⟩ := bd_e h
      obtain ⟨I14, e5, h⟩ := bd_e h
      cases h
      exact ((ff_X9_goes e5 hk13 hk14 hk15 hk16).trans ((congrFun (fr_X9_addsPick e4 (by omega) (by omega)) k).trans ((congrFun (fr_X9_addsPart e3 (by omega)) k).trans ((ff_X9_limits hk10 hk11).trans ((ff_X9_indexHere e1 hk10 hk11).trans rfl)))))
    · cases h
      exact ((ff_X9_limits hk10 hk11).trans ((ff_X9_indexHere e1 hk10 hk11).trans rfl))
  · have h := lx_e h
    rcases if_e h with h | h
    · obtain ⟨I7, e6, h⟩ := bd_e h
      obtain ⟨I8, e7, h⟩ := bd_e h
      obtain ⟨I9, e8, h⟩ := bd_e h
      cases h
      exact ((ff_X9_goes e8 hk13 hk14 hk15 hk16).trans ((congrFun (fr_X9_addsPick e7 (by omega) (by omega)) k).trans ((congrFun (fr_X9_addsPart e6 (by omega)) k).trans ((ff_X9_limits hk10 hk11).trans ((ff_X9_indexHere e1 hk10 hk11).trans rfl)))))
    · cases h
      exact ((ff_X9_limits hk10 hk11).trans ((ff_X9_indexHere e1 hk10 hk11).trans rfl))
noncomputable def s_X9_isBracketWord (I : JI) (m : Nat) : Option (Bool) :=
  bd (s_X9_isWord I m "repeat") fun z1 => if z1 = true then (some true) else (bd (s_X9_isWord I m "mirror") fun z3 => if z3 = true then (some true) else (bd (s_X9_isWord I m "back") fun z5 => if z5 = true then (some true) else (some false)))
set_option maxHeartbeats 4000000 in
theorem c_X9_isBracketWord {Ω : JO} {I : JI} {S : JS} {Q : JQ} {m : Nat} {r : Bool} (hm : Is9 S m) (h : s_X9_isBracketWord I m = some r) (hQ : Q (.inl (some (.int (zb r)))) I S) : Call Ω m_X9_isBracketWord [.ref m] I S Q := by
  refine call_of (by decide +kernel) rfl (Nat.le_of_ble_eq_true rfl) ?_
  change AA Ω m_X9_isBracketWord (FQ Ω m_X9_isBracketWord Q) 0 0 0 [(0, .ref m)] [] I S
  unfold s_X9_isBracketWord at h
  refine r_aload_n (pc' := 1) dX9_isBracketWord_0 rfl 0 rfl rfl ?_
  refine r_ldcS (pc' := 3) (tx := "repeat") dX9_isBracketWord_1 sw_X9_164 rfl ?_
  obtain ⟨z1, ez1, h⟩ := bd_e h
  refine r_callV1 (pc' := 6) (k' := 0) (n' := 0) dX9_isBracketWord_3 mb_X9_isWord mi_X9_isWord hm.o (by decide) rfl lk_X9_166 rfl rfl rfl (Nat.le_of_ble_eq_true rfl) rfl (c_X9_isWord hm sw_X9_164 ez1 (cpI ?_))
  refine r_if_ne (tgt := 27) (pc' := 9) dX9_isBracketWord_6 rfl rfl (fun h2 => ?_) (fun h2 => ?_)
  · have h := ifp (zb_p0 h2) h
    refine r_iconst (pc' := 28) (v := 1) dX9_isBracketWord_27 (by decide) rfl ?_
    refine r_goto (tgt := 32) dX9_isBracketWord_28 rfl ?_
    cases h
    exact r_zret dX9_isBracketWord_32 rfl (by decide) (by decide) (by decide) hQ
  · have h := ifn (zb_n0 h2) h
    refine r_aload_n (pc' := 10) dX9_isBracketWord_9 rfl 0 rfl rfl ?_
    refine r_ldcS (pc' := 12) (tx := "mirror") dX9_isBracketWord_10 sw_X9_170 rfl ?_
    obtain ⟨z3, ez3, h⟩ := bd_e h
    refine r_callV1 (pc' := 15) (k' := 0) (n' := 0) dX9_isBracketWord_12 mb_X9_isWord mi_X9_isWord hm.o (by decide) rfl lk_X9_166 rfl rfl rfl (Nat.le_of_ble_eq_true rfl) rfl (c_X9_isWord hm sw_X9_170 ez3 (cpI ?_))
    refine r_if_ne (tgt := 27) (pc' := 18) dX9_isBracketWord_15 rfl rfl (fun h4 => ?_) (fun h4 => ?_)
    · have h := ifp (zb_p0 h4) h
      refine r_iconst (pc' := 28) (v := 1) dX9_isBracketWord_27 (by decide) rfl ?_
      refine r_goto (tgt := 32) dX9_isBracketWord_28 rfl ?_
      cases h
      exact r_zret dX9_isBracketWord_32 rfl (by decide) (by decide) (by decide) hQ
    · have h := ifn (zb_n0 h4) h
      refine r_aload_n (pc' := 19) dX9_isBracketWord_18 rfl 0 rfl rfl ?_
      refine r_ldcS (pc' := 21) (tx := "back") dX9_isBracketWord_19 sw_X9_172 rfl ?_
      obtain ⟨z5, ez5, h⟩ := bd_e h
      refine r_callV1 (pc' := 24) (k' := 0) (n' := 0) dX9_isBracketWord_21 mb_X9_isWord mi_X9_isWord hm.o (by decide) rfl lk_X9_166 rfl rfl rfl (Nat.le_of_ble_eq_true rfl) rfl (c_X9_isWord hm sw_X9_172 ez5 (cpI ?_))
      refine r_if_eq (tgt := 31) (pc' := 27) dX9_isBracketWord_24 rfl rfl (fun h6 => ?_) (fun h6 => ?_)
      · have h := ifn (zb_n0 h6) h
        refine r_iconst (pc' := 32) (v := 0) dX9_isBracketWord_31 (by decide) rfl ?_
        cases h
        exact r_zret dX9_isBracketWord_32 rfl (by decide) (by decide) (by decide) hQ
      · have h := ifp (zb_p0 h6) h
        refine r_iconst (pc' := 28) (v := 1) dX9_isBracketWord_27 (by decide) rfl ?_
        refine r_goto (tgt := 32) dX9_isBracketWord_28 rfl ?_
        cases h
        exact r_zret dX9_isBracketWord_32 rfl (by decide) (by decide) (by decide) hQ
noncomputable def s_X9_opensPart (I : JI) (m : Nat) : Option (JI) :=
  bd (s_X9_isWord I m "repeat") fun z1 => bd (s_X9_isWord I m "mirror") fun z2 => if z2 = true then (if (I m 20) = 3 then (lx (s_X9_limits I m true) fun I165 => bd (s_X9_goes I165 m) fun I166 => if z1 = true then (bd2 (s_X9_readNumber I166 m 1 20) fun v193 I192 => if (s_X9_is I192 m 5) = true then (bd (s_X9_goes I192 m) fun I195 => if (I195 m 10) ≤ 0 then (bd (s_X9_addsPart I195 m (100 + v193)) fun I197 => lx (stI I197 m 20 ((I197 m 20) + 1)) fun I198 => gd (vp_in (I198 m 20) 4) <| lx (stI I198 (m + 9) (Int32.toNatClampNeg (I198 m 20)) (100 + v193)) fun I200 => gd (vp_in (I200 m 20) 4) <| lx (stI I200 (m + 8) (Int32.toNatClampNeg (I200 m 20)) 0) fun I202 => gd (vp_in 7 2030) <| gd (vp_in 7 2030) <| lx (stI I202 (m + 1) (Int32.toNatClampNeg 7) (mxF (I202 (m + 1) (Int32.toNatClampNeg 7)) ((I202 m 20) + 1))) fun I205 => some I205) else (some I195)) else (lx (s_X9_faults I192 m 1) fun I206 => bd (s_X9_goes I206 m) fun I207 => if (I207 m 10) ≤ 0 then (bd (s_X9_addsPart I207 m (100 + v193)) fun I209 => lx (stI I209 m 20 ((I209 m 20) + 1)) fun I210 => gd (vp_in (I210 m 20) 4) <| lx (stI I210 (m + 9) (Int32.toNatClampNeg (I210 m 20)) (100 + v193)) fun I212 => gd (vp_in (I212 m 20) 4) <| lx (stI I212 (m + 8) (Int32.toNatClampNeg (I212 m 20)) 0) fun I214 => gd (vp_in 7 2030) <| gd (vp_in 7 2030) <| lx (stI I214 (m + 1) (Int32.toNatClampNeg 7) (mxF (I214 (m + 1) (Int32.toNatClampNeg 7)) ((I214 m 20) + 1))) fun I217 => some I217) else (some I207))) else (if (s_X9_is I166 m 5) = true then (bd (s_X9_goes I166 m) fun I169 => if (I169 m 10) ≤ 0 then (bd (s_X9_addsPart I169 m 200) fun I171 => lx (stI I171 m 20 ((I171 m 20) + 1)) fun I172 => gd (vp_in (I172 m 20) 4) <| lx (stI I172 (m + 9) (Int32.toNatClampNeg (I172 m 20)) 200) fun I174 => gd (vp_in (I174 m 20) 4) <| lx (stI I174 (m + 8) (Int32.toNatClampNeg (I174 m 20)) 0) fun I176 => gd (vp_in 7 2030) <| gd (vp_in 7 2030) <| lx (stI I176 (m + 1) (Int32.toNatClampNeg 7) (mxF (I176 (m + 1) (Int32.toNatClampNeg 7)) ((I176 m 20) + 1))) fun I179 => some I179) else (some I169)) else (lx (s_X9_faults I166 m 1) fun I180 => bd (s_X9_goes I180 m) fun I181 => if (I181 m 10) ≤ 0 then (bd (s_X9_addsPart I181 m 200) fun I183 => lx (stI I183 m 20 ((I183 m 20) + 1)) fun I184 => gd (vp_in (I184 m 20) 4) <| lx (stI I184 (m + 9) (Int32.toNatClampNeg (I184 m 20)) 200) fun I186 => gd (vp_in (I186 m 20) 4) <| lx (stI I186 (m + 8) (Int32.toNatClampNeg (I186 m 20)) 0) fun I188 => gd (vp_in 7 2030) <| gd (vp_in 7 2030) <| lx (stI I188 (m + 1) (Int32.toNatClampNeg 7) (mxF (I188 (m + 1) (Int32.toNatClampNeg 7)) ((I188 m 20) + 1))) fun I191 => some I191) else (some I181)))) else (lx (s_X9_limits I m false) fun I112 => bd (s_X9_goes I112 m) fun I113 => if z1 = true then (bd2 (s_X9_readNumber I113 m 1 20) fun v140 I139 => if (s_X9_is I139 m 5) = true then (bd (s_X9_goes I139 m) fun I142 => if (I142 m 10) ≤ 0 then (bd (s_X9_addsPart I142 m (100 + v140)) fun I144 => lx (stI I144 m 20 ((I144 m 20) + 1)) fun I145 => gd (vp_in (I145 m 20) 4) <| lx (stI I145 (m + 9) (Int32.toNatClampNeg (I145 m 20)) (100 + v140)) fun I147 => gd (vp_in (I147 m 20) 4) <| lx (stI I147 (m + 8) (Int32.toNatClampNeg (I147 m 20)) 0) fun I149 => gd (vp_in 7 2030) <| gd (vp_in 7 2030) <| lx (stI I149 (m + 1) (Int32.toNatClampNeg 7) (mxF (I149 (m + 1) (Int32.toNatClampNeg 7)) ((I149 m 20) + 1))) fun I152 => some I152) else (some I142)) else (lx (s_X9_faults I139 m 1) fun I153 => bd (s_X9_goes I153 m) fun I154 => if (I154 m 10) ≤ 0 then (bd (s_X9_addsPart I154 m (100 + v140)) fun I156 => lx (stI I156 m 20 ((I156 m 20) + 1)) fun I157 => gd (vp_in (I157 m 20) 4) <| lx (stI I157 (m + 9) (Int32.toNatClampNeg (I157 m 20)) (100 + v140)) fun I159 => gd (vp_in (I159 m 20) 4) <| lx (stI I159 (m + 8) (Int32.toNatClampNeg (I159 m 20)) 0) fun I161 => gd (vp_in 7 2030) <| gd (vp_in 7 2030) <| lx (stI I161 (m + 1) (Int32.toNatClampNeg 7) (mxF (I161 (m + 1) (Int32.toNatClampNeg 7)) ((I161 m 20) + 1))) fun I164 => some I164) else (some I154))) else (if (s_X9_is I113 m 5) = true then (bd (s_X9_goes I113 m) fun I116 => if (I116 m 10) ≤ 0 then (bd (s_X9_addsPart I116 m 200) fun I118 => lx (stI I118 m 20 ((I118 m 20) + 1)) fun I119 => gd (vp_in (I119 m 20) 4) <| lx (stI I119 (m + 9) (Int32.toNatClampNeg (I119 m 20)) 200) fun I121 => gd (vp_in (I121 m 20) 4) <| lx (stI I121 (m + 8) (Int32.toNatClampNeg (I121 m 20)) 0) fun I123 => gd (vp_in 7 2030) <| gd (vp_in 7 2030) <| lx (stI I123 (m + 1) (Int32.toNatClampNeg 7) (mxF (I123 (m + 1) (Int32.toNatClampNeg 7)) ((I123 m 20) + 1))) fun I126 => some I126) else (some I116)) else (lx (s_X9_faults I113 m 1) fun I127 => bd (s_X9_goes I127 m) fun I128 => if (I128 m 10) ≤ 0 then (bd (s_X9_addsPart I128 m 200) fun I130 => lx (stI I130 m 20 ((I130 m 20) + 1)) fun I131 => gd (vp_in (I131 m 20) 4) <| lx (stI I131 (m + 9) (Int32.toNatClampNeg (I131 m 20)) 200) fun I133 => gd (vp_in (I133 m 20) 4) <| lx (stI I133 (m + 8) (Int32.toNatClampNeg (I133 m 20)) 0) fun I135 => gd (vp_in 7 2030) <| gd (vp_in 7 2030) <| lx (stI I135 (m + 1) (Int32.toNatClampNeg 7) (mxF (I135 (m + 1) (Int32.toNatClampNeg 7)) ((I135 m 20) + 1))) fun I138 => some I138) else (some I128))))) else (if (I m 20) = 3 then (lx (s_X9_limits I m true) fun I58 => bd (s_X9_goes I58 m) fun I59 => if z1 = true then (bd2 (s_X9_readNumber I59 m 1 20) fun v86 I85 => if (s_X9_is I85 m 5) = true then (bd (s_X9_goes I85 m) fun I88 => if (I88 m 10) ≤ 0 then (bd (s_X9_addsPart I88 m (100 + v86)) fun I90 => lx (stI I90 m 20 ((I90 m 20) + 1)) fun I91 => gd (vp_in (I91 m 20) 4) <| lx (stI I91 (m + 9) (Int32.toNatClampNeg (I91 m 20)) (100 + v86)) fun I93 => gd (vp_in (I93 m 20) 4) <| lx (stI I93 (m + 8) (Int32.toNatClampNeg (I93 m 20)) 0) fun I95 => gd (vp_in 7 2030) <| gd (vp_in 7 2030) <| lx (stI I95 (m + 1) (Int32.toNatClampNeg 7) (mxF (I95 (m + 1) (Int32.toNatClampNeg 7)) ((I95 m 20) + 1))) fun I98 => some I98) else (some I88)) else (lx (s_X9_faults I85 m 1) fun I99 => bd (s_X9_goes I99 m) fun I100 => if (I100 m 10) ≤ 0 then (bd (s_X9_addsPart I100 m (100 + v86)) fun I102 => lx (stI I102 m 20 ((I102 m 20) + 1)) fun I103 => gd (vp_in (I103 m 20) 4) <| lx (stI I103 (m + 9) (Int32.toNatClampNeg (I103 m 20)) (100 + v86)) fun I105 => gd (vp_in (I105 m 20) 4) <| lx (stI I105 (m + 8) (Int32.toNatClampNeg (I105 m 20)) 0) fun I107 => gd (vp_in 7 2030) <| gd (vp_in 7 2030) <| lx (stI I107 (m + 1) (Int32.toNatClampNeg 7) (mxF (I107 (m + 1) (Int32.toNatClampNeg 7)) ((I107 m 20) + 1))) fun I110 => some I110) else (some I100))) else (if (s_X9_is I59 m 5) = true then (bd (s_X9_goes I59 m) fun I62 => if (I62 m 10) ≤ 0 then (bd (s_X9_addsPart I62 m 201) fun I64 => lx (stI I64 m 20 ((I64 m 20) + 1)) fun I65 => gd (vp_in (I65 m 20) 4) <| lx (stI I65 (m + 9) (Int32.toNatClampNeg (I65 m 20)) 201) fun I67 => gd (vp_in (I67 m 20) 4) <| lx (stI I67 (m + 8) (Int32.toNatClampNeg (I67 m 20)) 0) fun I69 => gd (vp_in 7 2030) <| gd (vp_in 7 2030) <| lx (stI I69 (m + 1) (Int32.toNatClampNeg 7) (mxF (I69 (m + 1) (Int32.toNatClampNeg 7)) ((I69 m 20) + 1))) fun I72 => some I72) else (some I62)) else (lx (s_X9_faults I59 m 1) fun I73 => bd (s_X9_goes I73 m) fun I74 => if (I74 m 10) ≤ 0 then (bd (s_X9_addsPart I74 m 201) fun I76 => lx (stI I76 m 20 ((I76 m 20) + 1)) fun I77 => gd (vp_in (I77 m 20) 4) <| lx (stI I77 (m + 9) (Int32.toNatClampNeg (I77 m 20)) 201) fun I79 => gd (vp_in (I79 m 20) 4) <| lx (stI I79 (m + 8) (Int32.toNatClampNeg (I79 m 20)) 0) fun I81 => gd (vp_in 7 2030) <| gd (vp_in 7 2030) <| lx (stI I81 (m + 1) (Int32.toNatClampNeg 7) (mxF (I81 (m + 1) (Int32.toNatClampNeg 7)) ((I81 m 20) + 1))) fun I84 => some I84) else (some I74)))) else (lx (s_X9_limits I m false) fun I5 => bd (s_X9_goes I5 m) fun I6 => if z1 = true then (bd2 (s_X9_readNumber I6 m 1 20) fun v33 I32 => if (s_X9_is I32 m 5) = true then (bd (s_X9_goes I32 m) fun I35 => if (I35 m 10) ≤ 0 then (bd (s_X9_addsPart I35 m (100 + v33)) fun I37 => lx (stI I37 m 20 ((I37 m 20) + 1)) fun I38 => gd (vp_in (I38 m 20) 4) <| lx (stI I38 (m + 9) (Int32.toNatClampNeg (I38 m 20)) (100 + v33)) fun I40 => gd (vp_in (I40 m 20) 4) <| lx (stI I40 (m + 8) (Int32.toNatClampNeg (I40 m 20)) 0) fun I42 => gd (vp_in 7 2030) <| gd (vp_in 7 2030) <| lx (stI I42 (m + 1) (Int32.toNatClampNeg 7) (mxF (I42 (m + 1) (Int32.toNatClampNeg 7)) ((I42 m 20) + 1))) fun I45 => some I45) else (some I35)) else (lx (s_X9_faults I32 m 1) fun I46 => bd (s_X9_goes I46 m) fun I47 => if (I47 m 10) ≤ 0 then (bd (s_X9_addsPart I47 m (100 + v33)) fun I49 => lx (stI I49 m 20 ((I49 m 20) + 1)) fun I50 => gd (vp_in (I50 m 20) 4) <| lx (stI I50 (m + 9) (Int32.toNatClampNeg (I50 m 20)) (100 + v33)) fun I52 => gd (vp_in (I52 m 20) 4) <| lx (stI I52 (m + 8) (Int32.toNatClampNeg (I52 m 20)) 0) fun I54 => gd (vp_in 7 2030) <| gd (vp_in 7 2030) <| lx (stI I54 (m + 1) (Int32.toNatClampNeg 7) (mxF (I54 (m + 1) (Int32.toNatClampNeg 7)) ((I54 m 20) + 1))) fun I57 => some I57) else (some I47))) else (if (s_X9_is I6 m 5) = true then (bd (s_X9_goes I6 m) fun I9 => if (I9 m 10) ≤ 0 then (bd (s_X9_addsPart I9 m 201) fun I11 => lx (stI I11 m 20 ((I11 m 20) + 1)) fun I12 => gd (vp_in (I12 m 20) 4) <| lx (stI I12 (m + 9) (Int32.toNatClampNeg (I12 m 20)) 201) fun I14 => gd (vp_in (I14 m 20) 4) <| lx (stI I14 (m + 8) (Int32.toNatClampNeg (I14 m 20)) 0) fun I16 => gd (vp_in 7 2030) <| gd (vp_in 7 2030) <| lx (stI I16 (m + 1) (Int32.toNatClampNeg 7) (mxF (I16 (m + 1) (Int32.toNatClampNeg 7)) ((I16 m 20) + 1))) fun I19 => some I19) else (some I9)) else (lx (s_X9_faults I6 m 1) fun I20 => bd (s_X9_goes I20 m) fun I21 => if (I21 m 10) ≤ 0 then (bd (s_X9_addsPart I21 m 201) fun I23 => lx (stI I23 m 20 ((I23 m 20) + 1)) fun I24 => gd (vp_in (I24 m 20) 4) <| lx (stI I24 (m + 9) (Int32.toNatClampNeg (I24 m 20)) 201) fun I26 => gd (vp_in (I26 m 20) 4) <| lx (stI I26 (m + 8) (Int32.toNatClampNeg (I26 m 20)) 0) fun I28 => gd (vp_in 7 2030) <| gd (vp_in 7 2030) <| lx (stI I28 (m + 1) (Int32.toNatClampNeg 7) (mxF (I28 (m + 1) (Int32.toNatClampNeg 7)) ((I28 m 20) + 1))) fun I31 => some I31) else (some I21)))))
set_option maxHeartbeats 4000000 in
theorem c_X9_opensPart {Ω : JO} {I : JI} {S : JS} {Q : JQ} {m : Nat} {J : JI} (hm : Is9 S m) (h : s_X9_opensPart I m = some J) (hQ : Q (.inl none) J S) : Call Ω m_X9_opensPart [.ref m] I S Q := by
  refine call_of (by decide +kernel) rfl (Nat.le_of_ble_eq_true rfl) ?_
  change AA Ω m_X9_opensPart (FQ Ω m_X9_opensPart Q) 0 0 0 [(0, .ref m)] [] I S
  unfold s_X9_opensPart at h
  refine r_aload_n (pc' := 1) dX9_opensPart_0 rfl 0 rfl rfl ?_
  refine r_ldcS (pc' := 3) (tx := "repeat") dX9_opensPart_1 sw_X9_164 rfl ?_
  obtain ⟨z1, ez1, h⟩ := bd_e h
  refine r_callV1 (pc' := 6) (k' := 0) (n' := 0) dX9_opensPart_3 mb_X9_isWord mi_X9_isWord hm.o (by decide) rfl lk_X9_166 rfl rfl rfl (Nat.le_of_ble_eq_true rfl) rfl (c_X9_isWord hm sw_X9_164 ez1 (cpI ?_))
  refine r_istore_n (pc' := 7) (lv' := [(1, _), (0, _)]) dX9_opensPart_6 rfl (by decide) rfl rfl ?_
  refine r_aload_n (pc' := 8) dX9_opensPart_7 rfl 1 rfl rfl ?_
  refine r_ldcS (pc' := 10) (tx := "mirror") dX9_opensPart_8 sw_X9_170 rfl ?_
  obtain ⟨z2, ez2, h⟩ := bd_e h
  refine r_callV1 (pc' := 13) (k' := 0) (n' := 0) dX9_opensPart_10 mb_X9_isWord mi_X9_isWord hm.o (by decide) rfl lk_X9_166 rfl rfl rfl (Nat.le_of_ble_eq_true rfl) rfl (c_X9_isWord hm sw_X9_170 ez2 (cpI ?_))
  refine r_if_eq (tgt := 22) (pc' := 16) dX9_opensPart_13 rfl rfl (fun h3 => ?_) (fun h3 => ?_)
  · have h := ifn (zb_n0 h3) h
    refine r_sipush (pc' := 25) (v := 201) dX9_opensPart_22 (by decide) rfl ?_
    refine r_istore_n (pc' := 26) (lv' := [(2, _), (1, _), (0, _)]) dX9_opensPart_25 rfl (by decide) rfl rfl ?_
    refine r_aload_n (pc' := 27) dX9_opensPart_26 rfl 2 rfl rfl ?_
    refine r_aload_n (pc' := 28) dX9_opensPart_27 rfl 2 rfl rfl ?_
    refine r_getI (pc' := 31) dX9_opensPart_28 fa_X9_154 hm.o rfl rfl ?_
    refine r_iconst (pc' := 32) (v := 3) dX9_opensPart_31 (by decide) rfl ?_
    refine r_icmp_ne (tgt := 39) (pc' := 35) dX9_opensPart_32 rfl rfl (fun h4 => ?_) (fun h4 => ?_)
    · have h := ifn h4 h
      refine r_iconst (pc' := 40) (v := 0) dX9_opensPart_39 (by decide) rfl ?_
      refine r_callV1 (pc' := 43) (k' := 0) (n' := 0) dX9_opensPart_40 mb_X9_limits mi_X9_limits hm.o (by decide) rfl lk_X9_130 rfl rfl rfl (Nat.le_of_ble_eq_true rfl) rfl (c_X9_limits (b1 := false) hm rfl (cpV ?_))
      have h := lx_e h
      refine r_aload_n (pc' := 44) dX9_opensPart_43 rfl 2 rfl rfl ?_
      obtain ⟨I6, eI6, h⟩ := bd_e h
      refine r_callV0 (pc' := 47) (k' := 0) (n' := 0) dX9_opensPart_44 mb_X9_goes mi_X9_goes hm.o (by decide) rfl lk_X9_124 rfl rfl rfl (Nat.le_of_ble_eq_true rfl) rfl (c_X9_goes hm eI6 (cpV ?_))
      refine r_iload_n (pc' := 48) dX9_opensPart_47 rfl 1 rfl rfl ?_
      refine r_if_eq (tgt := 62) (pc' := 51) dX9_opensPart_48 rfl rfl (fun h7 => ?_) (fun h7 => ?_)
      · have h := ifn (zb_n0 h7) h
        refine r_aload_n (pc' := 63) dX9_opensPart_62 rfl 2 rfl rfl ?_
        refine r_iconst (pc' := 64) (v := 5) dX9_opensPart_63 (by decide) rfl ?_
        refine r_callV1 (pc' := 67) (k' := 0) (n' := 0) dX9_opensPart_64 mb_X9_is mi_X9_is hm.o (by decide) rfl lk_X9_107 rfl rfl rfl (Nat.le_of_ble_eq_true rfl) rfl (c_X9_is hm rfl (cpI ?_))
        refine r_if_ne (tgt := 75) (pc' := 70) dX9_opensPart_67 rfl rfl (fun h8 => ?_) (fun h8 => ?_)
        · have h := ifp (zb_p0 h8) h
          refine r_aload_n (pc' := 76) dX9_opensPart_75 rfl 2 rfl rfl ?_
          obtain ⟨I9, eI9, h⟩ := bd_e h
          refine r_callV0 (pc' := 79) (k' := 0) (n' := 0) dX9_opensPart_76 mb_X9_goes mi_X9_goes hm.o (by decide) rfl lk_X9_124 rfl rfl rfl (Nat.le_of_ble_eq_true rfl) rfl (c_X9_goes hm eI9 (cpV ?_))
          refine r_aload_n (pc' := 80) dX9_opensPart_79 rfl 2 rfl rfl ?_
          refine r_getI (pc' := 83) dX9_opensPart_80 fa_X9_68 hm.o rfl rfl ?_
          refine r_if_le (tgt := 87) (pc' := 86) dX9_opensPart_83 rfl rfl (fun h10 => ?_) (fun h10 => ?_)
          · have h := ifp h10 h
            refine r_aload_n (pc' := 88) dX9_opensPart_87 rfl 2 rfl rfl ?_
            refine r_iload_n (pc' := 89) dX9_opensPart_88 rfl 0 rfl rfl ?_
            obtain ⟨I11, eI11, h⟩ := bd_e h
            refine r_callV1 (pc' := 92) (k' := 0) (n' := 0) dX9_opensPart_89 mb_X9_addsPart mi_X9_addsPart hm.o (by decide) rfl lk_X9_157 rfl rfl rfl (Nat.le_of_ble_eq_true rfl) rfl (c_X9_addsPart hm eI11 (cpV ?_))
            refine r_aload_n (pc' := 93) dX9_opensPart_92 rfl 2 rfl rfl ?_
            refine r_dup (pc' := 94) dX9_opensPart_93 rfl rfl ?_
            refine r_getI (pc' := 97) dX9_opensPart_94 fa_X9_154 hm.o rfl rfl ?_
            refine r_iconst (pc' := 98) (v := 1) dX9_opensPart_97 (by decide) rfl ?_
            refine r_iadd (pc' := 99) dX9_opensPart_98 rfl ?_
            refine r_putI (pc' := 102) dX9_opensPart_99 fa_X9_154 hm.o rfl rfl ?_
            have h := lx_e h
            refine r_aload_n (pc' := 103) dX9_opensPart_102 rfl 2 rfl rfl ?_
            refine r_getO (pc' := 106) dX9_opensPart_103 fa_X9_40 hm.o rfl hm.r19 rfl ?_
            refine r_aload_n (pc' := 107) dX9_opensPart_106 rfl 2 rfl rfl ?_
            refine r_getI (pc' := 110) dX9_opensPart_107 fa_X9_154 hm.o rfl rfl ?_
            refine r_iload_n (pc' := 111) dX9_opensPart_110 rfl 0 rfl rfl ?_
            obtain ⟨g13, h⟩ := gd_e h
            refine r_iastore (pc' := 112) dX9_opensPart_111 hm.c19 g13 rfl ?_
            have h := lx_e h
            refine r_aload_n (pc' := 113) dX9_opensPart_112 rfl 2 rfl rfl ?_
            refine r_getO (pc' := 116) dX9_opensPart_113 fa_X9_37 hm.o rfl hm.r18 rfl ?_
            refine r_aload_n (pc' := 117) dX9_opensPart_116 rfl 2 rfl rfl ?_
            refine r_getI (pc' := 120) dX9_opensPart_117 fa_X9_154 hm.o rfl rfl ?_
            refine r_iconst (pc' := 121) (v := 0) dX9_opensPart_120 (by decide) rfl ?_
            obtain ⟨g15, h⟩ := gd_e h
            refine r_iastore (pc' := 122) dX9_opensPart_121 hm.c18 g15 rfl ?_
            have h := lx_e h
            refine r_aload_n (pc' := 123) dX9_opensPart_122 rfl 2 rfl rfl ?_
            refine r_getO (pc' := 126) dX9_opensPart_123 fa_X9_9 hm.o rfl hm.r1 rfl ?_
            refine r_bipush (pc' := 128) (v := 7) dX9_opensPart_126 (by decide) rfl ?_
            refine r_aload_n (pc' := 129) dX9_opensPart_128 rfl 2 rfl rfl ?_
            refine r_getO (pc' := 132) dX9_opensPart_129 fa_X9_9 hm.o rfl hm.r1 rfl ?_
            refine r_bipush (pc' := 134) (v := 7) dX9_opensPart_132 (by decide) rfl ?_
            obtain ⟨g17, h⟩ := gd_e h
            refine r_iaload (pc' := 135) dX9_opensPart_134 hm.c1 g17 rfl ?_
            refine r_aload_n (pc' := 136) dX9_opensPart_135 rfl 2 rfl rfl ?_
            refine r_getI (pc' := 139) dX9_opensPart_136 fa_X9_154 hm.o rfl rfl ?_
            refine r_iconst (pc' := 140) (v := 1) dX9_opensPart_139 (by decide) rfl ?_
            refine r_iadd (pc' := 141) dX9_opensPart_140 rfl ?_
            refine r_mmax (pc' := 144) dX9_opensPart_141 mw_X9_177 (by decide) (Nat.le_of_ble_eq_true rfl) (by decide) (by decide) rfl ?_
            obtain ⟨g18, h⟩ := gd_e h
            refine r_iastore (pc' := 145) dX9_opensPart_144 hm.c1 g18 rfl ?_
            have h := lx_e h
            cases h
            exact r_ret dX9_opensPart_145 rfl (by decide) (by decide) hQ
          · have h := ifn h10 h
            cases h
            exact r_ret dX9_opensPart_86 rfl (by decide) (by decide) hQ
        · have h := ifn (zb_n0 h8) h
          refine r_aload_n (pc' := 71) dX9_opensPart_70 rfl 2 rfl rfl ?_
          refine r_iconst (pc' := 72) (v := 1) dX9_opensPart_71 (by decide) rfl ?_
          refine r_callV1 (pc' := 75) (k' := 0) (n' := 0) dX9_opensPart_72 mb_X9_faults mi_X9_faults hm.o (by decide) rfl lk_X9_104 rfl rfl rfl (Nat.le_of_ble_eq_true rfl) rfl (c_X9_faults hm rfl (cpV ?_))
          have h := lx_e h
          refine r_aload_n (pc' := 76) dX9_opensPart_75 rfl 2 rfl rfl ?_
          obtain ⟨I21, eI21, h⟩ := bd_e h
          refine r_callV0 (pc' := 79) (k' := 0) (n' := 0) dX9_opensPart_76 mb_X9_goes mi_X9_goes hm.o (by decide) rfl lk_X9_124 rfl rfl rfl (Nat.le_of_ble_eq_true rfl) rfl (c_X9_goes hm eI21 (cpV ?_))
          refine r_aload_n (pc' := 80) dX9_opensPart_79 rfl 2 rfl rfl ?_
          refine r_getI (pc' := 83) dX9_opensPart_80 fa_X9_68 hm.o rfl rfl ?_
          refine r_if_le (tgt := 87) (pc' := 86) dX9_opensPart_83 rfl rfl (fun h22 => ?_) (fun h22 => ?_)
          · have h := ifp h22 h
            refine r_aload_n (pc' := 88) dX9_opensPart_87 rfl 2 rfl rfl ?_
            refine r_iload_n (pc' := 89) dX9_opensPart_88 rfl 0 rfl rfl ?_
            obtain ⟨I23, eI23, h⟩ := bd_e h
            refine r_callV1 (pc' := 92) (k' := 0) (n' := 0) dX9_opensPart_89 mb_X9_addsPart mi_X9_addsPart hm.o (by decide) rfl lk_X9_157 rfl rfl rfl (Nat.le_of_ble_eq_true rfl) rfl (c_X9_addsPart hm eI23 (cpV ?_))
            refine r_aload_n (pc' := 93) dX9_opensPart_92 rfl 2 rfl rfl ?_
            refine r_dup (pc' := 94) dX9_opensPart_93 rfl rfl ?_
            refine r_getI (pc' := 97) dX9_opensPart_94 fa_X9_154 hm.o rfl rfl ?_
            refine r_iconst (pc' := 98) (v := 1) dX9_opensPart_97 (by decide) rfl ?_
            refine r_iadd (pc' := 99) dX9_opensPart_98 rfl ?_
            refine r_putI (pc' := 102) dX9_opensPart_99 fa_X9_154 hm.o rfl rfl ?_
            have h := lx_e h
            refine r_aload_n (pc' := 103) dX9_opensPart_102 rfl 2 rfl rfl ?_
            refine r_getO (pc' := 106) dX9_opensPart_103 fa_X9_40 hm.o rfl hm.r19 rfl ?_
            refine r_aload_n (pc' := 107) dX9_opensPart_106 rfl 2 rfl rfl ?_
            refine r_getI (pc' := 110) dX9_opensPart_107 fa_X9_154 hm.o rfl rfl ?_
            refine r_iload_n (pc' := 111) dX9_opensPart_110 rfl 0 rfl rfl ?_
            obtain ⟨g25, h⟩ := gd_e h
            refine r_iastore (pc' := 112) dX9_opensPart_111 hm.c19 g25 rfl ?_
            have h := lx_e h
            refine r_aload_n (pc' := 113) dX9_opensPart_112 rfl 2 rfl rfl ?_
            refine r_getO (pc' := 116) dX9_opensPart_113 fa_X9_37 hm.o rfl hm.r18 rfl ?_
            refine r_aload_n (pc' := 117) dX9_opensPart_116 rfl 2 rfl rfl ?_
            refine r_getI (pc' := 120) dX9_opensPart_117 fa_X9_154 hm.o rfl rfl ?_
            refine r_iconst (pc' := 121) (v := 0) dX9_opensPart_120 (by decide) rfl ?_
            obtain ⟨g27, h⟩ := gd_e h
            refine r_iastore (pc' := 122) dX9_opensPart_121 hm.c18 g27 rfl ?_
            have h := lx_e h
            refine r_aload_n (pc' := 123) dX9_opensPart_122 rfl 2 rfl rfl ?_
            refine r_getO (pc' := 126) dX9_opensPart_123 fa_X9_9 hm.o rfl hm.r1 rfl ?_
            refine r_bipush (pc' := 128) (v := 7) dX9_opensPart_126 (by decide) rfl ?_
            refine r_aload_n (pc' := 129) dX9_opensPart_128 rfl 2 rfl rfl ?_
            refine r_getO (pc' := 132) dX9_opensPart_129 fa_X9_9 hm.o rfl hm.r1 rfl ?_
            refine r_bipush (pc' := 134) (v := 7) dX9_opensPart_132 (by decide) rfl ?_
            obtain ⟨g29, h⟩ := gd_e h
            refine r_iaload (pc' := 135) dX9_opensPart_134 hm.c1 g29 rfl ?_
            refine r_aload_n (pc' := 136) dX9_opensPart_135 rfl 2 rfl rfl ?_
            refine r_getI (pc' := 139) dX9_opensPart_136 fa_X9_154 hm.o rfl rfl ?_
            refine r_iconst (pc' := 140) (v := 1) dX9_opensPart_139 (by decide) rfl ?_
            refine r_iadd (pc' := 141) dX9_opensPart_140 rfl ?_
            refine r_mmax (pc' := 144) dX9_opensPart_141 mw_X9_177 (by decide) (Nat.le_of_ble_eq_true rfl) (by decide) (by decide) rfl ?_
            obtain ⟨g30, h⟩ := gd_e h
            refine r_iastore (pc' := 145) dX9_opensPart_144 hm.c1 g30 rfl ?_
            have h := lx_e h
            cases h
            exact r_ret dX9_opensPart_145 rfl (by decide) (by decide) hQ
          · have h := ifn h22 h
            cases h
            exact r_ret dX9_opensPart_86 rfl (by decide) (by decide) hQ
      · have h := ifp (zb_p0 h7) h
        refine r_bipush (pc' := 53) (v := 100) dX9_opensPart_51 (by decide) rfl ?_
        refine r_aload_n (pc' := 54) dX9_opensPart_53 rfl 2 rfl rfl ?_
        refine r_iconst (pc' := 55) (v := 1) dX9_opensPart_54 (by decide) rfl ?_
        refine r_bipush (pc' := 57) (v := 20) dX9_opensPart_55 (by decide) rfl ?_
        obtain ⟨v33, I32, ev33, h⟩ := bd2_e h
        refine r_callV2 (pc' := 60) (k' := 0) (n' := 0) dX9_opensPart_57 mb_X9_readNumber mi_X9_readNumber hm.o (by decide) rfl lk_X9_174 rfl rfl rfl (Nat.le_of_ble_eq_true rfl) rfl (c_X9_readNumber hm ev33 (cpI ?_))
        refine r_iadd (pc' := 61) dX9_opensPart_60 rfl ?_
        refine r_istore_n (pc' := 62) (lv' := [(2, _), (1, _), (0, _)]) dX9_opensPart_61 rfl (by decide) rfl rfl ?_
        refine r_aload_n (pc' := 63) dX9_opensPart_62 rfl 2 rfl rfl ?_
        refine r_iconst (pc' := 64) (v := 5) dX9_opensPart_63 (by decide) rfl ?_
        refine r_callV1 (pc' := 67) (k' := 0) (n' := 0) dX9_opensPart_64 mb_X9_is mi_X9_is hm.o (by decide) rfl lk_X9_107 rfl rfl rfl (Nat.le_of_ble_eq_true rfl) rfl (c_X9_is hm rfl (cpI ?_))
        refine r_if_ne (tgt := 75) (pc' := 70) dX9_opensPart_67 rfl rfl (fun h34 => ?_) (fun h34 => ?_)
        · have h := ifp (zb_p0 h34) h
          refine r_aload_n (pc' := 76) dX9_opensPart_75 rfl 2 rfl rfl ?_
          obtain ⟨I35, eI35, h⟩ := bd_e h
          refine r_callV0 (pc' := 79) (k' := 0) (n' := 0) dX9_opensPart_76 mb_X9_goes mi_X9_goes hm.o (by decide) rfl lk_X9_124 rfl rfl rfl (Nat.le_of_ble_eq_true rfl) rfl (c_X9_goes hm eI35 (cpV ?_))
          refine r_aload_n (pc' := 80) dX9_opensPart_79 rfl 2 rfl rfl ?_
          refine r_getI (pc' := 83) dX9_opensPart_80 fa_X9_68 hm.o rfl rfl ?_
          refine r_if_le (tgt := 87) (pc' := 86) dX9_opensPart_83 rfl rfl (fun h36 => ?_) (fun h36 => ?_)
          · have h := ifp h36 h
            refine r_aload_n (pc' := 88) dX9_opensPart_87 rfl 2 rfl rfl ?_
            refine r_iload_n (pc' := 89) dX9_opensPart_88 rfl 0 rfl rfl ?_
            obtain ⟨I37, eI37, h⟩ := bd_e h
            refine r_callV1 (pc' := 92) (k' := 0) (n' := 0) dX9_opensPart_89 mb_X9_addsPart mi_X9_addsPart hm.o (by decide) rfl lk_X9_157 rfl rfl rfl (Nat.le_of_ble_eq_true rfl) rfl (c_X9_addsPart hm eI37 (cpV ?_))
            refine r_aload_n (pc' := 93) dX9_opensPart_92 rfl 2 rfl rfl ?_
            refine r_dup (pc' := 94) dX9_opensPart_93 rfl rfl ?_
            refine r_getI (pc' := 97) dX9_opensPart_94 fa_X9_154 hm.o rfl rfl ?_
            refine r_iconst (pc' := 98) (v := 1) dX9_opensPart_97 (by decide) rfl ?_
            refine r_iadd (pc' := 99) dX9_opensPart_98 rfl ?_
            refine r_putI (pc' := 102) dX9_opensPart_99 fa_X9_154 hm.o rfl rfl ?_
            have h := lx_e h
            refine r_aload_n (pc' := 103) dX9_opensPart_102 rfl 2 rfl rfl ?_
            refine r_getO (pc' := 106) dX9_opensPart_103 fa_X9_40 hm.o rfl hm.r19 rfl ?_
            refine r_aload_n (pc' := 107) dX9_opensPart_106 rfl 2 rfl rfl ?_
            refine r_getI (pc' := 110) dX9_opensPart_107 fa_X9_154 hm.o rfl rfl ?_
            refine r_iload_n (pc' := 111) dX9_opensPart_110 rfl 0 rfl rfl ?_
            obtain ⟨g39, h⟩ := gd_e h
            refine r_iastore (pc' := 112) dX9_opensPart_111 hm.c19 g39 rfl ?_
            have h := lx_e h
            refine r_aload_n (pc' := 113) dX9_opensPart_112 rfl 2 rfl rfl ?_
            refine r_getO (pc' := 116) dX9_opensPart_113 fa_X9_37 hm.o rfl hm.r18 rfl ?_
            refine r_aload_n (pc' := 117) dX9_opensPart_116 rfl 2 rfl rfl ?_
            refine r_getI (pc' := 120) dX9_opensPart_117 fa_X9_154 hm.o rfl rfl ?_
            refine r_iconst (pc' := 121) (v := 0) dX9_opensPart_120 (by decide) rfl ?_
            obtain ⟨g41, h⟩ := gd_e h
            refine r_iastore (pc' := 122) dX9_opensPart_121 hm.c18 g41 rfl ?_
            have h := lx_e h
            refine r_aload_n (pc' := 123) dX9_opensPart_122 rfl 2 rfl rfl ?_
            refine r_getO (pc' := 126) dX9_opensPart_123 fa_X9_9 hm.o rfl hm.r1 rfl ?_
            refine r_bipush (pc' := 128) (v := 7) dX9_opensPart_126 (by decide) rfl ?_
            refine r_aload_n (pc' := 129) dX9_opensPart_128 rfl 2 rfl rfl ?_
            refine r_getO (pc' := 132) dX9_opensPart_129 fa_X9_9 hm.o rfl hm.r1 rfl ?_
            refine r_bipush (pc' := 134) (v := 7) dX9_opensPart_132 (by decide) rfl ?_
            obtain ⟨g43, h⟩ := gd_e h
            refine r_iaload (pc' := 135) dX9_opensPart_134 hm.c1 g43 rfl ?_
            refine r_aload_n (pc' := 136) dX9_opensPart_135 rfl 2 rfl rfl ?_
            refine r_getI (pc' := 139) dX9_opensPart_136 fa_X9_154 hm.o rfl rfl ?_
            refine r_iconst (pc' := 140) (v := 1) dX9_opensPart_139 (by decide) rfl ?_
            refine r_iadd (pc' := 141) dX9_opensPart_140 rfl ?_
            refine r_mmax (pc' := 144) dX9_opensPart_141 mw_X9_177 (by decide) (Nat.le_of_ble_eq_true rfl) (by decide) (by decide) rfl ?_
            obtain ⟨g44, h⟩ := gd_e h
            refine r_iastore (pc' := 145) dX9_opensPart_144 hm.c1 g44 rfl ?_
            have h := lx_e h
            cases h
            exact r_ret dX9_opensPart_145 rfl (by decide) (by decide) hQ
          · have h := ifn h36 h
            cases h
            exact r_ret dX9_opensPart_86 rfl (by decide) (by decide) hQ
        · have h := ifn (zb_n0 h34) h
          refine r_aload_n (pc' := 71) dX9_opensPart_70 rfl 2 rfl rfl ?_
          refine r_iconst (pc' := 72) (v := 1) dX9_opensPart_71 (by decide) rfl ?_
          refine r_callV1 (pc' := 75) (k' := 0) (n' := 0) dX9_opensPart_72 mb_X9_faults mi_X9_faults hm.o (by decide) rfl lk_X9_104 rfl rfl rfl (Nat.le_of_ble_eq_true rfl) rfl (c_X9_faults hm rfl (cpV ?_))
          have h := lx_e h
          refine r_aload_n (pc' := 76) dX9_opensPart_75 rfl 2 rfl rfl ?_
          obtain ⟨I47, eI47, h⟩ := bd_e h
          refine r_callV0 (pc' := 79) (k' := 0) (n' := 0) dX9_opensPart_76 mb_X9_goes mi_X9_goes hm.o (by decide) rfl lk_X9_124 rfl rfl rfl (Nat.le_of_ble_eq_true rfl) rfl (c_X9_goes hm eI47 (cpV ?_))
          refine r_aload_n (pc' := 80) dX9_opensPart_79 rfl 2 rfl rfl ?_
          refine r_getI (pc' := 83) dX9_opensPart_80 fa_X9_68 hm.o rfl rfl ?_
          refine r_if_le (tgt := 87) (pc' := 86) dX9_opensPart_83 rfl rfl (fun h48 => ?_) (fun h48 => ?_)
          · have h := ifp h48 h
            refine r_aload_n (pc' := 88) dX9_opensPart_87 rfl 2 rfl rfl ?_
            refine r_iload_n (pc' := 89) dX9_opensPart_88 rfl 0 rfl rfl ?_
            obtain ⟨I49, eI49, h⟩ := bd_e h
            refine r_callV1 (pc' := 92) (k' := 0) (n' := 0) dX9_opensPart_89 mb_X9_addsPart mi_X9_addsPart hm.o (by decide) rfl lk_X9_157 rfl rfl rfl (Nat.le_of_ble_eq_true rfl) rfl (c_X9_addsPart hm eI49 (cpV ?_))
            refine r_aload_n (pc' := 93) dX9_opensPart_92 rfl 2 rfl rfl ?_
            refine r_dup (pc' := 94) dX9_opensPart_93 rfl rfl ?_
            refine r_getI (pc' := 97) dX9_opensPart_94 fa_X9_154 hm.o rfl rfl ?_
            refine r_iconst (pc' := 98) (v := 1) dX9_opensPart_97 (by decide) rfl ?_
            refine r_iadd (pc' := 99) dX9_opensPart_98 rfl ?_
            refine r_putI (pc' := 102) dX9_opensPart_99 fa_X9_154 hm.o rfl rfl ?_
            have h := lx_e h
            refine r_aload_n (pc' := 103) dX9_opensPart_102 rfl 2 rfl rfl ?_
            refine r_getO (pc' := 106) dX9_opensPart_103 fa_X9_40 hm.o rfl hm.r19 rfl ?_
            refine r_aload_n (pc' := 107) dX9_opensPart_106 rfl 2 rfl rfl ?_
            refine r_getI (pc' := 110) dX9_opensPart_107 fa_X9_154 hm.o rfl rfl ?_
            refine r_iload_n (pc' := 111) dX9_opensPart_110 rfl 0 rfl rfl ?_
            obtain ⟨g51, h⟩ := gd_e h
            refine r_iastore (pc' := 112) dX9_opensPart_111 hm.c19 g51 rfl ?_
            have h := lx_e h
            refine r_aload_n (pc' := 113) dX9_opensPart_112 rfl 2 rfl rfl ?_
            refine r_getO (pc' := 116) dX9_opensPart_113 fa_X9_37 hm.o rfl hm.r18 rfl ?_
            refine r_aload_n (pc' := 117) dX9_opensPart_116 rfl 2 rfl rfl ?_
            refine r_getI (pc' := 120) dX9_opensPart_117 fa_X9_154 hm.o rfl rfl ?_
            refine r_iconst (pc' := 121) (v := 0) dX9_opensPart_120 (by decide) rfl ?_
            obtain ⟨g53, h⟩ := gd_e h
            refine r_iastore (pc' := 122) dX9_opensPart_121 hm.c18 g53 rfl ?_
            have h := lx_e h
            refine r_aload_n (pc' := 123) dX9_opensPart_122 rfl 2 rfl rfl ?_
            refine r_getO (pc' := 126) dX9_opensPart_123 fa_X9_9 hm.o rfl hm.r1 rfl ?_
            refine r_bipush (pc' := 128) (v := 7) dX9_opensPart_126 (by decide) rfl ?_
            refine r_aload_n (pc' := 129) dX9_opensPart_128 rfl 2 rfl rfl ?_
            refine r_getO (pc' := 132) dX9_opensPart_129 fa_X9_9 hm.o rfl hm.r1 rfl ?_
            refine r_bipush (pc' := 134) (v := 7) dX9_opensPart_132 (by decide) rfl ?_
            obtain ⟨g55, h⟩ := gd_e h
            refine r_iaload (pc' := 135) dX9_opensPart_134 hm.c1 g55 rfl ?_
            refine r_aload_n (pc' := 136) dX9_opensPart_135 rfl 2 rfl rfl ?_
            refine r_getI (pc' := 139) dX9_opensPart_136 fa_X9_154 hm.o rfl rfl ?_
            refine r_iconst (pc' := 140) (v := 1) dX9_opensPart_139 (by decide) rfl ?_
            refine r_iadd (pc' := 141) dX9_opensPart_140 rfl ?_
            refine r_mmax (pc' := 144) dX9_opensPart_141 mw_X9_177 (by decide) (Nat.le_of_ble_eq_true rfl) (by decide) (by decide) rfl ?_
            obtain ⟨g56, h⟩ := gd_e h
            refine r_iastore (pc' := 145) dX9_opensPart_144 hm.c1 g56 rfl ?_
            have h := lx_e h
            cases h
            exact r_ret dX9_opensPart_145 rfl (by decide) (by decide) hQ
          · have h := ifn h48 h
            cases h
            exact r_ret dX9_opensPart_86 rfl (by decide) (by decide) hQ
    · have h := ifp h4 h
      refine r_iconst (pc' := 36) (v := 1) dX9_opensPart_35 (by decide) rfl ?_
      refine r_goto (tgt := 40) dX9_opensPart_36 rfl ?_
      refine r_callV1 (pc' := 43) (k' := 0) (n' := 0) dX9_opensPart_40 mb_X9_limits mi_X9_limits hm.o (by decide) rfl lk_X9_130 rfl rfl rfl (Nat.le_of_ble_eq_true rfl) rfl (c_X9_limits (b1 := true) hm rfl (cpV ?_))
      have h := lx_e h
      refine r_aload_n (pc' := 44) dX9_opensPart_43 rfl 2 rfl rfl ?_
      obtain ⟨I59, eI59, h⟩ := bd_e h
      refine r_callV0 (pc' := 47) (k' := 0) (n' := 0) dX9_opensPart_44 mb_X9_goes mi_X9_goes hm.o (by decide) rfl lk_X9_124 rfl rfl rfl (Nat.le_of_ble_eq_true rfl) rfl (c_X9_goes hm eI59 (cpV ?_))
      refine r_iload_n (pc' := 48) dX9_opensPart_47 rfl 1 rfl rfl ?_
      refine r_if_eq (tgt := 62) (pc' := 51) dX9_opensPart_48 rfl rfl (fun h60 => ?_) (fun h60 => ?_)
      · have h := ifn (zb_n0 h60) h
        refine r_aload_n (pc' := 63) dX9_opensPart_62 rfl 2 rfl rfl ?_
        refine r_iconst (pc' := 64) (v := 5) dX9_opensPart_63 (by decide) rfl ?_
        refine r_callV1 (pc' := 67) (k' := 0) (n' := 0) dX9_opensPart_64 mb_X9_is mi_X9_is hm.o (by decide) rfl lk_X9_107 rfl rfl rfl (Nat.le_of_ble_eq_true rfl) rfl (c_X9_is hm rfl (cpI ?_))
        refine r_if_ne (tgt := 75) (pc' := 70) dX9_opensPart_67 rfl rfl (fun h61 => ?_) (fun h61 => ?_)
        · have h := ifp (zb_p0 h61) h
          refine r_aload_n (pc' := 76) dX9_opensPart_75 rfl 2 rfl rfl ?_
          obtain ⟨I62, eI62, h⟩ := bd_e h
          refine r_callV0 (pc' := 79) (k' := 0) (n' := 0) dX9_opensPart_76 mb_X9_goes mi_X9_goes hm.o (by decide) rfl lk_X9_124 rfl rfl rfl (Nat.le_of_ble_eq_true rfl) rfl (c_X9_goes hm eI62 (cpV ?_))
          refine r_aload_n (pc' := 80) dX9_opensPart_79 rfl 2 rfl rfl ?_
          refine r_getI (pc' := 83) dX9_opensPart_80 fa_X9_68 hm.o rfl rfl ?_
          refine r_if_le (tgt := 87) (pc' := 86) dX9_opensPart_83 rfl rfl (fun h63 => ?_) (fun h63 => ?_)
          · have h := ifp h63 h
            refine r_aload_n (pc' := 88) dX9_opensPart_87 rfl 2 rfl rfl ?_
            refine r_iload_n (pc' := 89) dX9_opensPart_88 rfl 0 rfl rfl ?_
            obtain ⟨I64, eI64, h⟩ := bd_e h
            refine r_callV1 (pc' := 92) (k' := 0) (n' := 0) dX9_opensPart_89 mb_X9_addsPart mi_X9_addsPart hm.o (by decide) rfl lk_X9_157 rfl rfl rfl (Nat.le_of_ble_eq_true rfl) rfl (c_X9_addsPart hm eI64 (cpV ?_))
            refine r_aload_n (pc' := 93) dX9_opensPart_92 rfl 2 rfl rfl ?_
            refine r_dup (pc' := 94) dX9_opensPart_93 rfl rfl ?_
            refine r_getI (pc' := 97) dX9_opensPart_94 fa_X9_154 hm.o rfl rfl ?_
            refine r_iconst (pc' := 98) (v := 1) dX9_opensPart_97 (by decide) rfl ?_
            refine r_iadd (pc' := 99) dX9_opensPart_98 rfl ?_
            refine r_putI (pc' := 102) dX9_opensPart_99 fa_X9_154 hm.o rfl rfl ?_
            have h := lx_e h
            refine r_aload_n (pc' := 103) dX9_opensPart_102 rfl 2 rfl rfl ?_
            refine r_getO (pc' := 106) dX9_opensPart_103 fa_X9_40 hm.o rfl hm.r19 rfl ?_
            refine r_aload_n (pc' := 107) dX9_opensPart_106 rfl 2 rfl rfl ?_
            refine r_getI (pc' := 110) dX9_opensPart_107 fa_X9_154 hm.o rfl rfl ?_
            refine r_iload_n (pc' := 111) dX9_opensPart_110 rfl 0 rfl rfl ?_
            obtain ⟨g66, h⟩ := gd_e h
            refine r_iastore (pc' := 112) dX9_opensPart_111 hm.c19 g66 rfl ?_
            have h := lx_e h
            refine r_aload_n (pc' := 113) dX9_opensPart_112 rfl 2 rfl rfl ?_
            refine r_getO (pc' := 116) dX9_opensPart_113 fa_X9_37 hm.o rfl hm.r18 rfl ?_
            refine r_aload_n (pc' := 117) dX9_opensPart_116 rfl 2 rfl rfl ?_
            refine r_getI (pc' := 120) dX9_opensPart_117 fa_X9_154 hm.o rfl rfl ?_
            refine r_iconst (pc' := 121) (v := 0) dX9_opensPart_120 (by decide) rfl ?_
            obtain ⟨g68, h⟩ := gd_e h
            refine r_iastore (pc' := 122) dX9_opensPart_121 hm.c18 g68 rfl ?_
            have h := lx_e h
            refine r_aload_n (pc' := 123) dX9_opensPart_122 rfl 2 rfl rfl ?_
            refine r_getO (pc' := 126) dX9_opensPart_123 fa_X9_9 hm.o rfl hm.r1 rfl ?_
            refine r_bipush (pc' := 128) (v := 7) dX9_opensPart_126 (by decide) rfl ?_
            refine r_aload_n (pc' := 129) dX9_opensPart_128 rfl 2 rfl rfl ?_
            refine r_getO (pc' := 132) dX9_opensPart_129 fa_X9_9 hm.o rfl hm.r1 rfl ?_
            refine r_bipush (pc' := 134) (v := 7) dX9_opensPart_132 (by decide) rfl ?_
            obtain ⟨g70, h⟩ := gd_e h
            refine r_iaload (pc' := 135) dX9_opensPart_134 hm.c1 g70 rfl ?_
            refine r_aload_n (pc' := 136) dX9_opensPart_135 rfl 2 rfl rfl ?_
            refine r_getI (pc' := 139) dX9_opensPart_136 fa_X9_154 hm.o rfl rfl ?_
            refine r_iconst (pc' := 140) (v := 1) dX9_opensPart_139 (by decide) rfl ?_
            refine r_iadd (pc' := 141) dX9_opensPart_140 rfl ?_
            refine r_mmax (pc' := 144) dX9_opensPart_141 mw_X9_177 (by decide) (Nat.le_of_ble_eq_true rfl) (by decide) (by decide) rfl ?_
            obtain ⟨g71, h⟩ := gd_e h
            refine r_iastore (pc' := 145) dX9_opensPart_144 hm.c1 g71 rfl ?_
            have h := lx_e h
            cases h
            exact r_ret dX9_opensPart_145 rfl (by decide) (by decide) hQ
          · have h := ifn h63 h
            cases h
            exact r_ret dX9_opensPart_86 rfl (by decide) (by decide) hQ
        · have h := ifn (zb_n0 h61) h
          refine r_aload_n (pc' := 71) dX9_opensPart_70 rfl 2 rfl rfl ?_
          refine r_iconst (pc' := 72) (v := 1) dX9_opensPart_71 (by decide) rfl ?_
          refine r_callV1 (pc' := 75) (k' := 0) (n' := 0) dX9_opensPart_72 mb_X9_faults mi_X9_faults hm.o (by decide) rfl lk_X9_104 rfl rfl rfl (Nat.le_of_ble_eq_true rfl) rfl (c_X9_faults hm rfl (cpV ?_))
          have h := lx_e h
          refine r_aload_n (pc' := 76) dX9_opensPart_75 rfl 2 rfl rfl ?_
          obtain ⟨I74, eI74, h⟩ := bd_e h
          refine r_callV0 (pc' := 79) (k' := 0) (n' := 0) dX9_opensPart_76 mb_X9_goes mi_X9_goes hm.o (by decide) rfl lk_X9_124 rfl rfl rfl (Nat.le_of_ble_eq_true rfl) rfl (c_X9_goes hm eI74 (cpV ?_))
          refine r_aload_n (pc' := 80) dX9_opensPart_79 rfl 2 rfl rfl ?_
          refine r_getI (pc' := 83) dX9_opensPart_80 fa_X9_68 hm.o rfl rfl ?_
          refine r_if_le (tgt := 87) (pc' := 86) dX9_opensPart_83 rfl rfl (fun h75 => ?_) (fun h75 => ?_)
          · have h := ifp h75 h
            refine r_aload_n (pc' := 88) dX9_opensPart_87 rfl 2 rfl rfl ?_
            refine r_iload_n (pc' := 89) dX9_opensPart_88 rfl 0 rfl rfl ?_
            obtain ⟨I76, eI76, h⟩ := bd_e h
            refine r_callV1 (pc' := 92) (k' := 0) (n' := 0) dX9_opensPart_89 mb_X9_addsPart mi_X9_addsPart hm.o (by decide) rfl lk_X9_157 rfl rfl rfl (Nat.le_of_ble_eq_true rfl) rfl (c_X9_addsPart hm eI76 (cpV ?_))
            refine r_aload_n (pc' := 93) dX9_opensPart_92 rfl 2 rfl rfl ?_
            refine r_dup (pc' := 94) dX9_opensPart_93 rfl rfl ?_
            refine r_getI (pc' := 97) dX9_opensPart_94 fa_X9_154 hm.o rfl rfl ?_
            refine r_iconst (pc' := 98) (v := 1) dX9_opensPart_97 (by decide) rfl ?_
            refine r_iadd (pc' := 99) dX9_opensPart_98 rfl ?_
            refine r_putI (pc' := 102) dX9_opensPart_99 fa_X9_154 hm.o rfl rfl ?_
            have h := lx_e h
            refine r_aload_n (pc' := 103) dX9_opensPart_102 rfl 2 rfl rfl ?_
            refine r_getO (pc' := 106) dX9_opensPart_103 fa_X9_40 hm.o rfl hm.r19 rfl ?_
            refine r_aload_n (pc' := 107) dX9_opensPart_106 rfl 2 rfl rfl ?_
            refine r_getI (pc' := 110) dX9_opensPart_107 fa_X9_154 hm.o rfl rfl ?_
            refine r_iload_n (pc' := 111) dX9_opensPart_110 rfl 0 rfl rfl ?_
            obtain ⟨g78, h⟩ := gd_e h
            refine r_iastore (pc' := 112) dX9_opensPart_111 hm.c19 g78 rfl ?_
            have h := lx_e h
            refine r_aload_n (pc' := 113) dX9_opensPart_112 rfl 2 rfl rfl ?_
            refine r_getO (pc' := 116) dX9_opensPart_113 fa_X9_37 hm.o rfl hm.r18 rfl ?_
            refine r_aload_n (pc' := 117) dX9_opensPart_116 rfl 2 rfl rfl ?_
            refine r_getI (pc' := 120) dX9_opensPart_117 fa_X9_154 hm.o rfl rfl ?_
            refine r_iconst (pc' := 121) (v := 0) dX9_opensPart_120 (by decide) rfl ?_
            obtain ⟨g80, h⟩ := gd_e h
            refine r_iastore (pc' := 122) dX9_opensPart_121 hm.c18 g80 rfl ?_
            have h := lx_e h
            refine r_aload_n (pc' := 123) dX9_opensPart_122 rfl 2 rfl rfl ?_
            refine r_getO (pc' := 126) dX9_opensPart_123 fa_X9_9 hm.o rfl hm.r1 rfl ?_
            refine r_bipush (pc' := 128) (v := 7) dX9_opensPart_126 (by decide) rfl ?_
            refine r_aload_n (pc' := 129) dX9_opensPart_128 rfl 2 rfl rfl ?_
            refine r_getO (pc' := 132) dX9_opensPart_129 fa_X9_9 hm.o rfl hm.r1 rfl ?_
            refine r_bipush (pc' := 134) (v := 7) dX9_opensPart_132 (by decide) rfl ?_
            obtain ⟨g82, h⟩ := gd_e h
            refine r_iaload (pc' := 135) dX9_opensPart_134 hm.c1 g82 rfl ?_
            refine r_aload_n (pc' := 136) dX9_opensPart_135 rfl 2 rfl rfl ?_
            refine r_getI (pc' := 139) dX9_opensPart_136 fa_X9_154 hm.o rfl rfl ?_
            refine r_iconst (pc' := 140) (v := 1) dX9_opensPart_139 (by decide) rfl ?_
            refine r_iadd (pc' := 141) dX9_opensPart_140 rfl ?_
            refine r_mmax (pc' := 144) dX9_opensPart_141 mw_X9_177 (by decide) (Nat.le_of_ble_eq_true rfl) (by decide) (by decide) rfl ?_
            obtain ⟨g83, h⟩ := gd_e h
            refine r_iastore (pc' := 145) dX9_opensPart_144 hm.c1 g83 rfl ?_
            have h := lx_e h
            cases h
            exact r_ret dX9_opensPart_145 rfl (by decide) (by decide) hQ
          · have h := ifn h75 h
            cases h
            exact r_ret dX9_opensPart_86 rfl (by decide) (by decide) hQ
      · have h := ifp (zb_p0 h60) h
        refine r_bipush (pc' := 53) (v := 100) dX9_opensPart_51 (by decide) rfl ?_
        refine r_aload_n (pc' := 54) dX9_opensPart_53 rfl 2 rfl rfl ?_
        refine r_iconst (pc' := 55) (v := 1) dX9_opensPart_54 (by decide) rfl ?_
        refine r_bipush (pc' := 57) (v := 20) dX9_opensPart_55 (by decide) rfl ?_
        obtain ⟨v86, I85, ev86, h⟩ := bd2_e h
        refine r_callV2 (pc' := 60) (k' := 0) (n' := 0) dX9_opensPart_57 mb_X9_readNumber mi_X9_readNumber hm.o (by decide) rfl lk_X9_174 rfl rfl rfl (Nat.le_of_ble_eq_true rfl) rfl (c_X9_readNumber hm ev86 (cpI ?_))
        refine r_iadd (pc' := 61) dX9_opensPart_60 rfl ?_
        refine r_istore_n (pc' := 62) (lv' := [(2, _), (1, _), (0, _)]) dX9_opensPart_61 rfl (by decide) rfl rfl ?_
        refine r_aload_n (pc' := 63) dX9_opensPart_62 rfl 2 rfl rfl ?_
        refine r_iconst (pc' := 64) (v := 5) dX9_opensPart_63 (by decide) rfl ?_
        refine r_callV1 (pc' := 67) (k' := 0) (n' := 0) dX9_opensPart_64 mb_X9_is mi_X9_is hm.o (by decide) rfl lk_X9_107 rfl rfl rfl (Nat.le_of_ble_eq_true rfl) rfl (c_X9_is hm rfl (cpI ?_))
        refine r_if_ne (tgt := 75) (pc' := 70) dX9_opensPart_67 rfl rfl (fun h87 => ?_) (fun h87 => ?_)
        · have h := ifp (zb_p0 h87) h
          refine r_aload_n (pc' := 76) dX9_opensPart_75 rfl 2 rfl rfl ?_
          obtain ⟨I88, eI88, h⟩ := bd_e h
          refine r_callV0 (pc' := 79) (k' := 0) (n' := 0) dX9_opensPart_76 mb_X9_goes mi_X9_goes hm.o (by decide) rfl lk_X9_124 rfl rfl rfl (Nat.le_of_ble_eq_true rfl) rfl (c_X9_goes hm eI88 (cpV ?_))
          refine r_aload_n (pc' := 80) dX9_opensPart_79 rfl 2 rfl rfl ?_
          refine r_getI (pc' := 83) dX9_opensPart_80 fa_X9_68 hm.o rfl rfl ?_
          refine r_if_le (tgt := 87) (pc' := 86) dX9_opensPart_83 rfl rfl (fun h89 => ?_) (fun h89 => ?_)
          · have h := ifp h89 h
            refine r_aload_n (pc' := 88) dX9_opensPart_87 rfl 2 rfl rfl ?_
            refine r_iload_n (pc' := 89) dX9_opensPart_88 rfl 0 rfl rfl ?_
            obtain ⟨I90, eI90, h⟩ := bd_e h
            refine r_callV1 (pc' := 92) (k' := 0) (n' := 0) dX9_opensPart_89 mb_X9_addsPart mi_X9_addsPart hm.o (by decide) rfl lk_X9_157 rfl rfl rfl (Nat.le_of_ble_eq_true rfl) rfl (c_X9_addsPart hm eI90 (cpV ?_))
            refine r_aload_n (pc' := 93) dX9_opensPart_92 rfl 2 rfl rfl ?_
            refine r_dup (pc' := 94) dX9_opensPart_93 rfl rfl ?_
            refine r_getI (pc' := 97) dX9_opensPart_94 fa_X9_154 hm.o rfl rfl ?_
            refine r_iconst (pc' := 98) (v := 1) dX9_opensPart_97 (by decide) rfl ?_
            refine r_iadd (pc' := 99) dX9_opensPart_98 rfl ?_
            refine r_putI (pc' := 102) dX9_opensPart_99 fa_X9_154 hm.o rfl rfl ?_
            have h := lx_e h
            refine r_aload_n (pc' := 103) dX9_opensPart_102 rfl 2 rfl rfl ?_
            refine r_getO (pc' := 106) dX9_opensPart_103 fa_X9_40 hm.o rfl hm.r19 rfl ?_
            refine r_aload_n (pc' := 107) dX9_opensPart_106 rfl 2 rfl rfl ?_
            refine r_getI (pc' := 110) dX9_opensPart_107 fa_X9_154 hm.o rfl rfl ?_
            refine r_iload_n (pc' := 111) dX9_opensPart_110 rfl 0 rfl rfl ?_
            obtain ⟨g92, h⟩ := gd_e h
            refine r_iastore (pc' := 112) dX9_opensPart_111 hm.c19 g92 rfl ?_
            have h := lx_e h
            refine r_aload_n (pc' := 113) dX9_opensPart_112 rfl 2 rfl rfl ?_
            refine r_getO (pc' := 116) dX9_opensPart_113 fa_X9_37 hm.o rfl hm.r18 rfl ?_
            refine r_aload_n (pc' := 117) dX9_opensPart_116 rfl 2 rfl rfl ?_
            refine r_getI (pc' := 120) dX9_opensPart_117 fa_X9_154 hm.o rfl rfl ?_
            refine r_iconst (pc' := 121) (v := 0) dX9_opensPart_120 (by decide) rfl ?_
            obtain ⟨g94, h⟩ := gd_e h
            refine r_iastore (pc' := 122) dX9_opensPart_121 hm.c18 g94 rfl ?_
            have h := lx_e h
            refine r_aload_n (pc' := 123) dX9_opensPart_122 rfl 2 rfl rfl ?_
            refine r_getO (pc' := 126) dX9_opensPart_123 fa_X9_9 hm.o rfl hm.r1 rfl ?_
            refine r_bipush (pc' := 128) (v := 7) dX9_opensPart_126 (by decide) rfl ?_
            refine r_aload_n (pc' := 129) dX9_opensPart_128 rfl 2 rfl rfl ?_
            refine r_getO (pc' := 132) dX9_opensPart_129 fa_X9_9 hm.o rfl hm.r1 rfl ?_
            refine r_bipush (pc' := 134) (v := 7) dX9_opensPart_132 (by decide) rfl ?_
            obtain ⟨g96, h⟩ := gd_e h
            refine r_iaload (pc' := 135) dX9_opensPart_134 hm.c1 g96 rfl ?_
            refine r_aload_n (pc' := 136) dX9_opensPart_135 rfl 2 rfl rfl ?_
            refine r_getI (pc' := 139) dX9_opensPart_136 fa_X9_154 hm.o rfl rfl ?_
            refine r_iconst (pc' := 140) (v := 1) dX9_opensPart_139 (by decide) rfl ?_
            refine r_iadd (pc' := 141) dX9_opensPart_140 rfl ?_
            refine r_mmax (pc' := 144) dX9_opensPart_141 mw_X9_177 (by decide) (Nat.le_of_ble_eq_true rfl) (by decide) (by decide) rfl ?_
            obtain ⟨g97, h⟩ := gd_e h
            refine r_iastore (pc' := 145) dX9_opensPart_144 hm.c1 g97 rfl ?_
            have h := lx_e h
            cases h
            exact r_ret dX9_opensPart_145 rfl (by decide) (by decide) hQ
          · have h := ifn h89 h
            cases h
            exact r_ret dX9_opensPart_86 rfl (by decide) (by decide) hQ
        · have h := ifn (zb_n0 h87) h
          refine r_aload_n (pc' := 71) dX9_opensPart_70 rfl 2 rfl rfl ?_
          refine r_iconst (pc' := 72) (v := 1) dX9_opensPart_71 (by decide) rfl ?_
          refine r_callV1 (pc' := 75) (k' := 0) (n' := 0) dX9_opensPart_72 mb_X9_faults mi_X9_faults hm.o (by decide) rfl lk_X9_104 rfl rfl rfl (Nat.le_of_ble_eq_true rfl) rfl (c_X9_faults hm rfl (cpV ?_))
          have h := lx_e h
          refine r_aload_n (pc' := 76) dX9_opensPart_75 rfl 2 rfl rfl ?_
          obtain ⟨I100, eI100, h⟩ := bd_e h
          refine r_callV0 (pc' := 79) (k' := 0) (n' := 0) dX9_opensPart_76 mb_X9_goes mi_X9_goes hm.o (by decide) rfl lk_X9_124 rfl rfl rfl (Nat.le_of_ble_eq_true rfl) rfl (c_X9_goes hm eI100 (cpV ?_))
          refine r_aload_n (pc' := 80) dX9_opensPart_79 rfl 2 rfl rfl ?_
          refine r_getI (pc' := 83) dX9_opensPart_80 fa_X9_68 hm.o rfl rfl ?_
          refine r_if_le (tgt := 87) (pc' := 86) dX9_opensPart_83 rfl rfl (fun h101 => ?_) (fun h101 => ?_)
          · have h := ifp h101 h
            refine r_aload_n (pc' := 88) dX9_opensPart_87 rfl 2 rfl rfl ?_
            refine r_iload_n (pc' := 89) dX9_opensPart_88 rfl 0 rfl rfl ?_
            obtain ⟨I102, eI102, h⟩ := bd_e h
            refine r_callV1 (pc' := 92) (k' := 0) (n' := 0) dX9_opensPart_89 mb_X9_addsPart mi_X9_addsPart hm.o (by decide) rfl lk_X9_157 rfl rfl rfl (Nat.le_of_ble_eq_true rfl) rfl (c_X9_addsPart hm eI102 (cpV ?_))
            refine r_aload_n (pc' := 93) dX9_opensPart_92 rfl 2 rfl rfl ?_
            refine r_dup (pc' := 94) dX9_opensPart_93 rfl rfl ?_
            refine r_getI (pc' := 97) dX9_opensPart_94 fa_X9_154 hm.o rfl rfl ?_
            refine r_iconst (pc' := 98) (v := 1) dX9_opensPart_97 (by decide) rfl ?_
            refine r_iadd (pc' := 99) dX9_opensPart_98 rfl ?_
            refine r_putI (pc' := 102) dX9_opensPart_99 fa_X9_154 hm.o rfl rfl ?_
            have h := lx_e h
            refine r_aload_n (pc' := 103) dX9_opensPart_102 rfl 2 rfl rfl ?_
            refine r_getO (pc' := 106) dX9_opensPart_103 fa_X9_40 hm.o rfl hm.r19 rfl ?_
            refine r_aload_n (pc' := 107) dX9_opensPart_106 rfl 2 rfl rfl ?_
            refine r_getI (pc' := 110) dX9_opensPart_107 fa_X9_154 hm.o rfl rfl ?_
            refine r_iload_n (pc' := 111) dX9_opensPart_110 rfl 0 rfl rfl ?_
            obtain ⟨g104, h⟩ := gd_e h
            refine r_iastore (pc' := 112) dX9_opensPart_111 hm.c19 g104 rfl ?_
            have h := lx_e h
            refine r_aload_n (pc' := 113) dX9_opensPart_112 rfl 2 rfl rfl ?_
            refine r_getO (pc' := 116) dX9_opensPart_113 fa_X9_37 hm.o rfl hm.r18 rfl ?_
            refine r_aload_n (pc' := 117) dX9_opensPart_116 rfl 2 rfl rfl ?_
            refine r_getI (pc' := 120) dX9_opensPart_117 fa_X9_154 hm.o rfl rfl ?_
            refine r_iconst (pc' := 121) (v := 0) dX9_opensPart_120 (by decide) rfl ?_
            obtain ⟨g106, h⟩ := gd_e h
            refine r_iastore (pc' := 122) dX9_opensPart_121 hm.c18 g106 rfl ?_
            have h := lx_e h
            refine r_aload_n (pc' := 123) dX9_opensPart_122 rfl 2 rfl rfl ?_
            refine r_getO (pc' := 126) dX9_opensPart_123 fa_X9_9 hm.o rfl hm.r1 rfl ?_
            refine r_bipush (pc' := 128) (v := 7) dX9_opensPart_126 (by decide) rfl ?_
            refine r_aload_n (pc' := 129) dX9_opensPart_128 rfl 2 rfl rfl ?_
            refine r_getO (pc' := 132) dX9_opensPart_129 fa_X9_9 hm.o rfl hm.r1 rfl ?_
            refine r_bipush (pc' := 134) (v := 7) dX9_opensPart_132 (by decide) rfl ?_
            obtain ⟨g108, h⟩ := gd_e h
            refine r_iaload (pc' := 135) dX9_opensPart_134 hm.c1 g108 rfl ?_
            refine r_aload_n (pc' := 136) dX9_opensPart_135 rfl 2 rfl rfl ?_
            refine r_getI (pc' := 139) dX9_opensPart_136 fa_X9_154 hm.o rfl rfl ?_
            refine r_iconst (pc' := 140) (v := 1) dX9_opensPart_139 (by decide) rfl ?_
            refine r_iadd (pc' := 141) dX9_opensPart_140 rfl ?_
            refine r_mmax (pc' := 144) dX9_opensPart_141 mw_X9_177 (by decide) (Nat.le_of_ble_eq_true rfl) (by decide) (by decide) rfl ?_
            obtain ⟨g109, h⟩ := gd_e h
            refine r_iastore (pc' := 145) dX9_opensPart_144 hm.c1 g109 rfl ?_
            have h := lx_e h
            cases h
            exact r_ret dX9_opensPart_145 rfl (by decide) (by decide) hQ
          · have h := ifn h101 h
            cases h
            exact r_ret dX9_opensPart_86 rfl (by decide) (by decide) hQ
  · have h := ifp (zb_p0 h3) h
    refine r_sipush (pc' := 19) (v := 200) dX9_opensPart_16 (by decide) rfl ?_
    refine r_goto (tgt := 25) dX9_opensPart_19 rfl ?_
    refine r_istore_n (pc' := 26) (lv' := [(2, _), (1, _), (0, _)]) dX9_opensPart_25 rfl (by decide) rfl rfl ?_
    refine r_aload_n (pc' := 27) dX9_opensPart_26 rfl 2 rfl rfl ?_
    refine r_aload_n (pc' := 28) dX9_opensPart_27 rfl 2 rfl rfl ?_
    refine r_getI (pc' := 31) dX9_opensPart_28 fa_X9_154 hm.o rfl rfl ?_
    refine r_iconst (pc' := 32) (v := 3) dX9_opensPart_31 (by decide) rfl ?_
    refine r_icmp_ne (tgt := 39) (pc' := 35) dX9_opensPart_32 rfl rfl (fun h111 => ?_) (fun h111 => ?_)
    · have h := ifn h111 h
      refine r_iconst (pc' := 40) (v := 0) dX9_opensPart_39 (by decide) rfl ?_
      refine r_callV1 (pc' := 43) (k' := 0) (n' := 0) dX9_opensPart_40 mb_X9_limits mi_X9_limits hm.o (by decide) rfl lk_X9_130 rfl rfl rfl (Nat.le_of_ble_eq_true rfl) rfl (c_X9_limits (b1 := false) hm rfl (cpV ?_))
      have h := lx_e h
      refine r_aload_n (pc' := 44) dX9_opensPart_43 rfl 2 rfl rfl ?_
      obtain ⟨I113, eI113, h⟩ := bd_e h
      refine r_callV0 (pc' := 47) (k' := 0) (n' := 0) dX9_opensPart_44 mb_X9_goes mi_X9_goes hm.o (by decide) rfl lk_X9_124 rfl rfl rfl (Nat.le_of_ble_eq_true rfl) rfl (c_X9_goes hm eI113 (cpV ?_))
      refine r_iload_n (pc' := 48) dX9_opensPart_47 rfl 1 rfl rfl ?_
      refine r_if_eq (tgt := 62) (pc' := 51) dX9_opensPart_48 rfl rfl (fun h114 => ?_) (fun h114 => ?_)
      · have h := ifn (zb_n0 h114) h
        refine r_aload_n (pc' := 63) dX9_opensPart_62 rfl 2 rfl rfl ?_
        refine r_iconst (pc' := 64) (v := 5) dX9_opensPart_63 (by decide) rfl ?_
        refine r_callV1 (pc' := 67) (k' := 0) (n' := 0) dX9_opensPart_64 mb_X9_is mi_X9_is hm.o (by decide) rfl lk_X9_107 rfl rfl rfl (Nat.le_of_ble_eq_true rfl) rfl (c_X9_is hm rfl (cpI ?_))
        refine r_if_ne (tgt := 75) (pc' := 70) dX9_opensPart_67 rfl rfl (fun h115 => ?_) (fun h115 => ?_)
        · have h := ifp (zb_p0 h115) h
          refine r_aload_n (pc' := 76) dX9_opensPart_75 rfl 2 rfl rfl ?_
          obtain ⟨I116, eI116, h⟩ := bd_e h
          refine r_callV0 (pc' := 79) (k' := 0) (n' := 0) dX9_opensPart_76 mb_X9_goes mi_X9_goes hm.o (by decide) rfl lk_X9_124 rfl rfl rfl (Nat.le_of_ble_eq_true rfl) rfl (c_X9_goes hm eI116 (cpV ?_))
          refine r_aload_n (pc' := 80) dX9_opensPart_79 rfl 2 rfl rfl ?_
          refine r_getI (pc' := 83) dX9_opensPart_80 fa_X9_68 hm.o rfl rfl ?_
          refine r_if_le (tgt := 87) (pc' := 86) dX9_opensPart_83 rfl rfl (fun h117 => ?_) (fun h117 => ?_)
          · have h := ifp h117 h
            refine r_aload_n (pc' := 88) dX9_opensPart_87 rfl 2 rfl rfl ?_
            refine r_iload_n (pc' := 89) dX9_opensPart_88 rfl 0 rfl rfl ?_
            obtain ⟨I118, eI118, h⟩ := bd_e h
            refine r_callV1 (pc' := 92) (k' := 0) (n' := 0) dX9_opensPart_89 mb_X9_addsPart mi_X9_addsPart hm.o (by decide) rfl lk_X9_157 rfl rfl rfl (Nat.le_of_ble_eq_true rfl) rfl (c_X9_addsPart hm eI118 (cpV ?_))
            refine r_aload_n (pc' := 93) dX9_opensPart_92 rfl 2 rfl rfl ?_
            refine r_dup (pc' := 94) dX9_opensPart_93 rfl rfl ?_
            refine r_getI (pc' := 97) dX9_opensPart_94 fa_X9_154 hm.o rfl rfl ?_
            refine r_iconst (pc' := 98) (v := 1) dX9_opensPart_97 (by decide) rfl ?_
            refine r_iadd (pc' := 99) dX9_opensPart_98 rfl ?_
            refine r_putI (pc' := 102) dX9_opensPart_99 fa_X9_154 hm.o rfl rfl ?_
            have h := lx_e h
            refine r_aload_n (pc' := 103) dX9_opensPart_102 rfl 2 rfl rfl ?_
            refine r_getO (pc' := 106) dX9_opensPart_103 fa_X9_40 hm.o rfl hm.r19 rfl ?_
            refine r_aload_n (pc' := 107) dX9_opensPart_106 rfl 2 rfl rfl ?_
            refine r_getI (pc' := 110) dX9_opensPart_107 fa_X9_154 hm.o rfl rfl ?_
            refine r_iload_n (pc' := 111) dX9_opensPart_110 rfl 0 rfl rfl ?_
            obtain ⟨g120, h⟩ := gd_e h
            refine r_iastore (pc' := 112) dX9_opensPart_111 hm.c19 g120 rfl ?_
            have h := lx_e h
            refine r_aload_n (pc' := 113) dX9_opensPart_112 rfl 2 rfl rfl ?_
            refine r_getO (pc' := 116) dX9_opensPart_113 fa_X9_37 hm.o rfl hm.r18 rfl ?_
            refine r_aload_n (pc' := 117) dX9_opensPart_116 rfl 2 rfl rfl ?_
            refine r_getI (pc' := 120) dX9_opensPart_117 fa_X9_154 hm.o rfl rfl ?_
            refine r_iconst (pc' := 121) (v := 0) dX9_opensPart_120 (by decide) rfl ?_
            obtain ⟨g122, h⟩ := gd_e h
            refine r_iastore (pc' := 122) dX9_opensPart_121 hm.c18 g122 rfl ?_
            have h := lx_e h
            refine r_aload_n (pc' := 123) dX9_opensPart_122 rfl 2 rfl rfl ?_
            refine r_getO (pc' := 126) dX9_opensPart_123 fa_X9_9 hm.o rfl hm.r1 rfl ?_
            refine r_bipush (pc' := 128) (v := 7) dX9_opensPart_126 (by decide) rfl ?_
            refine r_aload_n (pc' := 129) dX9_opensPart_128 rfl 2 rfl rfl ?_
            refine r_getO (pc' := 132) dX9_opensPart_129 fa_X9_9 hm.o rfl hm.r1 rfl ?_
            refine r_bipush (pc' := 134) (v := 7) dX9_opensPart_132 (by decide) rfl ?_
            obtain ⟨g124, h⟩ := gd_e h
            refine r_iaload (pc' := 135) dX9_opensPart_134 hm.c1 g124 rfl ?_
            refine r_aload_n (pc' := 136) dX9_opensPart_135 rfl 2 rfl rfl ?_
            refine r_getI (pc' := 139) dX9_opensPart_136 fa_X9_154 hm.o rfl rfl ?_
            refine r_iconst (pc' := 140) (v := 1) dX9_opensPart_139 (by decide) rfl ?_
            refine r_iadd (pc' := 141) dX9_opensPart_140 rfl ?_
            refine r_mmax (pc' := 144) dX9_opensPart_141 mw_X9_177 (by decide) (Nat.le_of_ble_eq_true rfl) (by decide) (by decide) rfl ?_
            obtain ⟨g125, h⟩ := gd_e h
            refine r_iastore (pc' := 145) dX9_opensPart_144 hm.c1 g125 rfl ?_
            have h := lx_e h
            cases h
            exact r_ret dX9_opensPart_145 rfl (by decide) (by decide) hQ
          · have h := ifn h117 h
            cases h
            exact r_ret dX9_opensPart_86 rfl (by decide) (by decide) hQ
        · have h := ifn (zb_n0 h115) h
          refine r_aload_n (pc' := 71) dX9_opensPart_70 rfl 2 rfl rfl ?_
          refine r_iconst (pc' := 72) (v := 1) dX9_opensPart_71 (by decide) rfl ?_
          refine r_callV1 (pc' := 75) (k' := 0) (n' := 0) dX9_opensPart_72 mb_X9_faults mi_X9_faults hm.o (by decide) rfl lk_X9_104 rfl rfl rfl (Nat.le_of_ble_eq_true rfl) rfl (c_X9_faults hm rfl (cpV ?_))
          have h := lx_e h
          refine r_aload_n (pc' := 76) dX9_opensPart_75 rfl 2 rfl rfl ?_
          obtain ⟨I128, eI128, h⟩ := bd_e h
          refine r_callV0 (pc' := 79) (k' := 0) (n' := 0) dX9_opensPart_76 mb_X9_goes mi_X9_goes hm.o (by decide) rfl lk_X9_124 rfl rfl rfl (Nat.le_of_ble_eq_true rfl) rfl (c_X9_goes hm eI128 (cpV ?_))
          refine r_aload_n (pc' := 80) dX9_opensPart_79 rfl 2 rfl rfl ?_
          refine r_getI (pc' := 83) dX9_opensPart_80 fa_X9_68 hm.o rfl rfl ?_
          refine r_if_le (tgt := 87) (pc' := 86) dX9_opensPart_83 rfl rfl (fun h129 => ?_) (fun h129 => ?_)
          · have h := ifp h129 h
            refine r_aload_n (pc' := 88) dX9_opensPart_87 rfl 2 rfl rfl ?_
            refine r_iload_n (pc' := 89) dX9_opensPart_88 rfl 0 rfl rfl ?_
            obtain ⟨I130, eI130, h⟩ := bd_e h
            refine r_callV1 (pc' := 92) (k' := 0) (n' := 0) dX9_opensPart_89 mb_X9_addsPart mi_X9_addsPart hm.o (by decide) rfl lk_X9_157 rfl rfl rfl (Nat.le_of_ble_eq_true rfl) rfl (c_X9_addsPart hm eI130 (cpV ?_))
            refine r_aload_n (pc' := 93) dX9_opensPart_92 rfl 2 rfl rfl ?_
            refine r_dup (pc' := 94) dX9_opensPart_93 rfl rfl ?_
            refine r_getI (pc' := 97) dX9_opensPart_94 fa_X9_154 hm.o rfl rfl ?_
            refine r_iconst (pc' := 98) (v := 1) dX9_opensPart_97 (by decide) rfl ?_
            refine r_iadd (pc' := 99) dX9_opensPart_98 rfl ?_
            refine r_putI (pc' := 102) dX9_opensPart_99 fa_X9_154 hm.o rfl rfl ?_
            have h := lx_e h
            refine r_aload_n (pc' := 103) dX9_opensPart_102 rfl 2 rfl rfl ?_
            refine r_getO (pc' := 106) dX9_opensPart_103 fa_X9_40 hm.o rfl hm.r19 rfl ?_
            refine r_aload_n (pc' := 107) dX9_opensPart_106 rfl 2 rfl rfl ?_
            refine r_getI (pc' := 110) dX9_opensPart_107 fa_X9_154 hm.o rfl rfl ?_
            refine r_iload_n (pc' := 111) dX9_opensPart_110 rfl 0 rfl rfl ?_
            obtain ⟨g132, h⟩ := gd_e h
            refine r_iastore (pc' := 112) dX9_opensPart_111 hm.c19 g132 rfl ?_
            have h := lx_e h
            refine r_aload_n (pc' := 113) dX9_opensPart_112 rfl 2 rfl rfl ?_
            refine r_getO (pc' := 116) dX9_opensPart_113 fa_X9_37 hm.o rfl hm.r18 rfl ?_
            refine r_aload_n (pc' := 117) dX9_opensPart_116 rfl 2 rfl rfl ?_
            refine r_getI (pc' := 120) dX9_opensPart_117 fa_X9_154 hm.o rfl rfl ?_
            refine r_iconst (pc' := 121) (v := 0) dX9_opensPart_120 (by decide) rfl ?_
            obtain ⟨g134, h⟩ := gd_e h
            refine r_iastore (pc' := 122) dX9_opensPart_121 hm.c18 g134 rfl ?_
            have h := lx_e h
            refine r_aload_n (pc' := 123) dX9_opensPart_122 rfl 2 rfl rfl ?_
            refine r_getO (pc' := 126) dX9_opensPart_123 fa_X9_9 hm.o rfl hm.r1 rfl ?_
            refine r_bipush (pc' := 128) (v := 7) dX9_opensPart_126 (by decide) rfl ?_
            refine r_aload_n (pc' := 129) dX9_opensPart_128 rfl 2 rfl rfl ?_
            refine r_getO (pc' := 132) dX9_opensPart_129 fa_X9_9 hm.o rfl hm.r1 rfl ?_
            refine r_bipush (pc' := 134) (v := 7) dX9_opensPart_132 (by decide) rfl ?_
            obtain ⟨g136, h⟩ := gd_e h
            refine r_iaload (pc' := 135) dX9_opensPart_134 hm.c1 g136 rfl ?_
            refine r_aload_n (pc' := 136) dX9_opensPart_135 rfl 2 rfl rfl ?_
            refine r_getI (pc' := 139) dX9_opensPart_136 fa_X9_154 hm.o rfl rfl ?_
            refine r_iconst (pc' := 140) (v := 1) dX9_opensPart_139 (by decide) rfl ?_
            refine r_iadd (pc' := 141) dX9_opensPart_140 rfl ?_
            refine r_mmax (pc' := 144) dX9_opensPart_141 mw_X9_177 (by decide) (Nat.le_of_ble_eq_true rfl) (by decide) (by decide) rfl ?_
            obtain ⟨g137, h⟩ := gd_e h
            refine r_iastore (pc' := 145) dX9_opensPart_144 hm.c1 g137 rfl ?_
            have h := lx_e h
            cases h
            exact r_ret dX9_opensPart_145 rfl (by decide) (by decide) hQ
          · have h := ifn h129 h
            cases h
            exact r_ret dX9_opensPart_86 rfl (by decide) (by decide) hQ
      · have h := ifp (zb_p0 h114) h
        refine r_bipush (pc' := 53) (v := 100) dX9_opensPart_51 (by decide) rfl ?_
        refine r_aload_n (pc' := 54) dX9_opensPart_53 rfl 2 rfl rfl ?_
        refine r_iconst (pc' := 55) (v := 1) dX9_opensPart_54 (by decide) rfl ?_
        refine r_bipush (pc' := 57) (v := 20) dX9_opensPart_55 (by decide) rfl ?_
        obtain ⟨v140, I139, ev140, h⟩ := bd2_e h
        refine r_callV2 (pc' := 60) (k' := 0) (n' := 0) dX9_opensPart_57 mb_X9_readNumber mi_X9_readNumber hm.o (by decide) rfl lk_X9_174 rfl rfl rfl (Nat.le_of_ble_eq_true rfl) rfl (c_X9_readNumber hm ev140 (cpI ?_))
        refine r_iadd (pc' := 61) dX9_opensPart_60 rfl ?_
        refine r_istore_n (pc' := 62) (lv' := [(2, _), (1, _), (0, _)]) dX9_opensPart_61 rfl (by decide) rfl rfl ?_
        refine r_aload_n (pc' := 63) dX9_opensPart_62 rfl 2 rfl rfl ?_
        refine r_iconst (pc' := 64) (v := 5) dX9_opensPart_63 (by decide) rfl ?_
        refine r_callV1 (pc' := 67) (k' := 0) (n' := 0) dX9_opensPart_64 mb_X9_is mi_X9_is hm.o (by decide) rfl lk_X9_107 rfl rfl rfl (Nat.le_of_ble_eq_true rfl) rfl (c_X9_is hm rfl (cpI ?_))
        refine r_if_ne (tgt := 75) (pc' := 70) dX9_opensPart_67 rfl rfl (fun h141 => ?_) (fun h141 => ?_)
        · have h := ifp (zb_p0 h141) h
          refine r_aload_n (pc' := 76) dX9_opensPart_75 rfl 2 rfl rfl ?_
          obtain ⟨I142, eI142, h⟩ := bd_e h
          refine r_callV0 (pc' := 79) (k' := 0) (n' := 0) dX9_opensPart_76 mb_X9_goes mi_X9_goes hm.o (by decide) rfl lk_X9_124 rfl rfl rfl (Nat.le_of_ble_eq_true rfl) rfl (c_X9_goes hm eI142 (cpV ?_))
          refine r_aload_n (pc' := 80) dX9_opensPart_79 rfl 2 rfl rfl ?_
          refine r_getI (pc' := 83) dX9_opensPart_80 fa_X9_68 hm.o rfl rfl ?_
          refine r_if_le (tgt := 87) (pc' := 86) dX9_opensPart_83 rfl rfl (fun h143 => ?_) (fun h143 => ?_)
          · have h := ifp h143 h
            refine r_aload_n (pc' := 88) dX9_opensPart_87 rfl 2 rfl rfl ?_
            refine r_iload_n (pc' := 89) dX9_opensPart_88 rfl 0 rfl rfl ?_
            obtain ⟨I144, eI144, h⟩ := bd_e h
            refine r_callV1 (pc' := 92) (k' := 0) (n' := 0) dX9_opensPart_89 mb_X9_addsPart mi_X9_addsPart hm.o (by decide) rfl lk_X9_157 rfl rfl rfl (Nat.le_of_ble_eq_true rfl) rfl (c_X9_addsPart hm eI144 (cpV ?_))
            refine r_aload_n (pc' := 93) dX9_opensPart_92 rfl 2 rfl rfl ?_
            refine r_dup (pc' := 94) dX9_opensPart_93 rfl rfl ?_
            refine r_getI (pc' := 97) dX9_opensPart_94 fa_X9_154 hm.o rfl rfl ?_
            refine r_iconst (pc' := 98) (v := 1) dX9_opensPart_97 (by decide) rfl ?_
            refine r_iadd (pc' := 99) dX9_opensPart_98 rfl ?_
            refine r_putI (pc' := 102) dX9_opensPart_99 fa_X9_154 hm.o rfl rfl ?_
            have h := lx_e h
            refine r_aload_n (pc' := 103) dX9_opensPart_102 rfl 2 rfl rfl ?_
            refine r_getO (pc' := 106) dX9_opensPart_103 fa_X9_40 hm.o rfl hm.r19 rfl ?_
            refine r_aload_n (pc' := 107) dX9_opensPart_106 rfl 2 rfl rfl ?_
            refine r_getI (pc' := 110) dX9_opensPart_107 fa_X9_154 hm.o rfl rfl ?_
            refine r_iload_n (pc' := 111) dX9_opensPart_110 rfl 0 rfl rfl ?_
            obtain ⟨g146, h⟩ := gd_e h
            refine r_iastore (pc' := 112) dX9_opensPart_111 hm.c19 g146 rfl ?_
            have h := lx_e h
            refine r_aload_n (pc' := 113) dX9_opensPart_112 rfl 2 rfl rfl ?_
            refine r_getO (pc' := 116) dX9_opensPart_113 fa_X9_37 hm.o rfl hm.r18 rfl ?_
            refine r_aload_n (pc' := 117) dX9_opensPart_116 rfl 2 rfl rfl ?_
            refine r_getI (pc' := 120) dX9_opensPart_117 fa_X9_154 hm.o rfl rfl ?_
            refine r_iconst (pc' := 121) (v := 0) dX9_opensPart_120 (by decide) rfl ?_
            obtain ⟨g148, h⟩ := gd_e h
            refine r_iastore (pc' := 122) dX9_opensPart_121 hm.c18 g148 rfl ?_
            have h := lx_e h
            refine r_aload_n (pc' := 123) dX9_opensPart_122 rfl 2 rfl rfl ?_
            refine r_getO (pc' := 126) dX9_opensPart_123 fa_X9_9 hm.o rfl hm.r1 rfl ?_
            refine r_bipush (pc' := 128) (v := 7) dX9_opensPart_126 (by decide) rfl ?_
            refine r_aload_n (pc' := 129) dX9_opensPart_128 rfl 2 rfl rfl ?_
            refine r_getO (pc' := 132) dX9_opensPart_129 fa_X9_9 hm.o rfl hm.r1 rfl ?_
            refine r_bipush (pc' := 134) (v := 7) dX9_opensPart_132 (by decide) rfl ?_
            obtain ⟨g150, h⟩ := gd_e h
            refine r_iaload (pc' := 135) dX9_opensPart_134 hm.c1 g150 rfl ?_
            refine r_aload_n (pc' := 136) dX9_opensPart_135 rfl 2 rfl rfl ?_
            refine r_getI (pc' := 139) dX9_opensPart_136 fa_X9_154 hm.o rfl rfl ?_
            refine r_iconst (pc' := 140) (v := 1) dX9_opensPart_139 (by decide) rfl ?_
            refine r_iadd (pc' := 141) dX9_opensPart_140 rfl ?_
            refine r_mmax (pc' := 144) dX9_opensPart_141 mw_X9_177 (by decide) (Nat.le_of_ble_eq_true rfl) (by decide) (by decide) rfl ?_
            obtain ⟨g151, h⟩ := gd_e h
            refine r_iastore (pc' := 145) dX9_opensPart_144 hm.c1 g151 rfl ?_
            have h := lx_e h
            cases h
            exact r_ret dX9_opensPart_145 rfl (by decide) (by decide) hQ
          · have h := ifn h143 h
            cases h
            exact r_ret dX9_opensPart_86 rfl (by decide) (by decide) hQ
        · have h := ifn (zb_n0 h141) h
          refine r_aload_n (pc' := 71) dX9_opensPart_70 rfl 2 rfl rfl ?_
          refine r_iconst (pc' := 72) (v := 1) dX9_opensPart_71 (by decide) rfl ?_
          refine r_callV1 (pc' := 75) (k' := 0) (n' := 0) dX9_opensPart_72 mb_X9_faults mi_X9_faults hm.o (by decide) rfl lk_X9_104 rfl rfl rfl (Nat.le_of_ble_eq_true rfl) rfl (c_X9_faults hm rfl (cpV ?_))
          have h := lx_e h
          refine r_aload_n (pc' := 76) dX9_opensPart_75 rfl 2 rfl rfl ?_
          obtain ⟨I154, eI154, h⟩ := bd_e h
          refine r_callV0 (pc' := 79) (k' := 0) (n' := 0) dX9_opensPart_76 mb_X9_goes mi_X9_goes hm.o (by decide) rfl lk_X9_124 rfl rfl rfl (Nat.le_of_ble_eq_true rfl) rfl (c_X9_goes hm eI154 (cpV ?_))
          refine r_aload_n (pc' := 80) dX9_opensPart_79 rfl 2 rfl rfl ?_
          refine r_getI (pc' := 83) dX9_opensPart_80 fa_X9_68 hm.o rfl rfl ?_
          refine r_if_le (tgt := 87) (pc' := 86) dX9_opensPart_83 rfl rfl (fun h155 => ?_) (fun h155 => ?_)
          · have h := ifp h155 h
            refine r_aload_n (pc' := 88) dX9_opensPart_87 rfl 2 rfl rfl ?_
            refine r_iload_n (pc' := 89) dX9_opensPart_88 rfl 0 rfl rfl ?_
            obtain ⟨I156, eI156, h⟩ := bd_e h
            refine r_callV1 (pc' := 92) (k' := 0) (n' := 0) dX9_opensPart_89 mb_X9_addsPart mi_X9_addsPart hm.o (by decide) rfl lk_X9_157 rfl rfl rfl (Nat.le_of_ble_eq_true rfl) rfl (c_X9_addsPart hm eI156 (cpV ?_))
            refine r_aload_n (pc' := 93) dX9_opensPart_92 rfl 2 rfl rfl ?_
            refine r_dup (pc' := 94) dX9_opensPart_93 rfl rfl ?_
            refine r_getI (pc' := 97) dX9_opensPart_94 fa_X9_154 hm.o rfl rfl ?_
            refine r_iconst (pc' := 98) (v := 1) dX9_opensPart_97 (by decide) rfl ?_
            refine r_iadd (pc' := 99) dX9_opensPart_98 rfl ?_
            refine r_putI (pc' := 102) dX9_opensPart_99 fa_X9_154 hm.o rfl rfl ?_
            have h := lx_e h
            refine r_aload_n (pc' := 103) dX9_opensPart_102 rfl 2 rfl rfl ?_
            refine r_getO (pc' := 106) dX9_opensPart_103 fa_X9_40 hm.o rfl hm.r19 rfl ?_
            refine r_aload_n (pc' := 107) dX9_opensPart_106 rfl 2 rfl rfl ?_
            refine r_getI (pc' := 110) dX9_opensPart_107 fa_X9_154 hm.o rfl rfl ?_
            refine r_iload_n (pc' := 111) dX9_opensPart_110 rfl 0 rfl rfl ?_
            obtain ⟨g158, h⟩ := gd_e h
            refine r_iastore (pc' := 112) dX9_opensPart_111 hm.c19 g158 rfl ?_
            have h := lx_e h
            refine r_aload_n (pc' := 113) dX9_opensPart_112 rfl 2 rfl rfl ?_
            refine r_getO (pc' := 116) dX9_opensPart_113 fa_X9_37 hm.o rfl hm.r18 rfl ?_
            refine r_aload_n (pc' := 117) dX9_opensPart_116 rfl 2 rfl rfl ?_
            refine r_getI (pc' := 120) dX9_opensPart_117 fa_X9_154 hm.o rfl rfl ?_
            refine r_iconst (pc' := 121) (v := 0) dX9_opensPart_120 (by decide) rfl ?_
            obtain ⟨g160, h⟩ := gd_e h
            refine r_iastore (pc' := 122) dX9_opensPart_121 hm.c18 g160 rfl ?_
            have h := lx_e h
            refine r_aload_n (pc' := 123) dX9_opensPart_122 rfl 2 rfl rfl ?_
            refine r_getO (pc' := 126) dX9_opensPart_123 fa_X9_9 hm.o rfl hm.r1 rfl ?_
            refine r_bipush (pc' := 128) (v := 7) dX9_opensPart_126 (by decide) rfl ?_
            refine r_aload_n (pc' := 129) dX9_opensPart_128 rfl 2 rfl rfl ?_
            refine r_getO (pc' := 132) dX9_opensPart_129 fa_X9_9 hm.o rfl hm.r1 rfl ?_
            refine r_bipush (pc' := 134) (v := 7) dX9_opensPart_132 (by decide) rfl ?_
            obtain ⟨g162, h⟩ := gd_e h
            refine r_iaload (pc' := 135) dX9_opensPart_134 hm.c1 g162 rfl ?_
            refine r_aload_n (pc' := 136) dX9_opensPart_135 rfl 2 rfl rfl ?_
            refine r_getI (pc' := 139) dX9_opensPart_136 fa_X9_154 hm.o rfl rfl ?_
            refine r_iconst (pc' := 140) (v := 1) dX9_opensPart_139 (by decide) rfl ?_
            refine r_iadd (pc' := 141) dX9_opensPart_140 rfl ?_
            refine r_mmax (pc' := 144) dX9_opensPart_141 mw_X9_177 (by decide) (Nat.le_of_ble_eq_true rfl) (by decide) (by decide) rfl ?_
            obtain ⟨g163, h⟩ := gd_e h
            refine r_iastore (pc' := 145) dX9_opensPart_144 hm.c1 g163 rfl ?_
            have h := lx_e h
            cases h
            exact r_ret dX9_opensPart_145 rfl (by decide) (by decide) hQ
          · have h := ifn h155 h
            cases h
            exact r_ret dX9_opensPart_86 rfl (by decide) (by decide) hQ
    · have h := ifp h111 h
      refine r_iconst (pc' := 36) (v := 1) dX9_opensPart_35 (by decide) rfl ?_
      refine r_goto (tgt := 40) dX9_opensPart_36 rfl ?_
      refine r_callV1 (pc' := 43) (k' := 0) (n' := 0) dX9_opensPart_40 mb_X9_limits mi_X9_limits hm.o (by decide) rfl lk_X9_130 rfl rfl rfl (Nat.le_of_ble_eq_true rfl) rfl (c_X9_limits (b1 := true) hm rfl (cpV ?_))
      have h := lx_e h
      refine r_aload_n (pc' := 44) dX9_opensPart_43 rfl 2 rfl rfl ?_
      obtain ⟨I166, eI166, h⟩ := bd_e h
      refine r_callV0 (pc' := 47) (k' := 0) (n' := 0) dX9_opensPart_44 mb_X9_goes mi_X9_goes hm.o (by decide) rfl lk_X9_124 rfl rfl rfl (Nat.le_of_ble_eq_true rfl) rfl (c_X9_goes hm eI166 (cpV ?_))
      refine r_iload_n (pc' := 48) dX9_opensPart_47 rfl 1 rfl rfl ?_
      refine r_if_eq (tgt := 62) (pc' := 51) dX9_opensPart_48 rfl rfl (fun h167 => ?_) (fun h167 => ?_)
      · have h := ifn (zb_n0 h167) h
        refine r_aload_n (pc' := 63) dX9_opensPart_62 rfl 2 rfl rfl ?_
        refine r_iconst (pc' := 64) (v := 5) dX9_opensPart_63 (by decide) rfl ?_
        refine r_callV1 (pc' := 67) (k' := 0) (n' := 0) dX9_opensPart_64 mb_X9_is mi_X9_is hm.o (by decide) rfl lk_X9_107 rfl rfl rfl (Nat.le_of_ble_eq_true rfl) rfl (c_X9_is hm rfl (cpI ?_))
        refine r_if_ne (tgt := 75) (pc' := 70) dX9_opensPart_67 rfl rfl (fun h168 => ?_) (fun h168 => ?_)
        · have h := ifp (zb_p0 h168) h
          refine r_aload_n (pc' := 76) dX9_opensPart_75 rfl 2 rfl rfl ?_
          obtain ⟨I169, eI169, h⟩ := bd_e h
          refine r_callV0 (pc' := 79) (k' := 0) (n' := 0) dX9_opensPart_76 mb_X9_goes mi_X9_goes hm.o (by decide) rfl lk_X9_124 rfl rfl rfl (Nat.le_of_ble_eq_true rfl) rfl (c_X9_goes hm eI169 (cpV ?_))
          refine r_aload_n (pc' := 80) dX9_opensPart_79 rfl 2 rfl rfl ?_
          refine r_getI (pc' := 83) dX9_opensPart_80 fa_X9_68 hm.o rfl rfl ?_
          refine r_if_le (tgt := 87) (pc' := 86) dX9_opensPart_83 rfl rfl (fun h170 => ?_) (fun h170 => ?_)
          · have h := ifp h170 h
            refine r_aload_n (pc' := 88) dX9_opensPart_87 rfl 2 rfl rfl ?_
            refine r_iload_n (pc' := 89) dX9_opensPart_88 rfl 0 rfl rfl ?_
            obtain ⟨I171, eI171, h⟩ := bd_e h
            refine r_callV1 (pc' := 92) (k' := 0) (n' := 0) dX9_opensPart_89 mb_X9_addsPart mi_X9_addsPart hm.o (by decide) rfl lk_X9_157 rfl rfl rfl (Nat.le_of_ble_eq_true rfl) rfl (c_X9_addsPart hm eI171 (cpV ?_))
            refine r_aload_n (pc' := 93) dX9_opensPart_92 rfl 2 rfl rfl ?_
            refine r_dup (pc' := 94) dX9_opensPart_93 rfl rfl ?_
            refine r_getI (pc' := 97) dX9_opensPart_94 fa_X9_154 hm.o rfl rfl ?_
            refine r_iconst (pc' := 98) (v := 1) dX9_opensPart_97 (by decide) rfl ?_
            refine r_iadd (pc' := 99) dX9_opensPart_98 rfl ?_
            refine r_putI (pc' := 102) dX9_opensPart_99 fa_X9_154 hm.o rfl rfl ?_
            have h := lx_e h
            refine r_aload_n (pc' := 103) dX9_opensPart_102 rfl 2 rfl rfl ?_
            refine r_getO (pc' := 106) dX9_opensPart_103 fa_X9_40 hm.o rfl hm.r19 rfl ?_
            refine r_aload_n (pc' := 107) dX9_opensPart_106 rfl 2 rfl rfl ?_
            refine r_getI (pc' := 110) dX9_opensPart_107 fa_X9_154 hm.o rfl rfl ?_
            refine r_iload_n (pc' := 111) dX9_opensPart_110 rfl 0 rfl rfl ?_
            obtain ⟨g173, h⟩ := gd_e h
            refine r_iastore (pc' := 112) dX9_opensPart_111 hm.c19 g173 rfl ?_
            have h := lx_e h
            refine r_aload_n (pc' := 113) dX9_opensPart_112 rfl 2 rfl rfl ?_
            refine r_getO (pc' := 116) dX9_opensPart_113 fa_X9_37 hm.o rfl hm.r18 rfl ?_
            refine r_aload_n (pc' := 117) dX9_opensPart_116 rfl 2 rfl rfl ?_
            refine r_getI (pc' := 120) dX9_opensPart_117 fa_X9_154 hm.o rfl rfl ?_
            refine r_iconst (pc' := 121) (v := 0) dX9_opensPart_120 (by decide) rfl ?_
            obtain ⟨g175, h⟩ := gd_e h
            refine r_iastore (pc' := 122) dX9_opensPart_121 hm.c18 g175 rfl ?_
            have h := lx_e h
            refine r_aload_n (pc' := 123) dX9_opensPart_122 rfl 2 rfl rfl ?_
            refine r_getO (pc' := 126) dX9_opensPart_123 fa_X9_9 hm.o rfl hm.r1 rfl ?_
            refine r_bipush (pc' := 128) (v := 7) dX9_opensPart_126 (by decide) rfl ?_
            refine r_aload_n (pc' := 129) dX9_opensPart_128 rfl 2 rfl rfl ?_
            refine r_getO (pc' := 132) dX9_opensPart_129 fa_X9_9 hm.o rfl hm.r1 rfl ?_
            refine r_bipush (pc' := 134) (v := 7) dX9_opensPart_132 (by decide) rfl ?_
            obtain ⟨g177, h⟩ := gd_e h
            refine r_iaload (pc' := 135) dX9_opensPart_134 hm.c1 g177 rfl ?_
            refine r_aload_n (pc' := 136) dX9_opensPart_135 rfl 2 rfl rfl ?_
            refine r_getI (pc' := 139) dX9_opensPart_136 fa_X9_154 hm.o rfl rfl ?_
            refine r_iconst (pc' := 140) (v := 1) dX9_opensPart_139 (by decide) rfl ?_
            refine r_iadd (pc' := 141) dX9_opensPart_140 rfl ?_
            refine r_mmax (pc' := 144) dX9_opensPart_141 mw_X9_177 (by decide) (Nat.le_of_ble_eq_true rfl) (by decide) (by decide) rfl ?_
            obtain ⟨g178, h⟩ := gd_e h
            refine r_iastore (pc' := 145) dX9_opensPart_144 hm.c1 g178 rfl ?_
            have h := lx_e h
            cases h
            exact r_ret dX9_opensPart_145 rfl (by decide) (by decide) hQ
          · have h := ifn h170 h
            cases h
            exact r_ret dX9_opensPart_86 rfl (by decide) (by decide) hQ
        · have h := ifn (zb_n0 h168) h
          refine r_aload_n (pc' := 71) dX9_opensPart_70 rfl 2 rfl rfl ?_
          refine r_iconst (pc' := 72) (v := 1) dX9_opensPart_71 (by decide) rfl ?_
          refine r_callV1 (pc' := 75) (k' := 0) (n' := 0) dX9_opensPart_72 mb_X9_faults mi_X9_faults hm.o (by decide) rfl lk_X9_104 rfl rfl rfl (Nat.le_of_ble_eq_true rfl) rfl (c_X9_faults hm rfl (cpV ?_))
          have h := lx_e h
          refine r_aload_n (pc' := 76) dX9_opensPart_75 rfl 2 rfl rfl ?_
          obtain ⟨I181, eI181, h⟩ := bd_e h
          refine r_callV0 (pc' := 79) (k' := 0) (n' := 0) dX9_opensPart_76 mb_X9_goes mi_X9_goes hm.o (by decide) rfl lk_X9_124 rfl rfl rfl (Nat.le_of_ble_eq_true rfl) rfl (c_X9_goes hm eI181 (cpV ?_))
          refine r_aload_n (pc' := 80) dX9_opensPart_79 rfl 2 rfl rfl ?_
          refine r_getI (pc' := 83) dX9_opensPart_80 fa_X9_68 hm.o rfl rfl ?_
          refine r_if_le (tgt := 87) (pc' := 86) dX9_opensPart_83 rfl rfl (fun h182 => ?_) (fun h182 => ?_)
          · have h := ifp h182 h
            refine r_aload_n (pc' := 88) dX9_opensPart_87 rfl 2 rfl rfl ?_
            refine r_iload_n (pc' := 89) dX9_opensPart_88 rfl 0 rfl rfl ?_
            obtain ⟨I183, eI183, h⟩ := bd_e h
            refine r_callV1 (pc' := 92) (k' := 0) (n' := 0) dX9_opensPart_89 mb_X9_addsPart mi_X9_addsPart hm.o (by decide) rfl lk_X9_157 rfl rfl rfl (Nat.le_of_ble_eq_true rfl) rfl (c_X9_addsPart hm eI183 (cpV ?_))
            refine r_aload_n (pc' := 93) dX9_opensPart_92 rfl 2 rfl rfl ?_
            refine r_dup (pc' := 94) dX9_opensPart_93 rfl rfl ?_
            refine r_getI (pc' := 97) dX9_opensPart_94 fa_X9_154 hm.o rfl rfl ?_
            refine r_iconst (pc' := 98) (v := 1) dX9_opensPart_97 (by decide) rfl ?_
            refine r_iadd (pc' := 99) dX9_opensPart_98 rfl ?_
            refine r_putI (pc' := 102) dX9_opensPart_99 fa_X9_154 hm.o rfl rfl ?_
            have h := lx_e h
            refine r_aload_n (pc' := 103) dX9_opensPart_102 rfl 2 rfl rfl ?_
            refine r_getO (pc' := 106) dX9_opensPart_103 fa_X9_40 hm.o rfl hm.r19 rfl ?_
            refine r_aload_n (pc' := 107) dX9_opensPart_106 rfl 2 rfl rfl ?_
            refine r_getI (pc' := 110) dX9_opensPart_107 fa_X9_154 hm.o rfl rfl ?_
            refine r_iload_n (pc' := 111) dX9_opensPart_110 rfl 0 rfl rfl ?_
            obtain ⟨g185, h⟩ := gd_e h
            refine r_iastore (pc' := 112) dX9_opensPart_111 hm.c19 g185 rfl ?_
            have h := lx_e h
            refine r_aload_n (pc' := 113) dX9_opensPart_112 rfl 2 rfl rfl ?_
            refine r_getO (pc' := 116) dX9_opensPart_113 fa_X9_37 hm.o rfl hm.r18 rfl ?_
            refine r_aload_n (pc' := 117) dX9_opensPart_116 rfl 2 rfl rfl ?_
            refine r_getI (pc' := 120) dX9_opensPart_117 fa_X9_154 hm.o rfl rfl ?_
            refine r_iconst (pc' := 121) (v := 0) dX9_opensPart_120 (by decide) rfl ?_
            obtain ⟨g187, h⟩ := gd_e h
            refine r_iastore (pc' := 122) dX9_opensPart_121 hm.c18 g187 rfl ?_
            have h := lx_e h
            refine r_aload_n (pc' := 123) dX9_opensPart_122 rfl 2 rfl rfl ?_
            refine r_getO (pc' := 126) dX9_opensPart_123 fa_X9_9 hm.o rfl hm.r1 rfl ?_
            refine r_bipush (pc' := 128) (v := 7) dX9_opensPart_126 (by decide) rfl ?_
            refine r_aload_n (pc' := 129) dX9_opensPart_128 rfl 2 rfl rfl ?_
            refine r_getO (pc' := 132) dX9_opensPart_129 fa_X9_9 hm.o rfl hm.r1 rfl ?_
            refine r_bipush (pc' := 134) (v := 7) dX9_opensPart_132 (by decide) rfl ?_
            obtain ⟨g189, h⟩ := gd_e h
            refine r_iaload (pc' := 135) dX9_opensPart_134 hm.c1 g189 rfl ?_
            refine r_aload_n (pc' := 136) dX9_opensPart_135 rfl 2 rfl rfl ?_
            refine r_getI (pc' := 139) dX9_opensPart_136 fa_X9_154 hm.o rfl rfl ?_
            refine r_iconst (pc' := 140) (v := 1) dX9_opensPart_139 (by decide) rfl ?_
            refine r_iadd (pc' := 141) dX9_opensPart_140 rfl ?_
            refine r_mmax (pc' := 144) dX9_opensPart_141 mw_X9_177 (by decide) (Nat.le_of_ble_eq_true rfl) (by decide) (by decide) rfl ?_
            obtain ⟨g190, h⟩ := gd_e h
            refine r_iastore (pc' := 145) dX9_opensPart_144 hm.c1 g190 rfl ?_
            have h := lx_e h
            cases h
            exact r_ret dX9_opensPart_145 rfl (by decide) (by decide) hQ
          · have h := ifn h182 h
            cases h
            exact r_ret dX9_opensPart_86 rfl (by decide) (by decide) hQ
      · have h := ifp (zb_p0 h167) h
        refine r_bipush (pc' := 53) (v := 100) dX9_opensPart_51 (by decide) rfl ?_
        refine r_aload_n (pc' := 54) dX9_opensPart_53 rfl 2 rfl rfl ?_
        refine r_iconst (pc' := 55) (v := 1) dX9_opensPart_54 (by decide) rfl ?_
        refine r_bipush (pc' := 57) (v := 20) dX9_opensPart_55 (by decide) rfl ?_
        obtain ⟨v193, I192, ev193, h⟩ := bd2_e h
        refine r_callV2 (pc' := 60) (k' := 0) (n' := 0) dX9_opensPart_57 mb_X9_readNumber mi_X9_readNumber hm.o (by decide) rfl lk_X9_174 rfl rfl rfl (Nat.le_of_ble_eq_true rfl) rfl (c_X9_readNumber hm ev193 (cpI ?_))
        refine r_iadd (pc' := 61) dX9_opensPart_60 rfl ?_
        refine r_istore_n (pc' := 62) (lv' := [(2, _), (1, _), (0, _)]) dX9_opensPart_61 rfl (by decide) rfl rfl ?_
        refine r_aload_n (pc' := 63) dX9_opensPart_62 rfl 2 rfl rfl ?_
        refine r_iconst (pc' := 64) (v := 5) dX9_opensPart_63 (by decide) rfl ?_
        refine r_callV1 (pc' := 67) (k' := 0) (n' := 0) dX9_opensPart_64 mb_X9_is mi_X9_is hm.o (by decide) rfl lk_X9_107 rfl rfl rfl (Nat.le_of_ble_eq_true rfl) rfl (c_X9_is hm rfl (cpI ?_))
        refine r_if_ne (tgt := 75) (pc' := 70) dX9_opensPart_67 rfl rfl (fun h194 => ?_) (fun h194 => ?_)
        · have h := ifp (zb_p0 h194) h
          refine r_aload_n (pc' := 76) dX9_opensPart_75 rfl 2 rfl rfl ?_
          obtain ⟨I195, eI195, h⟩ := bd_e h
          refine r_callV0 (pc' := 79) (k' := 0) (n' := 0) dX9_opensPart_76 mb_X9_goes mi_X9_goes hm.o (by decide) rfl lk_X9_124 rfl rfl rfl (Nat.le_of_ble_eq_true rfl) rfl (c_X9_goes hm eI195 (cpV ?_))
          refine r_aload_n (pc' := 80) dX9_opensPart_79 rfl 2 rfl rfl ?_
          refine r_getI (pc' := 83) dX9_opensPart_80 fa_X9_68 hm.o rfl rfl ?_
          refine r_if_le (tgt := 87) (pc' := 86) dX9_opensPart_83 rfl rfl (fun h196 => ?_) (fun h196 => ?_)
          · have h := ifp h196 h
            refine r_aload_n (pc' := 88) dX9_opensPart_87 rfl 2 rfl rfl ?_
            refine r_iload_n (pc' := 89) dX9_opensPart_88 rfl 0 rfl rfl ?_
            obtain ⟨I197, eI197, h⟩ := bd_e h
            refine r_callV1 (pc' := 92) (k' := 0) (n' := 0) dX9_opensPart_89 mb_X9_addsPart mi_X9_addsPart hm.o (by decide) rfl lk_X9_157 rfl rfl rfl (Nat.le_of_ble_eq_true rfl) rfl (c_X9_addsPart hm eI197 (cpV ?_))
            refine r_aload_n (pc' := 93) dX9_opensPart_92 rfl 2 rfl rfl ?_
            refine r_dup (pc' := 94) dX9_opensPart_93 rfl rfl ?_
            refine r_getI (pc' := 97) dX9_opensPart_94 fa_X9_154 hm.o rfl rfl ?_
            refine r_iconst (pc' := 98) (v := 1) dX9_opensPart_97 (by decide) rfl ?_
            refine r_iadd (pc' := 99) dX9_opensPart_98 rfl ?_
            refine r_putI (pc' := 102) dX9_opensPart_99 fa_X9_154 hm.o rfl rfl ?_
            have h := lx_e h
            refine r_aload_n (pc' := 103) dX9_opensPart_102 rfl 2 rfl rfl ?_
            refine r_getO (pc' := 106) dX9_opensPart_103 fa_X9_40 hm.o rfl hm.r19 rfl ?_
            refine r_aload_n (pc' := 107) dX9_opensPart_106 rfl 2 rfl rfl ?_
            refine r_getI (pc' := 110) dX9_opensPart_107 fa_X9_154 hm.o rfl rfl ?_
            refine r_iload_n (pc' := 111) dX9_opensPart_110 rfl 0 rfl rfl ?_
            obtain ⟨g199, h⟩ := gd_e h
            refine r_iastore (pc' := 112) dX9_opensPart_111 hm.c19 g199 rfl ?_
            have h := lx_e h
            refine r_aload_n (pc' := 113) dX9_opensPart_112 rfl 2 rfl rfl ?_
            refine r_getO (pc' := 116) dX9_opensPart_113 fa_X9_37 hm.o rfl hm.r18 rfl ?_
            refine r_aload_n (pc' := 117) dX9_opensPart_116 rfl 2 rfl rfl ?_
            refine r_getI (pc' := 120) dX9_opensPart_117 fa_X9_154 hm.o rfl rfl ?_
            refine r_iconst (pc' := 121) (v := 0) dX9_opensPart_120 (by decide) rfl ?_
            obtain ⟨g201, h⟩ := gd_e h
            refine r_iastore (pc' := 122) dX9_opensPart_121 hm.c18 g201 rfl ?_
            have h := lx_e h
            refine r_aload_n (pc' := 123) dX9_opensPart_122 rfl 2 rfl rfl ?_
            refine r_getO (pc' := 126) dX9_opensPart_123 fa_X9_9 hm.o rfl hm.r1 rfl ?_
            refine r_bipush (pc' := 128) (v := 7) dX9_opensPart_126 (by decide) rfl ?_
            refine r_aload_n (pc' := 129) dX9_opensPart_128 rfl 2 rfl rfl ?_
            refine r_getO (pc' := 132) dX9_opensPart_129 fa_X9_9 hm.o rfl hm.r1 rfl ?_
            refine r_bipush (pc' := 134) (v := 7) dX9_opensPart_132 (by decide) rfl ?_
            obtain ⟨g203, h⟩ := gd_e h
            refine r_iaload (pc' := 135) dX9_opensPart_134 hm.c1 g203 rfl ?_
            refine r_aload_n (pc' := 136) dX9_opensPart_135 rfl 2 rfl rfl ?_
            refine r_getI (pc' := 139) dX9_opensPart_136 fa_X9_154 hm.o rfl rfl ?_
            refine r_iconst (pc' := 140) (v := 1) dX9_opensPart_139 (by decide) rfl ?_
            refine r_iadd (pc' := 141) dX9_opensPart_140 rfl ?_
            refine r_mmax (pc' := 144) dX9_opensPart_141 mw_X9_177 (by decide) (Nat.le_of_ble_eq_true rfl) (by decide) (by decide) rfl ?_
            obtain ⟨g204, h⟩ := gd_e h
            refine r_iastore (pc' := 145) dX9_opensPart_144 hm.c1 g204 rfl ?_
            have h := lx_e h
            cases h
            exact r_ret dX9_opensPart_145 rfl (by decide) (by decide) hQ
          · have h := ifn h196 h
            cases h
            exact r_ret dX9_opensPart_86 rfl (by decide) (by decide) hQ
        · have h := ifn (zb_n0 h194) h
          refine r_aload_n (pc' := 71) dX9_opensPart_70 rfl 2 rfl rfl ?_
          refine r_iconst (pc' := 72) (v := 1) dX9_opensPart_71 (by decide) rfl ?_
          refine r_callV1 (pc' := 75) (k' := 0) (n' := 0) dX9_opensPart_72 mb_X9_faults mi_X9_faults hm.o (by decide) rfl lk_X9_104 rfl rfl rfl (Nat.le_of_ble_eq_true rfl) rfl (c_X9_faults hm rfl (cpV ?_))
          have h := lx_e h
          refine r_aload_n (pc' := 76) dX9_opensPart_75 rfl 2 rfl rfl ?_
          obtain ⟨I207, eI207, h⟩ := bd_e h
          refine r_callV0 (pc' := 79) (k' := 0) (n' := 0) dX9_opensPart_76 mb_X9_goes mi_X9_goes hm.o (by decide) rfl lk_X9_124 rfl rfl rfl (Nat.le_of_ble_eq_true rfl) rfl (c_X9_goes hm eI207 (cpV ?_))
          refine r_aload_n (pc' := 80) dX9_opensPart_79 rfl 2 rfl rfl ?_
          refine r_getI (pc' := 83) dX9_opensPart_80 fa_X9_68 hm.o rfl rfl ?_
          refine r_if_le (tgt := 87) (pc' := 86) dX9_opensPart_83 rfl rfl (fun h208 => ?_) (fun h208 => ?_)
          · have h := ifp h208 h
            refine r_aload_n (pc' := 88) dX9_opensPart_87 rfl 2 rfl rfl ?_
            refine r_iload_n (pc' := 89) dX9_opensPart_88 rfl 0 rfl rfl ?_
            obtain ⟨I209, eI209, h⟩ := bd_e h
            refine r_callV1 (pc' := 92) (k' := 0) (n' := 0) dX9_opensPart_89 mb_X9_addsPart mi_X9_addsPart hm.o (by decide) rfl lk_X9_157 rfl rfl rfl (Nat.le_of_ble_eq_true rfl) rfl (c_X9_addsPart hm eI209 (cpV ?_))
            refine r_aload_n (pc' := 93) dX9_opensPart_92 rfl 2 rfl rfl ?_
            refine r_dup (pc' := 94) dX9_opensPart_93 rfl rfl ?_
            refine r_getI (pc' := 97) dX9_opensPart_94 fa_X9_154 hm.o rfl rfl ?_
            refine r_iconst (pc' := 98) (v := 1) dX9_opensPart_97 (by decide) rfl ?_
            refine r_iadd (pc' := 99) dX9_opensPart_98 rfl ?_
            refine r_putI (pc' := 102) dX9_opensPart_99 fa_X9_154 hm.o rfl rfl ?_
            have h := lx_e h
            refine r_aload_n (pc' := 103) dX9_opensPart_102 rfl 2 rfl rfl ?_
            refine r_getO (pc' := 106) dX9_opensPart_103 fa_X9_40 hm.o rfl hm.r19 rfl ?_
            refine r_aload_n (pc' := 107) dX9_opensPart_106 rfl 2 rfl rfl ?_
            refine r_getI (pc' := 110) dX9_opensPart_107 fa_X9_154 hm.o rfl rfl ?_
            refine r_iload_n (pc' := 111) dX9_opensPart_110 rfl 0 rfl rfl ?_
            obtain ⟨g211, h⟩ := gd_e h
            refine r_iastore (pc' := 112) dX9_opensPart_111 hm.c19 g211 rfl ?_
            have h := lx_e h
            refine r_aload_n (pc' := 113) dX9_opensPart_112 rfl 2 rfl rfl ?_
            refine r_getO (pc' := 116) dX9_opensPart_113 fa_X9_37 hm.o rfl hm.r18 rfl ?_
            refine r_aload_n (pc' := 117) dX9_opensPart_116 rfl 2 rfl rfl ?_
            refine r_getI (pc' := 120) dX9_opensPart_117 fa_X9_154 hm.o rfl rfl ?_
            refine r_iconst (pc' := 121) (v := 0) dX9_opensPart_120 (by decide) rfl ?_
            obtain ⟨g213, h⟩ := gd_e h
            refine r_iastore (pc' := 122) dX9_opensPart_121 hm.c18 g213 rfl ?_
            have h := lx_e h
            refine r_aload_n (pc' := 123) dX9_opensPart_122 rfl 2 rfl rfl ?_
            refine r_getO (pc' := 126) dX9_opensPart_123 fa_X9_9 hm.o rfl hm.r1 rfl ?_
            refine r_bipush (pc' := 128) (v := 7) dX9_opensPart_126 (by decide) rfl ?_
            refine r_aload_n (pc' := 129) dX9_opensPart_128 rfl 2 rfl rfl ?_
            refine r_getO (pc' := 132) dX9_opensPart_129 fa_X9_9 hm.o rfl hm.r1 rfl ?_
            refine r_bipush (pc' := 134) (v := 7) dX9_opensPart_132 (by decide) rfl ?_
            obtain ⟨g215, h⟩ := gd_e h
            refine r_iaload (pc' := 135) dX9_opensPart_134 hm.c1 g215 rfl ?_
            refine r_aload_n (pc' := 136) dX9_opensPart_135 rfl 2 rfl rfl ?_
            refine r_getI (pc' := 139) dX9_opensPart_136 fa_X9_154 hm.o rfl rfl ?_
            refine r_iconst (pc' := 140) (v := 1) dX9_opensPart_139 (by decide) rfl ?_
            refine r_iadd (pc' := 141) dX9_opensPart_140 rfl ?_
            refine r_mmax (pc' := 144) dX9_opensPart_141 mw_X9_177 (by decide) (Nat.le_of_ble_eq_true rfl) (by decide) (by decide) rfl ?_
            obtain ⟨g216, h⟩ := gd_e h
            refine r_iastore (pc' := 145) dX9_opensPart_144 hm.c1 g216 rfl ?_
            have h := lx_e h
            cases h
            exact r_ret dX9_opensPart_145 rfl (by decide) (by decide) hQ
          · have h := ifn h208 h
            cases h
            exact r_ret dX9_opensPart_86 rfl (by decide) (by decide) hQ
set_option maxHeartbeats 4000000 in
theorem fr_X9_opensPart {I : JI} {m : Nat} {J : JI} {z : Nat} (h : s_X9_opensPart I m = some J) (hz_m1 : z ≠ (m + 1)) (hz_m8 : z ≠ (m + 8)) (hz_m9 : z ≠ (m + 9)) (hz_m : z ≠ m) : J z = I z := by
  unfold s_X9_opensPart at h
  obtain ⟨o1, e1, h⟩ := bd_e h
  obtain ⟨o2, e2, h⟩ := bd_e h
  rcases if_e h with h | h
  · rcases if_e h with h | h
    · have h := lx_e h
      obtain ⟨I166, e3, h⟩ := bd_e h
      rcases if_e h with h | h
      · obtain ⟨v193, I192, e4, h⟩ := bd2_e h
        rcases if_e h with h | h
        · obtain ⟨I195, e5, h⟩ := bd_e h
          rcases if_e h with h | h
          · obtain ⟨I197, e6, h⟩ := bd_e h
            have h := lx_e h
            obtain ⟨g7, h⟩ := gd_e h
            have h := lx_e h
            obtain ⟨g8, h⟩ := gd_e h
            have h := lx_e h
            obtain ⟨g9, h⟩ := gd_e h
            obtain ⟨g10, h⟩ := gd_e h
            have h := lx_e h
            cases h
            exact ((fr_stI (by omega)).trans ((fr_stI (by omega)).trans ((fr_stI (by omega)).trans ((fr_stI (by omega)).trans ((fr_X9_addsPart e6 (by omega)).trans ((fr_X9_goes e5 (by omega)).trans ((fr_X9_readNumber e4 (by omega)).trans ((fr_X9_goes e3 (by omega)).trans ((fr_X9_limits (by omega)).trans rfl)))))))))
          · cases h
            exact ((fr_X9_goes e5 (by omega)).trans ((fr_X9_readNumber e4 (by omega)).trans ((fr_X9_goes e3 (by omega)).trans ((fr_X9_limits (by omega)).trans rfl))))
        · have h := lx_e h
          obtain ⟨I207, e11, h⟩ := bd_e h
          rcases if_e h with h | h
          · obtain ⟨I209, e12, h⟩ := bd_e h
            have h := lx_e h
            obtain ⟨g13, h⟩ := gd_e h
            have h := lx_e h
            obtain ⟨g14, h⟩ := gd_e h
            have h := lx_e h
            obtain ⟨g15, h⟩ := gd_e h
            obtain ⟨g16, h⟩ := gd_e h
            have h := lx_e h
            cases h
            exact ((fr_stI (by omega)).trans ((fr_stI (by omega)).trans ((fr_stI (by omega)).trans ((fr_stI (by omega)).trans ((fr_X9_addsPart e12 (by omega)).trans ((fr_X9_goes e11 (by omega)).trans ((fr_X9_faults (by omega)).trans ((fr_X9_readNumber e4 (by omega)).trans ((fr_X9_goes e3 (by omega)).trans ((fr_X9_limits (by omega)).trans rfl))))))))))
          · cases h
            exact ((fr_X9_goes e11 (by omega)).trans ((fr_X9_faults (by omega)).trans ((fr_X9_readNumber e4 (by omega)).trans ((fr_X9_goes e3 (by omega)).trans ((fr_X9_limits (by omega)).trans rfl)))))
      · rcases if_e h with h | h
        · obtain ⟨I169, e17, h⟩ := bd_e h
          rcases if_e h with h | h
          · obtain ⟨I171, e18, h⟩ := bd_e h
            have h := lx_e h
            obtain ⟨g19, h⟩ := gd_e h
            have h := lx_e h
            obtain ⟨g20, h⟩ := gd_e h
            have h := lx_e h
            obtain ⟨g21, h⟩ := gd_e h
            obtain ⟨g22, h⟩ := gd_e h
            have h := lx_e h
            cases h
            exact ((fr_stI (by omega)).trans ((fr_stI (by omega)).trans ((fr_stI (by omega)).trans ((fr_stI (by omega)).trans ((fr_X9_addsPart e18 (by omega)).trans ((fr_X9_goes e17 (by omega)).trans ((fr_X9_goes e3 (by omega)).trans ((fr_X9_limits (by omega)).trans rfl))))))))
          · cases h
            exact ((fr_X9_goes e17 (by omega)).trans ((fr_X9_goes e3 (by omega)).trans ((fr_X9_limits (by omega)).trans rfl)))
        · have h := lx_e h
          obtain ⟨I181, e23, h⟩ := bd_e h
          rcases if_e h with h | h
          · obtain ⟨I183, e24, h⟩ := bd_e h
            have h := lx_e h
            obtain ⟨g25, h⟩ := gd_e h
            have h := lx_e h
            obtain ⟨g26, h⟩ := gd_e h
            have h := lx_e h
            obtain ⟨g27, h⟩ := gd_e h
            obtain ⟨g28, h⟩ := gd_e h
            have h := lx_e h
            cases h
            exact ((fr_stI (by omega)).trans ((fr_stI (by omega)).trans ((fr_stI (by omega)).trans ((fr_stI (by omega)).trans ((fr_X9_addsPart e24 (by omega)).trans ((fr_X9_goes e23 (by omega)).trans ((fr_X9_faults (by omega)).trans ((fr_X9_goes e3 (by omega)).trans ((fr_X9_limits (by omega)).trans rfl)))))))))
          · cases h
            exact ((fr_X9_goes e23 (by omega)).trans ((fr_X9_faults (by omega)).trans ((fr_X9_goes e3 (by omega)).trans ((fr_X9_limits (by omega)).trans rfl))))
    · have h := lx_e h
      obtain ⟨I113, e29, h⟩ := bd_e h
      rcases if_e h with h | h
      · obtain ⟨v140, I139, e30, h⟩ := bd2_e h
        rcases if_e h with h | h
        · obtain ⟨I142, e31, h⟩ := bd_e h
          rcases if_e h with h | h
          · obtain ⟨I144, e32, h⟩ := bd_e h
            have h := lx_e h
            obtain ⟨g33, h⟩ := gd_e h
            have h := lx_e h
            obtain ⟨g34, h⟩ := gd_e h
            have h := lx_e h
            obtain ⟨g35, h⟩ := gd_e h
            obtain ⟨g36, h⟩ := gd_e h
            have h := lx_e h
            cases h
            exact ((fr_stI (by omega)).trans ((fr_stI (by omega)).trans ((fr_stI (by omega)).trans ((fr_stI (by omega)).trans ((fr_X9_addsPart e32 (by omega)).trans ((fr_X9_goes e31 (by omega)).trans ((fr_X9_readNumber e30 (by omega)).trans ((fr_X9_goes e29 (by omega)).trans ((fr_X9_limits (by omega)).trans rfl)))))))))
          · cases h
            exact ((fr_X9_goes e31 (by omega)).trans ((fr_X9_readNumber e30 (by omega)).trans ((fr_X9_goes e29 (by omega)).trans ((fr_X9_limits (by omega)).trans rfl))))
        · have h := lx_e h
          obtain ⟨I154, e37, h⟩ := bd_e h
          rcases if_e h with h | h
          · obtain ⟨I156, e38, h⟩ := bd_e h
            have h := lx_e h
            obtain ⟨g39, h⟩ := gd_e h
            have h := lx_e h
            obtain ⟨g40, h⟩ := gd_e h
            have h := lx_e h
            obtain ⟨g41, h⟩ := gd_e h
            obtain ⟨g42, h⟩ := gd_e h
            have h := lx_e h
            cases h
            exact ((fr_stI (by omega)).trans ((fr_stI (by omega)).trans ((fr_stI (by omega)).trans ((fr_stI (by omega)).trans ((fr_X9_addsPart e38 (by omega)).trans ((fr_X9_goes e37 (by omega)).trans ((fr_X9_faults (by omega)).trans ((fr_X9_readNumber e30 (by omega)).trans ((fr_X9_goes e29 (by omega)).trans ((fr_X9_limits (by omega)).trans rfl))))))))))
          · cases h
            exact ((fr_X9_goes e37 (by omega)).trans ((fr_X9_faults (by omega)).trans ((fr_X9_readNumber e30 (by omega)).trans ((fr_X9_goes e29 (by omega)).trans ((fr_X9_limits (by omega)).trans rfl)))))
      · rcases if_e h with h | h
        · obtain ⟨I116, e43, h⟩ := bd_e h
          rcases if_e h with h | h
          · obtain ⟨I118, e44, h⟩ := bd_e h
            have h := lx_e h
            obtain ⟨g45, h⟩ := gd_e h
            have h := lx_e h
            obtain ⟨g46, h⟩ := gd_e h
            have h := lx_e h
            obtain ⟨g47, h⟩ := gd_e h
            obtain ⟨g48, h⟩ := gd_e h
            have h := lx_e h
            cases h
            exact ((fr_stI (by omega)).trans ((fr_stI (by omega)).trans ((fr_stI (by omega)).trans ((fr_stI (by omega)).trans ((fr_X9_addsPart e44 (by omega)).trans ((fr_X9_goes e43 (by omega)).trans ((fr_X9_goes e29 (by omega)).trans ((fr_X9_limits (by omega)).trans rfl))))))))
          · cases h
            exact ((fr_X9_goes e43 (by omega)).trans ((fr_X9_goes e29 (by omega)).trans ((fr_X9_limits (by omega)).trans rfl)))
        · have h := lx_e h
          obtain ⟨I128, e49, h⟩ := bd_e h
          rcases if_e h with h | h
          · obtain ⟨I130, e50, h⟩ := bd_e h
            have h := lx_e h
            obtain ⟨g51, h⟩ := gd_e h
            have h := lx_e h
            obtain ⟨g52, h⟩ := gd_e h
            have h := lx_e h
            obtain ⟨g53, h⟩ := gd_e h
            obtain ⟨g54, h⟩ := gd_e h
            have h := lx_e h
            cases h
            exact ((fr_stI (by omega)).trans ((fr_stI (by omega)).trans ((fr_stI (by omega)).trans ((fr_stI (by omega)).trans ((fr_X9_addsPart e50 (by omega)).trans ((fr_X9_goes e49 (by omega)).trans ((fr_X9_faults (by omega)).trans ((fr_X9_goes e29 (by omega)).trans ((fr_X9_limits (by omega)).trans rfl)))))))))
          · cases h
            exact ((fr_X9_goes e49 (by omega)).trans ((fr_X9_faults (by omega)).trans ((fr_X9_goes e29 (by omega)).trans ((fr_X9_limits (by omega)).trans rfl))))
  · rcases if_e h with h | h
    · have h := lx_e h
      obtain ⟨I59, e55, h⟩ := bd_e h
      rcases if_e h with h | h
      · obtain ⟨v86, I85, e56, h⟩ := bd2_e h
        rcases if_e h with h | h
        · obtain ⟨I88, e57, h⟩ := bd_e h
          rcases if_e h with h | h
          · obtain ⟨I90, e58, h⟩ := bd_e h
            have h := lx_e h
            obtain ⟨g59, h⟩ := gd_e h
            have h := lx_e h
            obtain ⟨g60, h⟩ := gd_e h
            have h := lx_e h
            obtain ⟨g61, h⟩ := gd_e h
            obtain ⟨g62, h⟩ := gd_e h
            have h := lx_e h
            cases h
            exact ((fr_stI (by omega)).trans ((fr_stI (by omega)).trans ((fr_stI (by omega)).trans ((fr_stI (by omega)).trans ((fr_X9_addsPart e58 (by omega)).trans ((fr_X9_goes e57 (by omega)).trans ((fr_X9_readNumber e56 (by omega)).trans ((fr_X9_goes e55 (by omega)).trans ((fr_X9_limits (by omega)).trans rfl)))))))))
          · cases h
            exact ((fr_X9_goes e57 (by omega)).trans ((fr_X9_readNumber e56 (by omega)).trans ((fr_X9_goes e55 (by omega)).trans ((fr_X9_limits (by omega)).trans rfl))))
        · have h := lx_e h
          obtain ⟨I100, e63, h⟩ := bd_e h
          rcases if_e h with h | h
          · obtain ⟨I102, e64, h⟩ := bd_e h
            have h := lx_e h
            obtain ⟨g65, h⟩ := gd_e h
            have h := lx_e h
            obtain ⟨g66, h⟩ := gd_e h
            have h := lx_e h
            obtain ⟨g67, h⟩ := gd_e h
            obtain ⟨g68, h⟩ := gd_e h
            have h := lx_e h
            cases h
            exact ((fr_stI (by omega)).trans ((fr_stI (by omega)).trans ((fr_stI (by omega)).trans ((fr_stI (by omega)).trans ((fr_X9_addsPart e64 (by omega)).trans ((fr_X9_goes e63 (by omega)).trans ((fr_X9_faults (by omega)).trans ((fr_X9_readNumber e56 (by omega)).trans ((fr_X9_goes e55 (by omega)).trans ((fr_X9_limits (by omega)).trans rfl))))))))))
          · cases h
            exact ((fr_X9_goes e63 (by omega)).trans ((fr_X9_faults (by omega)).trans ((fr_X9_readNumber e56 (by omega)).trans ((fr_X9_goes e55 (by omega)).trans ((fr_X9_limits (by omega)).trans rfl)))))
      · rcases if_e h with h | h
        · obtain ⟨I62, e69, h⟩ := bd_e h
          rcases if_e h with h | h
          · obtain ⟨I64, e70, h⟩ := bd_e h
            have h := lx_e h
            obtain ⟨g71, h⟩ := gd_e h
            have h := lx_e h
            obtain ⟨g72, h⟩ := gd_e h
            have h := lx_e h
            obtain ⟨g73, h⟩ := gd_e h
            obtain ⟨g74, h⟩ := gd_e h
            have h := lx_e h
            cases h
            exact ((fr_stI (by omega)).trans ((fr_stI (by omega)).trans ((fr_stI (by omega)).trans ((fr_stI (by omega)).trans ((fr_X9_addsPart e70 (by omega)).trans ((fr_X9_goes e69 (by omega)).trans ((fr_X9_goes e55 (by omega)).trans ((fr_X9_limits (by omega)).trans rfl))))))))
          · cases h
            exact ((fr_X9_goes e69 (by omega)).trans ((fr_X9_goes e55 (by omega)).trans ((fr_X9_limits (by omega)).trans rfl)))
        · have h := lx_e h
          obtain ⟨I74, e75, h⟩ := bd_e h
          rcases if_e h with h | h
          · obtain ⟨I76, e76, h⟩ := bd_e h
            have h := lx_e h
            obtain ⟨g77, h⟩ := gd_e h
            have h := lx_e h
            obtain ⟨g78, h⟩ := gd_e h
            have h := lx_e h
            obtain ⟨g79, h⟩ := gd_e h
            obtain ⟨g80, h⟩ := gd_e h
            have h := lx_e h
            cases h
            exact ((fr_stI (by omega)).trans ((fr_stI (by omega)).trans ((fr_stI (by omega)).trans ((fr_stI (by omega)).trans ((fr_X9_addsPart e76 (by omega)).trans ((fr_X9_goes e75 (by omega)).trans ((fr_X9_faults (by omega)).trans ((fr_X9_goes e55 (by omega)).trans ((fr_X9_limits (by omega)).trans rfl)))))))))
          · cases h
            exact ((fr_X9_goes e75 (by omega)).trans ((fr_X9_faults (by omega)).trans ((fr_X9_goes e55 (by omega)).trans ((fr_X9_limits (by omega)).trans rfl))))
    · have h := lx_e h
      obtain ⟨I6, e81, h⟩ := bd_e h
      rcases if_e h with h | h
      · obtain ⟨v33, I32, e82, h⟩ := bd2_e h
        rcases if_e h with h | h
        · obtain ⟨I35, e83, h⟩ := bd_e h
          rcases if_e h with h | h
          · obtain ⟨I37, e84, h⟩ := bd_e h
            have h := lx_e h
            obtain ⟨g85, h⟩ := gd_e h
            have h := lx_e h
            obtain ⟨g86, h⟩ := gd_e h
            have h := lx_e h
            obtain ⟨g87, h⟩ := gd_e h
            obtain ⟨g88, h⟩ := gd_e h
            have h := lx_e h
            cases h
            exact ((fr_stI (by omega)).trans ((fr_stI (by omega)).trans ((fr_stI (by omega)).trans ((fr_stI (by omega)).trans ((fr_X9_addsPart e84 (by omega)).trans ((fr_X9_goes e83 (by omega)).trans ((fr_X9_readNumber e82 (by omega)).trans ((fr_X9_goes e81 (by omega)).trans ((fr_X9_limits (by omega)).trans rfl)))))))))
          · cases h
            exact ((fr_X9_goes e83 (by omega)).trans ((fr_X9_readNumber e82 (by omega)).trans ((fr_X9_goes e81 (by omega)).trans ((fr_X9_limits (by omega)).trans rfl))))
        · have h := lx_e h
          obtain ⟨I47, e89, h⟩ := bd_e h
          rcases if_e h with h | h
          · obtain ⟨I49, e90, h⟩ := bd_e h
            have h := lx_e h
            obtain ⟨g91, h⟩ := gd_e h
            have h := lx_e h
            obtain ⟨g92, h⟩ := gd_e h
            have h := lx_e h
            obtain ⟨g93, h⟩ := gd_e h
            obtain ⟨g94, h⟩ := gd_e h
            have h := lx_e h
            cases h
            exact ((fr_stI (by omega)).trans ((fr_stI (by omega)).trans ((fr_stI (by omega)).trans ((fr_stI (by omega)).trans ((fr_X9_addsPart e90 (by omega)).trans ((fr_X9_goes e89 (by omega)).trans ((fr_X9_faults (by omega)).trans ((fr_X9_readNumber e82 (by omega)).trans ((fr_X9_goes e81 (by omega)).trans ((fr_X9_limits (by omega)).trans rfl))))))))))
          · cases h
            exact ((fr_X9_goes e89 (by omega)).trans ((fr_X9_faults (by omega)).trans ((fr_X9_readNumber e82 (by omega)).trans ((fr_X9_goes e81 (by omega)).trans ((fr_X9_limits (by omega)).trans rfl)))))
      · rcases if_e h with h | h
        · obtain ⟨I9, e95, h⟩ := bd_e h
          rcases if_e h with h | h
          · obtain ⟨I11, e96, h⟩ := bd_e h
            have h := lx_e h
            obtain ⟨g97, h⟩ := gd_e h
            have h := lx_e h
            obtain ⟨g98, h⟩ := gd_e h
            have h := lx_e h
            obtain ⟨g99, h⟩ := gd_e h
            obtain ⟨g100, h⟩ := gd_e h
            have h := lx_e h
            cases h
            exact ((fr_stI (by omega)).trans ((fr_stI (by omega)).trans ((fr_stI (by omega)).trans ((fr_stI (by omega)).trans ((fr_X9_addsPart e96 (by omega)).trans ((fr_X9_goes e95 (by omega)).trans ((fr_X9_goes e81 (by omega)).trans ((fr_X9_limits (by omega)).trans rfl))))))))
          · cases h
            exact ((fr_X9_goes e95 (by omega)).trans ((fr_X9_goes e81 (by omega)).trans ((fr_X9_limits (by omega)).trans rfl)))
        · have h := lx_e h
          obtain ⟨I21, e101, h⟩ := bd_e h
          rcases if_e h with h | h
          · obtain ⟨I23, e102, h⟩ := bd_e h
            have h := lx_e h
            obtain ⟨g103, h⟩ := gd_e h
            have h := lx_e h
            obtain ⟨g104, h⟩ := gd_e h
            have h := lx_e h
            obtain ⟨g105, h⟩ := gd_e h
            obtain ⟨g106, h⟩ := gd_e h
            have h := lx_e h
            cases h
            exact ((fr_stI (by omega)).trans ((fr_stI (by omega)).trans ((fr_stI (by omega)).trans ((fr_stI (by omega)).trans ((fr_X9_addsPart e102 (by omega)).trans ((fr_X9_goes e101 (by omega)).trans ((fr_X9_faults (by omega)).trans ((fr_X9_goes e81 (by omega)).trans ((fr_X9_limits (by omega)).trans rfl)))))))))
          · cases h
            exact ((fr_X9_goes e101 (by omega)).trans ((fr_X9_faults (by omega)).trans ((fr_X9_goes e81 (by omega)).trans ((fr_X9_limits (by omega)).trans rfl))))
set_option maxHeartbeats 4000000 in
theorem ff_X9_opensPart {I : JI} {m : Nat} {J : JI} {k : Nat} (h : s_X9_opensPart I m = some J) (hk10 : k ≠ 10) (hk11 : k ≠ 11) (hk13 : k ≠ 13) (hk14 : k ≠ 14) (hk15 : k ≠ 15) (hk16 : k ≠ 16) (hk20 : k ≠ 20) : J m k = I m k := by
  unfold s_X9_opensPart at h
  obtain ⟨o1, e1, h⟩ := bd_e h
  obtain ⟨o2, e2, h⟩ := bd_e h
  rcases if_e h with h | h
  · rcases if_e h with h | h
    · have h := lx_e h
      obtain ⟨I166, e3, h⟩ := bd_e h
      rcases if_e h with h | h
      · obtain ⟨v193, I192, e4, h⟩ := bd2_e h
        rcases if_e h with h | h
        · obtain ⟨I195, e5, h⟩ := bd_e h
          rcases if_e h with h | h
          · obtain ⟨I197, e6, h⟩ := bd_e h
            have h := lx_e h
            obtain ⟨g7, h⟩ := gd_e h
            have h := lx_e h
            obtain ⟨g8, h⟩ := gd_e h
            have h := lx_e h
            obtain ⟨g9, h⟩ := gd_e h
            obtain ⟨g10, h⟩ := gd_e h
            have h := lx_e h
            cases h
            exact ((congrFun (fr_stI (by omega)) k).trans ((congrFun (fr_stI (by omega)) k).trans ((congrFun (fr_stI (by omega)) k).trans ((ff_stI hk20).trans ((congrFun (fr_X9_addsPart e6 (by omega)) k).trans ((ff_X9_goes e5 hk13 hk14 hk15 hk16).trans ((ff_X9_readNumber e4 hk10 hk11 hk13 hk14 hk15 hk16).trans ((ff_X9_goes e3 hk13 hk14 hk15 hk16).trans ((ff_X9_limits hk10 hk11).trans rfl)))))))))
          · cases h
            exact ((ff_X9_goes e5 hk13 hk14 hk15 hk16).trans ((ff_X9_readNumber e4 hk10 hk11 hk13 hk14 hk15 hk16).trans ((ff_X9_goes e3 hk13 hk14 hk15 hk16).trans ((ff_X9_limits hk10 hk11).trans rfl))))
        · have h := lx_e h
          obtain ⟨I207, e11, h⟩ := bd_e h
          rcases if_e h with h | h
          · obtain ⟨I209, e12, h⟩ := bd_e h
            have h := lx_e h
            obtain ⟨g13, h⟩ := gd_e h
            have h := lx_e h
            obtain ⟨g14, h⟩ := gd_e h
            have h := lx_e h
            obtain ⟨g15, h⟩ := gd_e h
            obtain ⟨g16, h⟩ := gd_e h
            have h := lx_e h
            cases h
            exact ((congrFun (fr_stI (by omega)) k).trans ((congrFun (fr_stI (by omega)) k).trans ((congrFun (fr_stI (by omega)) k).trans ((ff_stI hk20).trans ((congrFun (fr_X9_addsPart e12 (by omega)) k).trans ((ff_X9_goes e11 hk13 hk14 hk15 hk16).trans ((ff_X9_faults hk10 hk11).trans ((ff_X9_readNumber e4 hk10 hk11 hk13 hk14 hk15 hk16).trans ((ff_X9_goes e3 hk13 hk14 hk15 hk16).trans ((ff_X9_limits hk10 hk11).trans rfl))))))))))
          · cases h
            exact ((ff_X9_goes e11 hk13 hk14 hk15 hk16).trans ((ff_X9_faults hk10 hk11).trans ((ff_X9_readNumber e4 hk10 hk11 hk13 hk14 hk15 hk16).trans ((ff_X9_goes e3 hk13 hk14 hk15 hk16).trans ((ff_X9_limits hk10 hk11).trans rfl)))))
      · rcases if_e h with h | h
        · obtain ⟨I169, e17, h⟩ := bd_e h
          rcases if_e h with h | h
          · obtain ⟨I171, e18, h⟩ := bd_e h
            have h := lx_e h
            obtain ⟨g19, h⟩ := gd_e h
            have h := lx_e h
            obtain ⟨g20, h⟩ := gd_e h
            have h := lx_e h
            obtain ⟨g21, h⟩ := gd_e h
            obtain ⟨g22, h⟩ := gd_e h
            have h := lx_e h
            cases h
            exact ((congrFun (fr_stI (by omega)) k).trans ((congrFun (fr_stI (by omega)) k).trans ((congrFun (fr_stI (by omega)) k).trans ((ff_stI hk20).trans ((congrFun (fr_X9_addsPart e18 (by omega)) k).trans ((ff_X9_goes e17 hk13 hk14 hk15 hk16).trans ((ff_X9_goes e3 hk13 hk14 hk15 hk16).trans ((ff_X9_limits hk10 hk11).trans rfl))))))))
          · cases h
            exact ((ff_X9_goes e17 hk13 hk14 hk15 hk16).trans ((ff_X9_goes e3 hk13 hk14 hk15 hk16).trans ((ff_X9_limits hk10 hk11).trans rfl)))
        · have h := lx_e h
          obtain ⟨I181, e23, h⟩ := bd_e h
          rcases if_e h with h | h
          · obtain ⟨I183, e24, h⟩ := bd_e h
            have h := lx_e h
            obtain ⟨g25, h⟩ := gd_e h
            have h := lx_e h
            obtain ⟨g26, h⟩ := gd_e h
            have h := lx_e h
            obtain ⟨g27, h⟩ := gd_e h
            obtain ⟨g28, h⟩ := gd_e h
            have h := lx_e h
            cases h
            exact ((congrFun (fr_stI (by omega)) k).trans ((congrFun (fr_stI (by omega)) k).trans ((congrFun (fr_stI (by omega)) k).trans ((ff_stI hk20).trans ((congrFun (fr_X9_addsPart e24 (by omega)) k).trans ((ff_X9_goes e23 hk13 hk14 hk15 hk16).trans ((ff_X9_faults hk10 hk11).trans ((ff_X9_goes e3 hk13 hk14 hk15 hk16).trans ((ff_X9_limits hk10 hk11).trans rfl)))))))))
          · cases h
            exact ((ff_X9_goes e23 hk13 hk14 hk15 hk16).trans ((ff_X9_faults hk10 hk11).trans ((ff_X9_goes e3 hk13 hk14 hk15 hk16).trans ((ff_X9_limits hk10 hk11).trans rfl))))
    · have h := lx_e h
      obtain ⟨I113, e29, h⟩ := bd_e h
      rcases if_e h with h | h
      · obtain ⟨v140, I139, e30, h⟩ := bd2_e h
        rcases if_e h with h | h
        · obtain ⟨I142, e31, h⟩ := bd_e h
          rcases if_e h with h | h
          · obtain ⟨I144, e32, h⟩ := bd_e h
            have h := lx_e h
            obtain ⟨g33, h⟩ := gd_e h
            have h := lx_e h
            obtain ⟨g34, h⟩ := gd_e h
            have h := lx_e h
            obtain ⟨g35, h⟩ := gd_e h
            obtain ⟨g36, h⟩ := gd_e h
            have h := lx_e h
            cases h
            exact ((congrFun (fr_stI (by omega)) k).trans ((congrFun (fr_stI (by omega)) k).trans ((congrFun (fr_stI (by omega)) k).trans ((ff_stI hk20).trans ((congrFun (fr_X9_addsPart e32 (by omega)) k).trans ((ff_X9_goes e31 hk13 hk14 hk15 hk16).trans ((ff_X9_readNumber e30 hk10 hk11 hk13 hk14 hk15 hk16).trans ((ff_X9_goes e29 hk13 hk14 hk15 hk16).trans ((ff_X9_limits hk10 hk11).trans rfl)))))))))
          · cases h
            exact ((ff_X9_goes e31 hk13 hk14 hk15 hk16).trans ((ff_X9_readNumber e30 hk10 hk11 hk13 hk14 hk15 hk16).trans ((ff_X9_goes e29 hk13 hk14 hk15 hk16).trans ((ff_X9_limits hk10 hk11).trans rfl))))
        · have h := lx_e h
          obtain ⟨I154, e37, h⟩ := bd_e h
          rcases if_e h with h | h
          · obtain ⟨I156, e38, h⟩ := bd_e h
            have h := lx_e h
            obtain ⟨g39, h⟩ := gd_e h
            have h := lx_e h
            obtain ⟨g40, h⟩ := gd_e h
            have h := lx_e h
            obtain ⟨g41, h⟩ := gd_e h
            obtain ⟨g42, h⟩ := gd_e h
            have h := lx_e h
            cases h
            exact ((congrFun (fr_stI (by omega)) k).trans ((congrFun (fr_stI (by omega)) k).trans ((congrFun (fr_stI (by omega)) k).trans ((ff_stI hk20).trans ((congrFun (fr_X9_addsPart e38 (by omega)) k).trans ((ff_X9_goes e37 hk13 hk14 hk15 hk16).trans ((ff_X9_faults hk10 hk11).trans ((ff_X9_readNumber e30 hk10 hk11 hk13 hk14 hk15 hk16).trans ((ff_X9_goes e29 hk13 hk14 hk15 hk16).trans ((ff_X9_limits hk10 hk11).trans rfl))))))))))
          · cases h
            exact ((ff_X9_goes e37 hk13 hk14 hk15 hk16).trans ((ff_X9_faults hk10 hk11).trans ((ff_X9_readNumber e30 hk10 hk11 hk13 hk14 hk15 hk16).trans ((ff_X9_goes e29 hk13 hk14 hk15 hk16).trans ((ff_X9_limits hk10 hk11).trans rfl)))))
      · rcases if_e h with h | h
        · obtain ⟨I116, e43, h⟩ := bd_e h
          rcases if_e h with h | h
          · obtain ⟨I118, e44, h⟩ := bd_e h
            have h := lx_e h
            obtain ⟨g45, h⟩ := gd_e h
            have h := lx_e h
            obtain ⟨g46, h⟩ := gd_e h
            have h := lx_e h
            obtain ⟨g47, h⟩ := gd_e h
            obtain ⟨g48, h⟩ := gd_e h
            have h := lx_e h
            cases h
            exact ((congrFun (fr_stI (by omega)) k).trans ((congrFun (fr_stI (by omega)) k).trans ((congrFun (fr_stI (by omega)) k).trans ((ff_stI hk20).trans ((congrFun (fr_X9_addsPart e44 (by omega)) k).trans ((ff_X9_goes e43 hk13 hk14 hk15 hk16).trans ((ff_X9_goes e29 hk13 hk14 hk15 hk16).trans ((ff_X9_limits hk10 hk11).trans rfl))))))))
          · cases h
            exact ((ff_X9_goes e43 hk13 hk14 hk15 hk16).trans ((ff_X9_goes e29 hk13 hk14 hk15 hk16).trans ((ff_X9_limits hk10 hk11).trans rfl)))
        · have h := lx_e h
          obtain ⟨I128, e49, h⟩ := bd_e h
          rcases if_e h with h | h
          · obtain ⟨I130, e50, h⟩ := bd_e h
            have h := lx_e h
            obtain ⟨g51, h⟩ := gd_e h
            have h := lx_e h
            obtain ⟨g52, h⟩ := gd_e h
            have h := lx_e h
            obtain ⟨g53, h⟩ := gd_e h
            obtain ⟨g54, h⟩ := gd_e h
            have h := lx_e h
            cases h
            exact ((congrFun (fr_stI (by omega)) k).trans ((congrFun (fr_stI (by omega)) k).trans ((congrFun (fr_stI (by omega)) k).trans ((ff_stI hk20).trans ((congrFun (fr_X9_addsPart e50 (by omega)) k).trans ((ff_X9_goes e49 hk13 hk14 hk15 hk16).trans ((ff_X9_faults hk10 hk11).trans ((ff_X9_goes e29 hk13 hk14 hk15 hk16).trans ((ff_X9_limits hk10 hk11).trans rfl)))))))))
          · cases h
            exact ((ff_X9_goes e49 hk13 hk14 hk15 hk16).trans ((ff_X9_faults hk10 hk11).trans ((ff_X9_goes e29 hk13 hk14 hk15 hk16).trans ((ff_X9_limits hk10 hk11).trans rfl))))
  · rcases if_e h with h | h
    · have h := lx_e h
      obtain ⟨I59, e55, h⟩ := bd_e h
      rcases if_e h with h | h
      · obtain ⟨v86, I85, e56, h⟩ := bd2_e h
        rcases if_e h with h | h
        · obtain ⟨I88, e57, h⟩ := bd_e h
          rcases if_e h with h | h
          · obtain ⟨I90, e58, h⟩ := bd_e h
            have h := lx_e h
            obtain ⟨g59, h⟩ := gd_e h
            have h := lx_e h
            obtain ⟨g60, h⟩ := gd_e h
            have h := lx_e h
            obtain ⟨g61, h⟩ := gd_e h
            obtain ⟨g62, h⟩ := gd_e h
            have h := lx_e h
            cases h
            exact ((congrFun (fr_stI (by omega)) k).trans ((congrFun (fr_stI (by omega)) k).trans ((congrFun (fr_stI (by omega)) k).trans ((ff_stI hk20).trans ((congrFun (fr_X9_addsPart e58 (by omega)) k).trans ((ff_X9_goes e57 hk13 hk14 hk15 hk16).trans ((ff_X9_readNumber e56 hk10 hk11 hk13 hk14 hk15 hk16).trans ((ff_X9_goes e55 hk13 hk14 hk15 hk16).trans ((ff_X9_limits hk10 hk11).trans rfl)))))))))
          · cases h
            exact ((ff_X9_goes e57 hk13 hk14 hk15 hk16).trans ((ff_X9_readNumber e56 hk10 hk11 hk13 hk14 hk15 hk16).trans ((ff_X9_goes e55 hk13 hk14 hk15 hk16).trans ((ff_X9_limits hk10 hk11).trans rfl))))
        · have h := lx_e h
          obtain ⟨I100, e63, h⟩ := bd_e h
          rcases if_e h with h | h
          · obtain ⟨I102, e64, h⟩ := bd_e h
            have h := lx_e h
            obtain ⟨g65, h⟩ := gd_e h
            have h := lx_e h
            obtain ⟨g66, h⟩ := gd_e h
            have h := lx_e h
            obtain ⟨g67, h⟩ := gd_e h
            obtain ⟨g68, h⟩ := gd_e h
            have h := lx_e h
            cases h
            exact ((congrFun (fr_stI (by omega)) k).trans ((congrFun (fr_stI (by omega)) k).trans ((congrFun (fr_stI (by omega)) k).trans ((ff_stI hk20).trans ((congrFun (fr_X9_addsPart e64 (by omega)) k).trans ((ff_X9_goes e63 hk13 hk14 hk15 hk16).trans ((ff_X9_faults hk10 hk11).trans ((ff_X9_readNumber e56 hk10 hk11 hk13 hk14 hk15 hk16).trans ((ff_X9_goes e55 hk13 hk14 hk15 hk16).trans ((ff_X9_limits hk10 hk11).trans rfl))))))))))
          · cases h
            exact ((ff_X9_goes e63 hk13 hk14 hk15 hk16).trans ((ff_X9_faults hk10 hk11).trans ((ff_X9_readNumber e56 hk10 hk11 hk13 hk14 hk15 hk16).trans ((ff_X9_goes e55 hk13 hk14 hk15 hk16).trans ((ff_X9_limits hk10 hk11).trans rfl)))))
      · rcases if_e h with h | h
        · obtain ⟨I62, e69, h⟩ := bd_e h
          rcases if_e h with h | h
          · obtain ⟨I64, e70, h⟩ := bd_e h
            have h := lx_e h
            obtain ⟨g71, h⟩ := gd_e h
            have h := lx_e h
            obtain ⟨g72, h⟩ := gd_e h
            have h := lx_e h
            obtain ⟨g73, h⟩ := gd_e h
            obtain ⟨g74, h⟩ := gd_e h
            have h := lx_e h
            cases h
            exact ((congrFun (fr_stI (by omega)) k).trans ((congrFun (fr_stI (by omega)) k).trans ((congrFun (fr_stI (by omega)) k).trans ((ff_stI hk20).trans ((congrFun (fr_X9_addsPart e70 (by omega)) k).trans ((ff_X9_goes e69 hk13 hk14 hk15 hk16).trans ((ff_X9_goes e55 hk13 hk14 hk15 hk16).trans ((ff_X9_limits hk10 hk11).trans rfl))))))))
          · cases h
            exact ((ff_X9_goes e69 hk13 hk14 hk15 hk16).trans ((ff_X9_goes e55 hk13 hk14 hk15 hk16).trans ((ff_X9_limits hk10 hk11).trans rfl)))
        · have h := lx_e h
          obtain ⟨I74, e75, h⟩ := bd_e h
          rcases if_e h with h | h
          · obtain ⟨I76, e76, h⟩ := bd_e h
            have h := lx_e h
            obtain ⟨g77, h⟩ := gd_e h
            have h := lx_e h
            obtain ⟨g78, h⟩ := gd_e h
            have h := lx_e h
            obtain ⟨g79, h⟩ := gd_e h
            obtain ⟨g80, h⟩ := gd_e h
            have h := lx_e h
            cases h
            exact ((congrFun (fr_stI (by omega)) k).trans ((congrFun (fr_stI (by omega)) k).trans ((congrFun (fr_stI (by omega)) k).trans ((ff_stI hk20).trans ((congrFun (fr_X9_addsPart e76 (by omega)) k).trans ((ff_X9_goes e75 hk13 hk14 hk15 hk16).trans ((ff_X9_faults hk10 hk11).trans ((ff_X9_goes e55 hk13 hk14 hk15 hk16).trans ((ff_X9_limits hk10 hk11).trans rfl)))))))))
          · cases h
            exact ((ff_X9_goes e75 hk13 hk14 hk15 hk16).trans ((ff_X9_faults hk10 hk11).trans ((ff_X9_goes e55 hk13 hk14 hk15 hk16).trans ((ff_X9_limits hk10 hk11).trans rfl))))
    · have h := lx_e h
      obtain ⟨I6, e81, h⟩ := bd_e h
      rcases if_e h with h | h
      · obtain ⟨v33, I32, e82, h⟩ := bd2_e h
        rcases if_e h with h | h
        · obtain ⟨I35, e83, h⟩ := bd_e h
          rcases if_e h with h | h
          · obtain ⟨I37, e84, h⟩ := bd_e h
            have h := lx_e h
            obtain ⟨g85, h⟩ := gd_e h
            have h := lx_e h
            obtain ⟨g86, h⟩ := gd_e h
            have h := lx_e h
            obtain ⟨g87, h⟩ := gd_e h
            obtain ⟨g88, h⟩ := gd_e h
            have h := lx_e h
            cases h
            exact ((congrFun (fr_stI (by omega)) k).trans ((congrFun (fr_stI (by omega)) k).trans ((congrFun (fr_stI (by omega)) k).trans ((ff_stI hk20).trans ((congrFun (fr_X9_addsPart e84 (by omega)) k).trans ((ff_X9_goes e83 hk13 hk14 hk15 hk16).trans ((ff_X9_readNumber e82 hk10 hk11 hk13 hk14 hk15 hk16).trans ((ff_X9_goes e81 hk13 hk14 hk15 hk16).trans ((ff_X9_limits hk10 hk11).trans rfl)))))))))
          · cases h
            exact ((ff_X9_goes e83 hk13 hk14 hk15 hk16).trans ((ff_X9_readNumber e82 hk10 hk11 hk13 hk14 hk15 hk16).trans ((ff_X9_goes e81 hk13 hk14 hk15 hk16).trans ((ff_X9_limits hk10 hk11).trans rfl))))
        · have h := lx_e h
          obtain ⟨I47, e89, h⟩ := bd_e h
          rcases if_e h with h | h
          · obtain ⟨I49, e90, h⟩ := bd_e h
            have h := lx_e h
            obtain ⟨g91, h⟩ := gd_e h
            have h := lx_e h
            obtain ⟨g92, h⟩ := gd_e h
            have h := lx_e h
            obtain ⟨g93, h⟩ := gd_e h
            obtain ⟨g94, h⟩ := gd_e h
            have h := lx_e h
            cases h
            exact ((congrFun (fr_stI (by omega)) k).trans ((congrFun (fr_stI (by omega)) k).trans ((congrFun (fr_stI (by omega)) k).trans ((ff_stI hk20).trans ((congrFun (fr_X9_addsPart e90 (by omega)) k).trans ((ff_X9_goes e89 hk13 hk14 hk15 hk16).trans ((ff_X9_faults hk10 hk11).trans ((ff_X9_readNumber e82 hk10 hk11 hk13 hk14 hk15 hk16).trans ((ff_X9_goes e81 hk13 hk14 hk15 hk16).trans ((ff_X9_limits hk10 hk11).trans rfl))))))))))
          · cases h
            exact ((ff_X9_goes e89 hk13 hk14 hk15 hk16).trans ((ff_X9_faults hk10 hk11).trans ((ff_X9_readNumber e82 hk10 hk11 hk13 hk14 hk15 hk16).trans ((ff_X9_goes e81 hk13 hk14 hk15 hk16).trans ((ff_X9_limits hk10 hk11).trans rfl)))))
      · rcases if_e h with h | h
        · obtain ⟨I9, e95, h⟩ := bd_e h
          rcases if_e h with h | h
          · obtain ⟨I11, e96, h⟩ := bd_e h
            have h := lx_e h
            obtain ⟨g97, h⟩ := gd_e h
            have h := lx_e h
            obtain ⟨g98, h⟩ := gd_e h
            have h := lx_e h
            obtain ⟨g99, h⟩ := gd_e h
            obtain ⟨g100, h⟩ := gd_e h
            have h := lx_e h
            cases h
            exact ((congrFun (fr_stI (by omega)) k).trans ((congrFun (fr_stI (by omega)) k).trans ((congrFun (fr_stI (by omega)) k).trans ((ff_stI hk20).trans ((congrFun (fr_X9_addsPart e96 (by omega)) k).trans ((ff_X9_goes e95 hk13 hk14 hk15 hk16).trans ((ff_X9_goes e81 hk13 hk14 hk15 hk16).trans ((ff_X9_limits hk10 hk11).trans rfl))))))))
          · cases h
            exact ((ff_X9_goes e95 hk13 hk14 hk15 hk16).trans ((ff_X9_goes e81 hk13 hk14 hk15 hk16).trans ((ff_X9_limits hk10 hk11).trans rfl)))
        · have h := lx_e h
          obtain ⟨I21, e101, h⟩ := bd_e h
          rcases if_e h with h | h
          · obtain ⟨I23, e102, h⟩ := bd_e h
            have h := lx_e h
            obtain ⟨g103, h⟩ := gd_e h
            have h := lx_e h
            obtain ⟨g104, h⟩ := gd_e h
            have h := lx_e h
            obtain ⟨g105, h⟩ := gd_e h
            obtain ⟨g106, h⟩ := gd_e h
            have h := lx_e h
            cases h
            exact ((congrFun (fr_stI (by omega)) k).trans ((congrFun (fr_stI (by omega)) k).trans ((congrFun (fr_stI (by omega)) k).trans ((ff_stI hk20).trans ((congrFun (fr_X9_addsPart e102 (by omega)) k).trans ((ff_X9_goes e101 hk13 hk14 hk15 hk16).trans ((ff_X9_faults hk10 hk11).trans ((ff_X9_goes e81 hk13 hk14 hk15 hk16).trans ((ff_X9_limits hk10 hk11).trans rfl)))))))))
          · cases h
            exact ((ff_X9_goes e101 hk13 hk14 hk15 hk16).trans ((ff_X9_faults hk10 hk11).trans ((ff_X9_goes e81 hk13 hk14 hk15 hk16).trans ((ff_X9_limits hk10 hk11).trans rfl))))
