noncomputable def s_X1_forgetAll (I : JI) (j : Nat) : JI :=
  lx (stI I j 2 0) fun I1 => I1
set_option maxHeartbeats 4000000 in
theorem c_X1_forgetAll {Ω : JO} {I : JI} {S : JS} {Q : JQ} {j : Nat} {J : JI} (hj : Is1 S j) (h : s_X1_forgetAll I j = J) (hQ : Q (.inl none) J S) : Call Ω m_X1_forgetAll [.ref j] I S Q := by
  refine call_of (by decide +kernel) rfl (Nat.le_of_ble_eq_true rfl) ?_
  change AA Ω m_X1_forgetAll (FQ Ω m_X1_forgetAll Q) 0 0 0 [(0, .ref j)] [] I S
  unfold s_X1_forgetAll at h
  refine r_aload_n (pc' := 1) dX1_forgetAll_0 rfl 0 rfl rfl ?_
  refine r_iconst (pc' := 2) (v := 0) dX1_forgetAll_1 (by decide) rfl ?_
  refine r_putI (pc' := 5) dX1_forgetAll_2 fa_X1_21 hj.o rfl rfl ?_
  have h := lx_e h
  subst h
  exact r_ret dX1_forgetAll_5 rfl (by decide) (by decide) hQ
set_option maxHeartbeats 4000000 in
theorem fr_X1_forgetAll {I : JI} {j : Nat} {z : Nat} (hzj : z < j ∨ j + 58 ≤ z) : s_X1_forgetAll I j z = I z := by
  generalize h : s_X1_forgetAll I j = J
  unfold s_X1_forgetAll at h
  have h := lx_e h
  subst h
  exact ((fr_stI (by omega)).trans rfl)
noncomputable def s_X1_remember (I : JI) (j s : Nat) : Option (JI) :=
  gd (vp_in (I j 1) 8) <| gd (I s 5 = 0 ∨ I s 5 = 1) <| lx (x7_copyFrom I (j + 2 + 7 * (Int32.toNatClampNeg (I j 1))) s) fun I3 => lx (stI I3 j 1 (((I3 j 1) + 1) - ((I3 j 1) + 1) / 8 * 8)) fun I4 => lx (stI I4 j 2 (mnF ((I4 j 2) + 1) 8)) fun I5 => some I5
set_option maxHeartbeats 4000000 in
theorem c_X1_remember {Ω : JO} {I : JI} {S : JS} {Q : JQ} {j : Nat} {s : Nat} {J : JI} (hj : Is1 S j) (hs : Is7 S s) (h : s_X1_remember I j s = some J) (hQ : Q (.inl none) J S) : Call Ω m_X1_remember [.ref j, .ref s] I S Q := by
  refine call_of (by decide +kernel) rfl (Nat.le_of_ble_eq_true rfl) ?_
  change AA Ω m_X1_remember (FQ Ω m_X1_remember Q) 0 0 0 [(0, .ref j), (1, .ref s)] [] I S
  unfold s_X1_remember at h
  refine r_aload_n (pc' := 1) dX1_remember_0 rfl 0 rfl rfl ?_
  refine r_aload_n (pc' := 2) dX1_remember_1 rfl 0 rfl rfl ?_
  refine r_getI (pc' := 5) dX1_remember_2 fa_X1_17 hj.o rfl rfl ?_
  obtain ⟨g1, h⟩ := gd_e h
  refine r_callV1 (pc' := 8) (k' := 0) (n' := 0) dX1_remember_5 mb_X1_stateAt mi_X1_stateAt hj.o (by decide) rfl lk_X1_25 rfl rfl rfl (Nat.le_of_ble_eq_true rfl) rfl (c_X1_stateAt hj g1 (cpR ?_))
  refine r_astore_n (pc' := 9) (lv' := [(2, _), (0, _), (1, _)]) dX1_remember_8 rfl (by decide) rfl rfl ?_
  refine r_aload_n (pc' := 10) dX1_remember_9 rfl 0 rfl rfl ?_
  refine r_nonnull (tgt := 14) dX1_remember_10 rfl ?_
  refine r_aload_n (pc' := 15) dX1_remember_14 rfl 0 rfl rfl ?_
  refine r_aload_n (pc' := 16) dX1_remember_15 rfl 2 rfl rfl ?_
  obtain ⟨g2, h⟩ := gd_e h
  refine r_callV1 (pc' := 19) (k' := 0) (n' := 0) dX1_remember_16 mb_X7_copyFrom mi_X7_copyFrom (hj.at (in_lt g1)).2.o (by decide) rfl lk_X1_29 rfl rfl rfl (Nat.le_of_ble_eq_true rfl) rfl (c_X7_copyFrom g2 (hj.at (in_lt g1)).2 hs (cpV ?_))
  have h := lx_e h
  refine r_aload_n (pc' := 20) dX1_remember_19 rfl 1 rfl rfl ?_
  refine r_aload_n (pc' := 21) dX1_remember_20 rfl 1 rfl rfl ?_
  refine r_getI (pc' := 24) dX1_remember_21 fa_X1_17 hj.o rfl rfl ?_
  refine r_iconst (pc' := 25) (v := 1) dX1_remember_24 (by decide) rfl ?_
  refine r_iadd (pc' := 26) dX1_remember_25 rfl ?_
  refine r_bipush (pc' := 28) (v := 8) dX1_remember_26 (by decide) rfl ?_
  refine r_irem (pc' := 29) dX1_remember_28 (by decide) rfl ?_
  refine r_putI (pc' := 32) dX1_remember_29 fa_X1_17 hj.o rfl rfl ?_
  have h := lx_e h
  refine r_aload_n (pc' := 33) dX1_remember_32 rfl 1 rfl rfl ?_
  refine r_aload_n (pc' := 34) dX1_remember_33 rfl 1 rfl rfl ?_
  refine r_getI (pc' := 37) dX1_remember_34 fa_X1_21 hj.o rfl rfl ?_
  refine r_iconst (pc' := 38) (v := 1) dX1_remember_37 (by decide) rfl ?_
  refine r_iadd (pc' := 39) dX1_remember_38 rfl ?_
  refine r_bipush (pc' := 41) (v := 8) dX1_remember_39 (by decide) rfl ?_
  refine r_mmin (pc' := 44) dX1_remember_41 mw_X1_33 (by decide) (Nat.le_of_ble_eq_true rfl) (by decide) (by decide) rfl ?_
  refine r_putI (pc' := 47) dX1_remember_44 fa_X1_21 hj.o rfl rfl ?_
  have h := lx_e h
  cases h
  exact r_ret dX1_remember_47 rfl (by decide) (by decide) hQ
set_option maxHeartbeats 4000000 in
theorem fr_X1_remember {I : JI} {j : Nat} {s : Nat} {J : JI} {z : Nat} (h : s_X1_remember I j s = some J) (hzj : z < j ∨ j + 58 ≤ z) (hzs : z < s ∨ s + 7 ≤ z) : J z = I z := by
  unfold s_X1_remember at h
  obtain ⟨g1, h⟩ := gd_e h
  have q1 := in_lt g1
  obtain ⟨g2, h⟩ := gd_e h
  have h := lx_e h
  have h := lx_e h
  have h := lx_e h
  cases h
  exact ((fr_stI (by omega)).trans ((fr_stI (by omega)).trans ((fr_x7_copyFrom (by omega)).trans rfl)))
