noncomputable def s_X4_add (I : JI) (u : Nat) (x1 : Int32) : JI :=
  if (Int32.ofNat 500) ≤ (I u 1) then I else (lx (ptI I (u + 1) 500 (I u 1) x1) fun I2 => lx (stI I2 u 1 ((I2 u 1) + 1)) fun I3 => I3)
set_option maxHeartbeats 4000000 in
theorem c_X4_add {Ω : JO} {I : JI} {S : JS} {Q : JQ} {u : Nat} {x1 : Int32} {J : JI} (hu : Is4 S u) (h : s_X4_add I u x1 = J) (hQ : Q (.inl none) J S) : Call Ω m_X4_add [.ref u, .int x1] I S Q := by
  refine call_of (by decide +kernel) rfl (Nat.le_of_ble_eq_true rfl) ?_
  change AA Ω m_X4_add (FQ Ω m_X4_add Q) 0 0 0 [(0, .ref u), (1, .int x1)] [] I S
  unfold s_X4_add at h
  refine r_aload_n (pc' := 1) dX4_add_0 rfl 0 rfl rfl ?_
  refine r_getI (pc' := 4) dX4_add_1 fa_X4_15 hu.o rfl rfl ?_
  refine r_aload_n (pc' := 5) dX4_add_4 rfl 0 rfl rfl ?_
  refine r_getO (pc' := 8) dX4_add_5 fa_X4_9 hu.o rfl hu.r0 rfl ?_
  refine r_alen (pc' := 9) dX4_add_8 hu.c0 (by decide) rfl rfl ?_
  refine r_icmp_ge (tgt := 34) (pc' := 12) dX4_add_9 rfl rfl (fun h1 => ?_) (fun h1 => ?_)
  · have h := ifp h1 h
    subst h
    exact r_ret dX4_add_34 rfl (by decide) (by decide) hQ
  · have h := ifn h1 h
    refine r_aload_n (pc' := 13) dX4_add_12 rfl 0 rfl rfl ?_
    refine r_getO (pc' := 16) dX4_add_13 fa_X4_9 hu.o rfl hu.r0 rfl ?_
    refine r_aload_n (pc' := 17) dX4_add_16 rfl 0 rfl rfl ?_
    refine r_getI (pc' := 20) dX4_add_17 fa_X4_15 hu.o rfl rfl ?_
    refine r_iload_n (pc' := 21) dX4_add_20 rfl 1 rfl rfl ?_
    refine r_callSN3 (pc' := 24) (k' := 0) (n' := 0) dX4_add_21 mb_X8_put ms_X8_put ln_X4_19 rfl rfl rfl (Nat.le_of_ble_eq_true rfl) rfl (c_X8_put hu.c0 (by decide) (cpV ?_))
    have h := lx_e h
    refine r_aload_n (pc' := 25) dX4_add_24 rfl 0 rfl rfl ?_
    refine r_dup (pc' := 26) dX4_add_25 rfl rfl ?_
    refine r_getI (pc' := 29) dX4_add_26 fa_X4_15 hu.o rfl rfl ?_
    refine r_iconst (pc' := 30) (v := 1) dX4_add_29 (by decide) rfl ?_
    refine r_iadd (pc' := 31) dX4_add_30 rfl ?_
    refine r_putI (pc' := 34) dX4_add_31 fa_X4_15 hu.o rfl rfl ?_
    have h := lx_e h
    subst h
    exact r_ret dX4_add_34 rfl (by decide) (by decide) hQ
set_option maxHeartbeats 4000000 in
theorem fr_X4_add {I : JI} {u : Nat} {x1 : Int32} {z : Nat} (hzu : z < u ∨ u + 2 ≤ z) : s_X4_add I u x1 z = I z := by
  generalize h : s_X4_add I u x1 = J
  unfold s_X4_add at h
  rcases if_e h with h | h
  · subst h
    exact rfl
  · have h := lx_e h
    have h := lx_e h
    subst h
    exact ((fr_stI (by omega)).trans ((fr_ptI (by omega)).trans rfl))
noncomputable def s_X4_addNumber (I : JI) (u : Nat) (x1 : Int32) : JI :=
  if x1 < 10 then (lx (s_X4_add I u (48 + (x1 - x1 / 10 * 10))) fun I2 => I2) else (lx (s_X4_add I u (48 + (x1 / 10))) fun I3 => lx (s_X4_add I3 u (48 + (x1 - x1 / 10 * 10))) fun I4 => I4)
set_option maxHeartbeats 4000000 in
theorem c_X4_addNumber {Ω : JO} {I : JI} {S : JS} {Q : JQ} {u : Nat} {x1 : Int32} {J : JI} (hu : Is4 S u) (h : s_X4_addNumber I u x1 = J) (hQ : Q (.inl none) J S) : Call Ω m_X4_addNumber [.ref u, .int x1] I S Q := by
  refine call_of (by decide +kernel) rfl (Nat.le_of_ble_eq_true rfl) ?_
  change AA Ω m_X4_addNumber (FQ Ω m_X4_addNumber Q) 0 0 0 [(0, .ref u), (1, .int x1)] [] I S
  unfold s_X4_addNumber at h
  refine r_iload_n (pc' := 1) dX4_addNumber_0 rfl 1 rfl rfl ?_
  refine r_bipush (pc' := 3) (v := 10) dX4_addNumber_1 (by decide) rfl ?_
  refine r_icmp_lt (tgt := 17) (pc' := 6) dX4_addNumber_3 rfl rfl (fun h1 => ?_) (fun h1 => ?_)
  · have h := ifp h1 h
    refine r_aload_n (pc' := 18) dX4_addNumber_17 rfl 0 rfl rfl ?_
    refine r_bipush (pc' := 20) (v := 48) dX4_addNumber_18 (by decide) rfl ?_
    refine r_iload_n (pc' := 21) dX4_addNumber_20 rfl 1 rfl rfl ?_
    refine r_bipush (pc' := 23) (v := 10) dX4_addNumber_21 (by decide) rfl ?_
    refine r_irem (pc' := 24) dX4_addNumber_23 (by decide) rfl ?_
    refine r_iadd (pc' := 25) dX4_addNumber_24 rfl ?_
    refine r_callV1 (pc' := 28) (k' := 0) (n' := 0) dX4_addNumber_25 mb_X4_add mi_X4_add hu.o (by decide) rfl lk_X4_28 rfl rfl rfl (Nat.le_of_ble_eq_true rfl) rfl (c_X4_add hu rfl (cpV ?_))
    have h := lx_e h
    subst h
    exact r_ret dX4_addNumber_28 rfl (by decide) (by decide) hQ
  · have h := ifn h1 h
    refine r_aload_n (pc' := 7) dX4_addNumber_6 rfl 0 rfl rfl ?_
    refine r_bipush (pc' := 9) (v := 48) dX4_addNumber_7 (by decide) rfl ?_
    refine r_iload_n (pc' := 10) dX4_addNumber_9 rfl 1 rfl rfl ?_
    refine r_bipush (pc' := 12) (v := 10) dX4_addNumber_10 (by decide) rfl ?_
    refine r_idiv (pc' := 13) dX4_addNumber_12 (by decide) rfl ?_
    refine r_iadd (pc' := 14) dX4_addNumber_13 rfl ?_
    refine r_callV1 (pc' := 17) (k' := 0) (n' := 0) dX4_addNumber_14 mb_X4_add mi_X4_add hu.o (by decide) rfl lk_X4_28 rfl rfl rfl (Nat.le_of_ble_eq_true rfl) rfl (c_X4_add hu rfl (cpV ?_))
    have h := lx_e h
    refine r_aload_n (pc' := 18) dX4_addNumber_17 rfl 0 rfl rfl ?_
    refine r_bipush (pc' := 20) (v := 48) dX4_addNumber_18 (by decide) rfl ?_
    refine r_iload_n (pc' := 21) dX4_addNumber_20 rfl 1 rfl rfl ?_
    refine r_bipush (pc' := 23) (v := 10) dX4_addNumber_21 (by decide) rfl ?_
    refine r_irem (pc' := 24) dX4_addNumber_23 (by decide) rfl ?_
    refine r_iadd (pc' := 25) dX4_addNumber_24 rfl ?_
    refine r_callV1 (pc' := 28) (k' := 0) (n' := 0) dX4_addNumber_25 mb_X4_add mi_X4_add hu.o (by decide) rfl lk_X4_28 rfl rfl rfl (Nat.le_of_ble_eq_true rfl) rfl (c_X4_add hu rfl (cpV ?_))
    have h := lx_e h
    subst h
    exact r_ret dX4_addNumber_28 rfl (by decide) (by decide) hQ
set_option maxHeartbeats 4000000 in
theorem fr_X4_addNumber {I : JI} {u : Nat} {x1 : Int32} {z : Nat} (hzu : z < u ∨ u + 2 ≤ z) : s_X4_addNumber I u x1 z = I z := by
  generalize h : s_X4_addNumber I u x1 = J
  unfold s_X4_addNumber at h
  rcases if_e h with h | h
  · have h := lx_e h
    subst h
    exact ((fr_X4_add (by omega)).trans rfl)
  · have h := lx_e h
    have h := lx_e h
    subst h
    exact ((fr_X4_add (by omega)).trans ((fr_X4_add (by omega)).trans rfl))
noncomputable def s_X4_addOpening (I : JI) (u : Nat) (x1 : Int32) : JI :=
  if x1 = 101 then (lx (s_X4_add I u 109) fun I8 => lx (s_X4_add I8 u 40) fun I9 => I9) else (if x1 = 102 then (lx (s_X4_add I u 98) fun I6 => lx (s_X4_add I6 u 40) fun I7 => I7) else (lx (s_X4_add I u 114) fun I3 => lx (s_X4_addNumber I3 u (x1 - 200)) fun I4 => lx (s_X4_add I4 u 40) fun I5 => I5))
set_option maxHeartbeats 4000000 in
theorem c_X4_addOpening {Ω : JO} {I : JI} {S : JS} {Q : JQ} {u : Nat} {x1 : Int32} {J : JI} (hu : Is4 S u) (h : s_X4_addOpening I u x1 = J) (hQ : Q (.inl none) J S) : Call Ω m_X4_addOpening [.ref u, .int x1] I S Q := by
  refine call_of (by decide +kernel) rfl (Nat.le_of_ble_eq_true rfl) ?_
  change AA Ω m_X4_addOpening (FQ Ω m_X4_addOpening Q) 0 0 0 [(0, .ref u), (1, .int x1)] [] I S
  unfold s_X4_addOpening at h
  refine r_iload_n (pc' := 1) dX4_addOpening_0 rfl 1 rfl rfl ?_
  refine r_bipush (pc' := 3) (v := 101) dX4_addOpening_1 (by decide) rfl ?_
  refine r_icmp_ne (tgt := 15) (pc' := 6) dX4_addOpening_3 rfl rfl (fun h1 => ?_) (fun h1 => ?_)
  · have h := ifn h1 h
    refine r_iload_n (pc' := 16) dX4_addOpening_15 rfl 1 rfl rfl ?_
    refine r_bipush (pc' := 18) (v := 102) dX4_addOpening_16 (by decide) rfl ?_
    refine r_icmp_ne (tgt := 30) (pc' := 21) dX4_addOpening_18 rfl rfl (fun h2 => ?_) (fun h2 => ?_)
    · have h := ifn h2 h
      refine r_aload_n (pc' := 31) dX4_addOpening_30 rfl 0 rfl rfl ?_
      refine r_bipush (pc' := 33) (v := 114) dX4_addOpening_31 (by decide) rfl ?_
      refine r_callV1 (pc' := 36) (k' := 0) (n' := 0) dX4_addOpening_33 mb_X4_add mi_X4_add hu.o (by decide) rfl lk_X4_28 rfl rfl rfl (Nat.le_of_ble_eq_true rfl) rfl (c_X4_add hu rfl (cpV ?_))
      have h := lx_e h
      refine r_aload_n (pc' := 37) dX4_addOpening_36 rfl 0 rfl rfl ?_
      refine r_iload_n (pc' := 38) dX4_addOpening_37 rfl 1 rfl rfl ?_
      refine r_sipush (pc' := 41) (v := 200) dX4_addOpening_38 (by decide) rfl ?_
      refine r_isub (pc' := 42) dX4_addOpening_41 rfl ?_
      refine r_callV1 (pc' := 45) (k' := 0) (n' := 0) dX4_addOpening_42 mb_X4_addNumber mi_X4_addNumber hu.o (by decide) rfl lk_X4_49 rfl rfl rfl (Nat.le_of_ble_eq_true rfl) rfl (c_X4_addNumber hu rfl (cpV ?_))
      have h := lx_e h
      refine r_aload_n (pc' := 46) dX4_addOpening_45 rfl 0 rfl rfl ?_
      refine r_bipush (pc' := 48) (v := 40) dX4_addOpening_46 (by decide) rfl ?_
      refine r_callV1 (pc' := 51) (k' := 0) (n' := 0) dX4_addOpening_48 mb_X4_add mi_X4_add hu.o (by decide) rfl lk_X4_28 rfl rfl rfl (Nat.le_of_ble_eq_true rfl) rfl (c_X4_add hu rfl (cpV ?_))
      have h := lx_e h
      subst h
      exact r_ret dX4_addOpening_51 rfl (by decide) (by decide) hQ
    · have h := ifp h2 h
      refine r_aload_n (pc' := 22) dX4_addOpening_21 rfl 0 rfl rfl ?_
      refine r_bipush (pc' := 24) (v := 98) dX4_addOpening_22 (by decide) rfl ?_
      refine r_callV1 (pc' := 27) (k' := 0) (n' := 0) dX4_addOpening_24 mb_X4_add mi_X4_add hu.o (by decide) rfl lk_X4_28 rfl rfl rfl (Nat.le_of_ble_eq_true rfl) rfl (c_X4_add hu rfl (cpV ?_))
      have h := lx_e h
      refine r_goto (tgt := 45) dX4_addOpening_27 rfl ?_
      refine r_aload_n (pc' := 46) dX4_addOpening_45 rfl 0 rfl rfl ?_
      refine r_bipush (pc' := 48) (v := 40) dX4_addOpening_46 (by decide) rfl ?_
      refine r_callV1 (pc' := 51) (k' := 0) (n' := 0) dX4_addOpening_48 mb_X4_add mi_X4_add hu.o (by decide) rfl lk_X4_28 rfl rfl rfl (Nat.le_of_ble_eq_true rfl) rfl (c_X4_add hu rfl (cpV ?_))
      have h := lx_e h
      subst h
      exact r_ret dX4_addOpening_51 rfl (by decide) (by decide) hQ
  · have h := ifp h1 h
    refine r_aload_n (pc' := 7) dX4_addOpening_6 rfl 0 rfl rfl ?_
    refine r_bipush (pc' := 9) (v := 109) dX4_addOpening_7 (by decide) rfl ?_
    refine r_callV1 (pc' := 12) (k' := 0) (n' := 0) dX4_addOpening_9 mb_X4_add mi_X4_add hu.o (by decide) rfl lk_X4_28 rfl rfl rfl (Nat.le_of_ble_eq_true rfl) rfl (c_X4_add hu rfl (cpV ?_))
    have h := lx_e h
    refine r_goto (tgt := 45) dX4_addOpening_12 rfl ?_
    refine r_aload_n (pc' := 46) dX4_addOpening_45 rfl 0 rfl rfl ?_
    refine r_bipush (pc' := 48) (v := 40) dX4_addOpening_46 (by decide) rfl ?_
    refine r_callV1 (pc' := 51) (k' := 0) (n' := 0) dX4_addOpening_48 mb_X4_add mi_X4_add hu.o (by decide) rfl lk_X4_28 rfl rfl rfl (Nat.le_of_ble_eq_true rfl) rfl (c_X4_add hu rfl (cpV ?_))
    have h := lx_e h
    subst h
    exact r_ret dX4_addOpening_51 rfl (by decide) (by decide) hQ
set_option maxHeartbeats 4000000 in
theorem fr_X4_addOpening {I : JI} {u : Nat} {x1 : Int32} {z : Nat} (hzu : z < u ∨ u + 2 ≤ z) : s_X4_addOpening I u x1 z = I z := by
  generalize h : s_X4_addOpening I u x1 = J
  unfold s_X4_addOpening at h
  rcases if_e h with h | h
  · have h := lx_e h
    have h := lx_e h
    subst h
    exact ((fr_X4_add (by omega)).trans ((fr_X4_add (by omega)).trans rfl))
  · rcases if_e h with h | h
    · have h := lx_e h
      have h := lx_e h
      subst h
      exact ((fr_X4_add (by omega)).trans ((fr_X4_add (by omega)).trans rfl))
    · have h := lx_e h
      have h := lx_e h
      have h := lx_e h
      subst h
      exact ((fr_X4_add (by omega)).trans ((fr_X4_addNumber (by omega)).trans ((fr_X4_add (by omega)).trans rfl)))
noncomputable def s_X4_addPart (I : JI) (u : Nat) (x1 : Int32) : JI :=
  if x1 = 100 then (lx (s_X4_add I u 41) fun I5 => I5) else (if (isOpB x1) = true then (lx (s_X4_addOpening I u x1) fun I4 => I4) else (lx (s_X4_addNumber I u x1) fun I3 => I3))
set_option maxHeartbeats 4000000 in
theorem c_X4_addPart {Ω : JO} {I : JI} {S : JS} {Q : JQ} {u : Nat} {x1 : Int32} {J : JI} (hu : Is4 S u) (h : s_X4_addPart I u x1 = J) (hQ : Q (.inl none) J S) : Call Ω m_X4_addPart [.ref u, .int x1] I S Q := by
  refine call_of (by decide +kernel) rfl (Nat.le_of_ble_eq_true rfl) ?_
  change AA Ω m_X4_addPart (FQ Ω m_X4_addPart Q) 0 0 0 [(0, .ref u), (1, .int x1)] [] I S
  unfold s_X4_addPart at h
  refine r_iload_n (pc' := 1) dX4_addPart_0 rfl 1 rfl rfl ?_
  refine r_bipush (pc' := 3) (v := 100) dX4_addPart_1 (by decide) rfl ?_
  refine r_icmp_ne (tgt := 15) (pc' := 6) dX4_addPart_3 rfl rfl (fun h1 => ?_) (fun h1 => ?_)
  · have h := ifn h1 h
    refine r_iload_n (pc' := 16) dX4_addPart_15 rfl 1 rfl rfl ?_
    refine r_callS1 (pc' := 19) (k' := 0) (n' := 0) dX4_addPart_16 mb_X0_isOpening ms_X0_isOpening lk_X4_42 rfl rfl rfl (Nat.le_of_ble_eq_true rfl) rfl (c_X0_isOpening  (cpI ?_))
    refine r_if_eq (tgt := 30) (pc' := 22) dX4_addPart_19 rfl rfl (fun h2 => ?_) (fun h2 => ?_)
    · have h := ifn (zb_n0 h2) h
      refine r_aload_n (pc' := 31) dX4_addPart_30 rfl 0 rfl rfl ?_
      refine r_iload_n (pc' := 32) dX4_addPart_31 rfl 1 rfl rfl ?_
      refine r_callV1 (pc' := 35) (k' := 0) (n' := 0) dX4_addPart_32 mb_X4_addNumber mi_X4_addNumber hu.o (by decide) rfl lk_X4_49 rfl rfl rfl (Nat.le_of_ble_eq_true rfl) rfl (c_X4_addNumber hu rfl (cpV ?_))
      have h := lx_e h
      subst h
      exact r_ret dX4_addPart_35 rfl (by decide) (by decide) hQ
    · have h := ifp (zb_p0 h2) h
      refine r_aload_n (pc' := 23) dX4_addPart_22 rfl 0 rfl rfl ?_
      refine r_iload_n (pc' := 24) dX4_addPart_23 rfl 1 rfl rfl ?_
      refine r_callV1 (pc' := 27) (k' := 0) (n' := 0) dX4_addPart_24 mb_X4_addOpening mi_X4_addOpening hu.o (by decide) rfl lk_X4_46 rfl rfl rfl (Nat.le_of_ble_eq_true rfl) rfl (c_X4_addOpening hu rfl (cpV ?_))
      have h := lx_e h
      refine r_goto (tgt := 35) dX4_addPart_27 rfl ?_
      subst h
      exact r_ret dX4_addPart_35 rfl (by decide) (by decide) hQ
  · have h := ifp h1 h
    refine r_aload_n (pc' := 7) dX4_addPart_6 rfl 0 rfl rfl ?_
    refine r_bipush (pc' := 9) (v := 41) dX4_addPart_7 (by decide) rfl ?_
    refine r_callV1 (pc' := 12) (k' := 0) (n' := 0) dX4_addPart_9 mb_X4_add mi_X4_add hu.o (by decide) rfl lk_X4_28 rfl rfl rfl (Nat.le_of_ble_eq_true rfl) rfl (c_X4_add hu rfl (cpV ?_))
    have h := lx_e h
    refine r_goto (tgt := 35) dX4_addPart_12 rfl ?_
    subst h
    exact r_ret dX4_addPart_35 rfl (by decide) (by decide) hQ
set_option maxHeartbeats 4000000 in
theorem fr_X4_addPart {I : JI} {u : Nat} {x1 : Int32} {z : Nat} (hzu : z < u ∨ u + 2 ≤ z) : s_X4_addPart I u x1 z = I z := by
  generalize h : s_X4_addPart I u x1 = J
  unfold s_X4_addPart at h
  rcases if_e h with h | h
  · have h := lx_e h
    subst h
    exact ((fr_X4_add (by omega)).trans rfl)
  · rcases if_e h with h | h
    · have h := lx_e h
      subst h
      exact ((fr_X4_addOpening (by omega)).trans rfl)
    · have h := lx_e h
      subst h
      exact ((fr_X4_addNumber (by omega)).trans rfl)
noncomputable def s_X4_addDeck_L17 (u d : Nat) : Nat → Bool → Int32 → JI → Option (Bool × Int32 × JI)
  | 0, _, _, _ => none
  | f + 1, w2, w3, I => if (I d 1) ≤ w3 then (some (w2, w3, I)) else (lx (atF (I (d + 1)) 500 w3) fun v3 => if w2 = true then (lx (s_X4_addPart I u v3) fun I5 => s_X4_addDeck_L17 u d f (isOpB v3) (w3 + 1) I5) else (if v3 = 100 then (lx (s_X4_addPart I u v3) fun I7 => s_X4_addDeck_L17 u d f (isOpB v3) (w3 + 1) I7) else (lx (s_X4_add I u 32) fun I8 => lx (s_X4_addPart I8 u v3) fun I9 => s_X4_addDeck_L17 u d f (isOpB v3) (w3 + 1) I9)))
noncomputable def s_X4_addDeck (I : JI) (u d : Nat) : Option (JI) :=
  if (I d 1) = 0 then (lx (s_X4_add I u 45) fun I14 => bd (s_X4_addDeck_L17 u d lf true 0 I14) fun (y15, y16, I17) => some I17) else (bd (s_X4_addDeck_L17 u d lf true 0 I) fun (y10, y11, I12) => some I12)
set_option maxHeartbeats 4000000 in
theorem l_X4_addDeck_L17 {Ω : JO} {S : JS} {Q : JQ} {u : Nat} {d : Nat} (hu : Is4 S u) (hd : Is0 S d) : ∀ (f : Nat) (w2 : Bool) (w3 : Int32) (I : JI) (o : (Bool × Int32 × JI)), s_X4_addDeck_L17 u d f w2 w3 I = some o → True → (∀ (y2 : Bool) (y3 : Int32) (J : JI) , o = (y2, y3, J) → AA Ω m_X4_addDeck (FQ Ω m_X4_addDeck Q) 0 0 70 [(2, .int (zb y2)), (3, .int y3), (0, .ref u), (1, .ref d)] [] J S) → AA Ω m_X4_addDeck (FQ Ω m_X4_addDeck Q) 0 0 17 [(2, .int (zb w2)), (3, .int w3), (0, .ref u), (1, .ref d)] [] I S := by
  intro f
  induction f with
  | zero =>
    intro w2 w3 I o h hR hE
    rw [s_X4_addDeck_L17] at h
    cases h
  | succ f ih =>
    intro w2 w3 I o h hR hE
    rw [s_X4_addDeck_L17] at h
    refine r_iload_n (pc' := 18) dX4_addDeck_17 rfl 1 rfl rfl ?_
    refine r_aload_n (pc' := 19) dX4_addDeck_18 rfl 3 rfl rfl ?_
    refine r_getI (pc' := 22) dX4_addDeck_19 fa_X4_23 hd.o rfl rfl ?_
    refine r_icmp_ge (tgt := 70) (pc' := 25) dX4_addDeck_22 rfl rfl (fun h2 => ?_) (fun h2 => ?_)
    · have h := ifp h2 h
      cases h
      exact hE _ _ _ rfl
    · have h := ifn h2 h
      refine r_aload_n (pc' := 26) dX4_addDeck_25 rfl 3 rfl rfl ?_
      refine r_getO (pc' := 29) dX4_addDeck_26 fa_X4_32 hd.o rfl hd.r0 rfl ?_
      refine r_iload_n (pc' := 30) dX4_addDeck_29 rfl 1 rfl rfl ?_
      refine r_callSN2 (pc' := 33) (k' := 0) (n' := 0) dX4_addDeck_30 mb_X8_at ms_X8_at ln_X4_35 rfl rfl rfl (Nat.le_of_ble_eq_true rfl) rfl (c_X8_at hd.c0 (by decide) (cpI ?_))
      refine r_istore (pc' := 35) (lv' := [(4, _), (2, _), (3, _), (0, _), (1, _)]) dX4_addDeck_33 (by decide) rfl rfl ?_
      have h := lx_e h
      refine r_iload_n (pc' := 36) dX4_addDeck_35 rfl 1 rfl rfl ?_
      refine r_if_ne (tgt := 52) (pc' := 39) dX4_addDeck_36 rfl rfl (fun h4 => ?_) (fun h4 => ?_)
      · have h := ifp (zb_p0 h4) h
        refine r_aload_n (pc' := 53) dX4_addDeck_52 rfl 3 rfl rfl ?_
        refine r_iload (pc' := 55) dX4_addDeck_53 0 rfl rfl ?_
        refine r_callV1 (pc' := 58) (k' := 0) (n' := 0) dX4_addDeck_55 mb_X4_addPart mi_X4_addPart hu.o (by decide) rfl lk_X4_39 rfl rfl rfl (Nat.le_of_ble_eq_true rfl) rfl (c_X4_addPart hu rfl (cpV ?_))
        have h := lx_e h
        refine r_iload (pc' := 60) dX4_addDeck_58 0 rfl rfl ?_
        refine r_callS1 (pc' := 63) (k' := 0) (n' := 0) dX4_addDeck_60 mb_X0_isOpening ms_X0_isOpening lk_X4_42 rfl rfl rfl (Nat.le_of_ble_eq_true rfl) rfl (c_X0_isOpening  (cpI ?_))
        refine r_istore_n (pc' := 64) (lv' := [(2, _), (4, _), (3, _), (0, _), (1, _)]) dX4_addDeck_63 rfl (by decide) rfl rfl ?_
        refine r_iinc (pc' := 67) (v := _ + 1) (lv' := [(3, _), (2, _), (4, _), (0, _), (1, _)]) dX4_addDeck_64 2 rfl rfl (by decide) rfl rfl ?_
        refine r_goto (tgt := 17) dX4_addDeck_67 rfl ?_
        refine aa_locs (ks := [1, 0, 3, 4]) (lv' := [(2, _), (3, _), (0, _), (1, _)]) rfl ?_
        exact ih _ _ _ _ h hR hE
      · have h := ifn (zb_n0 h4) h
        refine r_iload (pc' := 41) dX4_addDeck_39 0 rfl rfl ?_
        refine r_bipush (pc' := 43) (v := 100) dX4_addDeck_41 (by decide) rfl ?_
        refine r_icmp_eq (tgt := 52) (pc' := 46) dX4_addDeck_43 rfl rfl (fun h6 => ?_) (fun h6 => ?_)
        · have h := ifp h6 h
          refine r_aload_n (pc' := 53) dX4_addDeck_52 rfl 3 rfl rfl ?_
          refine r_iload (pc' := 55) dX4_addDeck_53 0 rfl rfl ?_
          refine r_callV1 (pc' := 58) (k' := 0) (n' := 0) dX4_addDeck_55 mb_X4_addPart mi_X4_addPart hu.o (by decide) rfl lk_X4_39 rfl rfl rfl (Nat.le_of_ble_eq_true rfl) rfl (c_X4_addPart hu rfl (cpV ?_))
          have h := lx_e h
          refine r_iload (pc' := 60) dX4_addDeck_58 0 rfl rfl ?_
          refine r_callS1 (pc' := 63) (k' := 0) (n' := 0) dX4_addDeck_60 mb_X0_isOpening ms_X0_isOpening lk_X4_42 rfl rfl rfl (Nat.le_of_ble_eq_true rfl) rfl (c_X0_isOpening  (cpI ?_))
          refine r_istore_n (pc' := 64) (lv' := [(2, _), (4, _), (3, _), (0, _), (1, _)]) dX4_addDeck_63 rfl (by decide) rfl rfl ?_
          refine r_iinc (pc' := 67) (v := _ + 1) (lv' := [(3, _), (2, _), (4, _), (0, _), (1, _)]) dX4_addDeck_64 2 rfl rfl (by decide) rfl rfl ?_
          refine r_goto (tgt := 17) dX4_addDeck_67 rfl ?_
          refine aa_locs (ks := [1, 0, 3, 4]) (lv' := [(2, _), (3, _), (0, _), (1, _)]) rfl ?_
          exact ih _ _ _ _ h hR hE
        · have h := ifn h6 h
          refine r_aload_n (pc' := 47) dX4_addDeck_46 rfl 3 rfl rfl ?_
          refine r_bipush (pc' := 49) (v := 32) dX4_addDeck_47 (by decide) rfl ?_
          refine r_callV1 (pc' := 52) (k' := 0) (n' := 0) dX4_addDeck_49 mb_X4_add mi_X4_add hu.o (by decide) rfl lk_X4_28 rfl rfl rfl (Nat.le_of_ble_eq_true rfl) rfl (c_X4_add hu rfl (cpV ?_))
          have h := lx_e h
          refine r_aload_n (pc' := 53) dX4_addDeck_52 rfl 3 rfl rfl ?_
          refine r_iload (pc' := 55) dX4_addDeck_53 0 rfl rfl ?_
          refine r_callV1 (pc' := 58) (k' := 0) (n' := 0) dX4_addDeck_55 mb_X4_addPart mi_X4_addPart hu.o (by decide) rfl lk_X4_39 rfl rfl rfl (Nat.le_of_ble_eq_true rfl) rfl (c_X4_addPart hu rfl (cpV ?_))
          have h := lx_e h
          refine r_iload (pc' := 60) dX4_addDeck_58 0 rfl rfl ?_
          refine r_callS1 (pc' := 63) (k' := 0) (n' := 0) dX4_addDeck_60 mb_X0_isOpening ms_X0_isOpening lk_X4_42 rfl rfl rfl (Nat.le_of_ble_eq_true rfl) rfl (c_X0_isOpening  (cpI ?_))
          refine r_istore_n (pc' := 64) (lv' := [(2, _), (4, _), (3, _), (0, _), (1, _)]) dX4_addDeck_63 rfl (by decide) rfl rfl ?_
          refine r_iinc (pc' := 67) (v := _ + 1) (lv' := [(3, _), (2, _), (4, _), (0, _), (1, _)]) dX4_addDeck_64 2 rfl rfl (by decide) rfl rfl ?_
          refine r_goto (tgt := 17) dX4_addDeck_67 rfl ?_
          refine aa_locs (ks := [1, 0, 3, 4]) (lv' := [(2, _), (3, _), (0, _), (1, _)]) rfl ?_
          exact ih _ _ _ _ h hR hE
set_option maxHeartbeats 4000000 in
theorem c_X4_addDeck {Ω : JO} {I : JI} {S : JS} {Q : JQ} {u : Nat} {d : Nat} {J : JI} (hu : Is4 S u) (hd : Is0 S d) (h : s_X4_addDeck I u d = some J) (hQ : Q (.inl none) J S) : Call Ω m_X4_addDeck [.ref u, .ref d] I S Q := by
  refine call_of (by decide +kernel) rfl (Nat.le_of_ble_eq_true rfl) ?_
  change AA Ω m_X4_addDeck (FQ Ω m_X4_addDeck Q) 0 0 0 [(0, .ref u), (1, .ref d)] [] I S
  unfold s_X4_addDeck at h
  refine r_aload_n (pc' := 1) dX4_addDeck_0 rfl 1 rfl rfl ?_
  refine r_getI (pc' := 4) dX4_addDeck_1 fa_X4_23 hd.o rfl rfl ?_
  refine r_if_ne (tgt := 13) (pc' := 7) dX4_addDeck_4 rfl rfl (fun h1 => ?_) (fun h1 => ?_)
  · have h := ifn h1 h
    refine r_iconst (pc' := 14) (v := 1) dX4_addDeck_13 (by decide) rfl ?_
    refine r_istore_n (pc' := 15) (lv' := [(2, _), (0, _), (1, _)]) dX4_addDeck_14 rfl (by decide) rfl rfl ?_
    refine r_iconst (pc' := 16) (v := 0) dX4_addDeck_15 (by decide) rfl ?_
    refine r_istore_n (pc' := 17) (lv' := [(3, _), (2, _), (0, _), (1, _)]) dX4_addDeck_16 rfl (by decide) rfl rfl ?_
    refine aa_locs (ks := [1, 0, 2, 3]) (lv' := [(2, _), (3, _), (0, _), (1, _)]) rfl ?_
    obtain ⟨o13, eo13, h⟩ := bd_e h
    refine l_X4_addDeck_L17 (Ω := Ω) hu hd _ true _ _ _ eo13 trivial (fun y10 y11 I12 q => ?_)
    subst q
    cases h
    exact r_ret dX4_addDeck_70 rfl (by decide) (by decide) hQ
  · have h := ifp h1 h
    refine r_aload_n (pc' := 8) dX4_addDeck_7 rfl 0 rfl rfl ?_
    refine r_bipush (pc' := 10) (v := 45) dX4_addDeck_8 (by decide) rfl ?_
    refine r_callV1 (pc' := 13) (k' := 0) (n' := 0) dX4_addDeck_10 mb_X4_add mi_X4_add hu.o (by decide) rfl lk_X4_28 rfl rfl rfl (Nat.le_of_ble_eq_true rfl) rfl (c_X4_add hu rfl (cpV ?_))
    have h := lx_e h
    refine r_iconst (pc' := 14) (v := 1) dX4_addDeck_13 (by decide) rfl ?_
    refine r_istore_n (pc' := 15) (lv' := [(2, _), (0, _), (1, _)]) dX4_addDeck_14 rfl (by decide) rfl rfl ?_
    refine r_iconst (pc' := 16) (v := 0) dX4_addDeck_15 (by decide) rfl ?_
    refine r_istore_n (pc' := 17) (lv' := [(3, _), (2, _), (0, _), (1, _)]) dX4_addDeck_16 rfl (by decide) rfl rfl ?_
    refine aa_locs (ks := [1, 0, 2, 3]) (lv' := [(2, _), (3, _), (0, _), (1, _)]) rfl ?_
    obtain ⟨o18, eo18, h⟩ := bd_e h
    refine l_X4_addDeck_L17 (Ω := Ω) hu hd _ true _ _ _ eo18 trivial (fun y15 y16 I17 q => ?_)
    subst q
    cases h
    exact r_ret dX4_addDeck_70 rfl (by decide) (by decide) hQ
theorem frl_X4_addDeck_L17 {u : Nat} {d : Nat} {z : Nat} (hzu : z < u ∨ u + 2 ≤ z) (hzd : z < d ∨ d + 5 ≤ z) : ∀ (f : Nat) (w2 : Bool) (w3 : Int32) (I : JI) (o : (Bool × Int32 × JI)), s_X4_addDeck_L17 u d f w2 w3 I = some o → (∀ (y2 : Bool) (y3 : Int32) (J : JI), o = (y2, y3, J) → J z = I z) := by
  intro f
  induction f with
  | zero =>
    intro w2 w3 I o h
    rw [s_X4_addDeck_L17] at h
    cases h
  | succ f ih =>
    intro w2 w3 I o h
    rw [s_X4_addDeck_L17] at h
    rcases if_e h with h | h
    · cases h
      intro _ _ _ q
      cases q
      exact rfl
    · have h := lx_e h
      rcases if_e h with h | h
      · have h := lx_e h
        intro _ _ _ q
        exact ((ih _ _ _ _ h) _ _ _ q).trans ((fr_X4_addPart (by omega)).trans rfl)
      · rcases if_e h with h | h
        · have h := lx_e h
          intro _ _ _ q
          exact ((ih _ _ _ _ h) _ _ _ q).trans ((fr_X4_addPart (by omega)).trans rfl)
        · have h := lx_e h
          have h := lx_e h
          intro _ _ _ q
          exact ((ih _ _ _ _ h) _ _ _ q).trans ((fr_X4_addPart (by omega)).trans ((fr_X4_add (by omega)).trans rfl))
set_option maxHeartbeats 4000000 in
theorem fr_X4_addDeck {I : JI} {u : Nat} {d : Nat} {J : JI} {z : Nat} (h : s_X4_addDeck I u d = some J) (hzu : z < u ∨ u + 2 ≤ z) (hzd : z < d ∨ d + 5 ≤ z) : J z = I z := by
  unfold s_X4_addDeck at h
  rcases if_e h with h | h
  · have h := lx_e h
    obtain ⟨o1, e1, h⟩ := bd_e h
    obtain ⟨y15, y16, I17⟩ := o1
    cases h
    exact (((frl_X4_addDeck_L17 hzu hzd _ _ _ _ _ e1) _ _ _ rfl).trans ((fr_X4_add (by omega)).trans rfl))
  · obtain ⟨o2, e2, h⟩ := bd_e h
    obtain ⟨y10, y11, I12⟩ := o2
    cases h
    exact (((frl_X4_addDeck_L17 hzu hzd _ _ _ _ _ e2) _ _ _ rfl).trans rfl)
