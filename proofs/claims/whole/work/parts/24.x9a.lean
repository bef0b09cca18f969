noncomputable def s_X9_thrown (I : JI) (m : Nat) : Int32 :=
  (I m 0)
set_option maxHeartbeats 4000000 in
theorem c_X9_thrown {Ω : JO} {I : JI} {S : JS} {Q : JQ} {m : Nat} {r : Int32} (hm : Is9 S m) (h : s_X9_thrown I m = r) (hQ : Q (.inl (some (.int r))) I S) : Call Ω m_X9_thrown [.ref m] I S Q := by
  refine call_of (by decide +kernel) rfl (Nat.le_of_ble_eq_true rfl) ?_
  change AA Ω m_X9_thrown (FQ Ω m_X9_thrown Q) 0 0 0 [(0, .ref m)] [] I S
  unfold s_X9_thrown at h
  refine r_aload_n (pc' := 1) dX9_thrown_0 rfl 0 rfl rfl ?_
  refine r_getI (pc' := 4) dX9_thrown_1 fa_X9_46 hm.o rfl rfl ?_
  subst h
  exact r_iret dX9_thrown_4 rfl (by decide) (by decide) hQ
noncomputable def s_X9_in (x0 : Int32) (x1 : Int32) (x2 : Int32) : Bool :=
  if x0 < x1 then false else (if x2 < x0 then false else true)
set_option maxHeartbeats 4000000 in
theorem c_X9_in {Ω : JO} {I : JI} {S : JS} {Q : JQ} {x0 : Int32} {x1 : Int32} {x2 : Int32} {r : Bool} (h : s_X9_in x0 x1 x2 = r) (hQ : Q (.inl (some (.int (zb r)))) I S) : Call Ω m_X9_in [.int x0, .int x1, .int x2] I S Q := by
  refine call_of (by decide +kernel) rfl (Nat.le_of_ble_eq_true rfl) ?_
  change AA Ω m_X9_in (FQ Ω m_X9_in Q) 0 0 0 [(0, .int x0), (1, .int x1), (2, .int x2)] [] I S
  unfold s_X9_in at h
  refine r_iload_n (pc' := 1) dX9_in_0 rfl 1 rfl rfl ?_
  refine r_iload_n (pc' := 2) dX9_in_1 rfl 0 rfl rfl ?_
  refine r_icmp_gt (tgt := 14) (pc' := 5) dX9_in_2 rfl rfl (fun h1 => ?_) (fun h1 => ?_)
  · have h := ifp h1 h
    refine r_iconst (pc' := 15) (v := 0) dX9_in_14 (by decide) rfl ?_
    subst h
    exact r_zret dX9_in_15 rfl (by decide) (by decide) (by decide) hQ
  · have h := ifn h1 h
    refine r_iload_n (pc' := 6) dX9_in_5 rfl 0 rfl rfl ?_
    refine r_iload_n (pc' := 7) dX9_in_6 rfl 2 rfl rfl ?_
    refine r_icmp_gt (tgt := 14) (pc' := 10) dX9_in_7 rfl rfl (fun h2 => ?_) (fun h2 => ?_)
    · have h := ifp h2 h
      refine r_iconst (pc' := 15) (v := 0) dX9_in_14 (by decide) rfl ?_
      subst h
      exact r_zret dX9_in_15 rfl (by decide) (by decide) (by decide) hQ
    · have h := ifn h2 h
      refine r_iconst (pc' := 11) (v := 1) dX9_in_10 (by decide) rfl ?_
      refine r_goto (tgt := 15) dX9_in_11 rfl ?_
      subst h
      exact r_zret dX9_in_15 rfl (by decide) (by decide) (by decide) hQ
noncomputable def s_X9_one (b0 : Bool) : Int32 :=
  if b0 = true then 1 else 0
set_option maxHeartbeats 4000000 in
theorem c_X9_one {Ω : JO} {I : JI} {S : JS} {Q : JQ} {b0 : Bool} {r : Int32} (h : s_X9_one b0 = r) (hQ : Q (.inl (some (.int r))) I S) : Call Ω m_X9_one [.int (zb b0)] I S Q := by
  refine call_of (by decide +kernel) rfl (Nat.le_of_ble_eq_true rfl) ?_
  change AA Ω m_X9_one (FQ Ω m_X9_one Q) 0 0 0 [(0, .int (zb b0))] [] I S
  unfold s_X9_one at h
  refine r_iload_n (pc' := 1) dX9_one_0 rfl 0 rfl rfl ?_
  refine r_if_eq (tgt := 8) (pc' := 4) dX9_one_1 rfl rfl (fun h1 => ?_) (fun h1 => ?_)
  · have h := ifn (zb_n0 h1) h
    refine r_iconst (pc' := 9) (v := 0) dX9_one_8 (by decide) rfl ?_
    subst h
    exact r_iret dX9_one_9 rfl (by decide) (by decide) hQ
  · have h := ifp (zb_p0 h1) h
    refine r_iconst (pc' := 5) (v := 1) dX9_one_4 (by decide) rfl ?_
    refine r_goto (tgt := 9) dX9_one_5 rfl ?_
    subst h
    exact r_iret dX9_one_9 rfl (by decide) (by decide) hQ
noncomputable def s_X9_has (x0 : Int32) (x1 : Int32) : Bool :=
  if (((x0 : Int32) >>> (x1 &&& 31)) &&& 1) = 1 then true else false
set_option maxHeartbeats 4000000 in
theorem c_X9_has {Ω : JO} {I : JI} {S : JS} {Q : JQ} {x0 : Int32} {x1 : Int32} {r : Bool} (h : s_X9_has x0 x1 = r) (hQ : Q (.inl (some (.int (zb r)))) I S) : Call Ω m_X9_has [.int x0, .int x1] I S Q := by
  refine call_of (by decide +kernel) rfl (Nat.le_of_ble_eq_true rfl) ?_
  change AA Ω m_X9_has (FQ Ω m_X9_has Q) 0 0 0 [(0, .int x0), (1, .int x1)] [] I S
  unfold s_X9_has at h
  refine r_iload_n (pc' := 1) dX9_has_0 rfl 0 rfl rfl ?_
  refine r_iload_n (pc' := 2) dX9_has_1 rfl 1 rfl rfl ?_
  refine r_ishr (pc' := 3) dX9_has_2 rfl ?_
  refine r_iconst (pc' := 4) (v := 1) dX9_has_3 (by decide) rfl ?_
  refine r_iand (pc' := 5) dX9_has_4 rfl ?_
  refine r_iconst (pc' := 6) (v := 1) dX9_has_5 (by decide) rfl ?_
  refine r_icmp_ne (tgt := 13) (pc' := 9) dX9_has_6 rfl rfl (fun h1 => ?_) (fun h1 => ?_)
  · have h := ifn h1 h
    refine r_iconst (pc' := 14) (v := 0) dX9_has_13 (by decide) rfl ?_
    subst h
    exact r_zret dX9_has_14 rfl (by decide) (by decide) (by decide) hQ
  · have h := ifp h1 h
    refine r_iconst (pc' := 10) (v := 1) dX9_has_9 (by decide) rfl ?_
    refine r_goto (tgt := 14) dX9_has_10 rfl ?_
    subst h
    exact r_zret dX9_has_14 rfl (by decide) (by decide) (by decide) hQ
noncomputable def s_X9_may (I : JI) (m : Nat) (b1 : Bool) (b2 : Bool) (b3 : Bool) : Option (Bool × JI) :=
  if b1 = true then (if b2 = true then (if b3 = true then (lx (stI I m 0 0) fun I6 => if (I6 m 0) = 0 then (some (true, I6)) else (some (false, I6))) else (lx (stI I m 0 3) fun I4 => if (I4 m 0) = 0 then (some (true, I4)) else (some (false, I4)))) else (lx (stI I m 0 2) fun I8 => if (I8 m 0) = 0 then (some (true, I8)) else (some (false, I8)))) else (lx (stI I m 0 1) fun I10 => if (I10 m 0) = 0 then (some (true, I10)) else (some (false, I10)))
set_option maxHeartbeats 4000000 in
theorem c_X9_may {Ω : JO} {I : JI} {S : JS} {Q : JQ} {m : Nat} {b1 : Bool} {b2 : Bool} {b3 : Bool} {r : Bool} {J : JI} (hm : Is9 S m) (h : s_X9_may I m b1 b2 b3 = some (r, J)) (hQ : Q (.inl (some (.int (zb r)))) J S) : Call Ω m_X9_may [.ref m, .int (zb b1), .int (zb b2), .int (zb b3)] I S Q := by
  refine call_of (by decide +kernel) rfl (Nat.le_of_ble_eq_true rfl) ?_
  change AA Ω m_X9_may (FQ Ω m_X9_may Q) 0 0 0 [(0, .ref m), (1, .int (zb b1)), (2, .int (zb b2)), (3, .int (zb b3))] [] I S
  unfold s_X9_may at h
  refine r_aload_n (pc' := 1) dX9_may_0 rfl 0 rfl rfl ?_
  refine r_iload_n (pc' := 2) dX9_may_1 rfl 1 rfl rfl ?_
  refine r_if_ne (tgt := 9) (pc' := 5) dX9_may_2 rfl rfl (fun h1 => ?_) (fun h1 => ?_)
  · have h := ifp (zb_p0 h1) h
    refine r_iload_n (pc' := 10) dX9_may_9 rfl 2 rfl rfl ?_
    refine r_if_ne (tgt := 17) (pc' := 13) dX9_may_10 rfl rfl (fun h2 => ?_) (fun h2 => ?_)
    · have h := ifp (zb_p0 h2) h
      refine r_iload_n (pc' := 18) dX9_may_17 rfl 3 rfl rfl ?_
      refine r_if_eq (tgt := 25) (pc' := 21) dX9_may_18 rfl rfl (fun h3 => ?_) (fun h3 => ?_)
      · have h := ifn (zb_n0 h3) h
        refine r_iconst (pc' := 26) (v := 3) dX9_may_25 (by decide) rfl ?_
        refine r_putI (pc' := 29) dX9_may_26 fa_X9_46 hm.o rfl rfl ?_
        have h := lx_e h
        refine r_aload_n (pc' := 30) dX9_may_29 rfl 0 rfl rfl ?_
        refine r_getI (pc' := 33) dX9_may_30 fa_X9_46 hm.o rfl rfl ?_
        refine r_if_ne (tgt := 40) (pc' := 36) dX9_may_33 rfl rfl (fun h5 => ?_) (fun h5 => ?_)
        · have h := ifn h5 h
          refine r_iconst (pc' := 41) (v := 0) dX9_may_40 (by decide) rfl ?_
          cases h
          exact r_zret dX9_may_41 rfl (by decide) (by decide) (by decide) hQ
        · have h := ifp h5 h
          refine r_iconst (pc' := 37) (v := 1) dX9_may_36 (by decide) rfl ?_
          refine r_goto (tgt := 41) dX9_may_37 rfl ?_
          cases h
          exact r_zret dX9_may_41 rfl (by decide) (by decide) (by decide) hQ
      · have h := ifp (zb_p0 h3) h
        refine r_iconst (pc' := 22) (v := 0) dX9_may_21 (by decide) rfl ?_
        refine r_goto (tgt := 26) dX9_may_22 rfl ?_
        refine r_putI (pc' := 29) dX9_may_26 fa_X9_46 hm.o rfl rfl ?_
        have h := lx_e h
        refine r_aload_n (pc' := 30) dX9_may_29 rfl 0 rfl rfl ?_
        refine r_getI (pc' := 33) dX9_may_30 fa_X9_46 hm.o rfl rfl ?_
        refine r_if_ne (tgt := 40) (pc' := 36) dX9_may_33 rfl rfl (fun h7 => ?_) (fun h7 => ?_)
        · have h := ifn h7 h
          refine r_iconst (pc' := 41) (v := 0) dX9_may_40 (by decide) rfl ?_
          cases h
          exact r_zret dX9_may_41 rfl (by decide) (by decide) (by decide) hQ
        · have h := ifp h7 h
          refine r_iconst (pc' := 37) (v := 1) dX9_may_36 (by decide) rfl ?_
          refine r_goto (tgt := 41) dX9_may_37 rfl ?_
          cases h
          exact r_zret dX9_may_41 rfl (by decide) (by decide) (by decide) hQ
    · have h := ifn (zb_n0 h2) h
      refine r_iconst (pc' := 14) (v := 2) dX9_may_13 (by decide) rfl ?_
      refine r_goto (tgt := 26) dX9_may_14 rfl ?_
      refine r_putI (pc' := 29) dX9_may_26 fa_X9_46 hm.o rfl rfl ?_
      have h := lx_e h
      refine r_aload_n (pc' := 30) dX9_may_29 rfl 0 rfl rfl ?_
      refine r_getI (pc' := 33) dX9_may_30 fa_X9_46 hm.o rfl rfl ?_
      refine r_if_ne (tgt := 40) (pc' := 36) dX9_may_33 rfl rfl (fun h9 => ?_) (fun h9 => ?_)
      · have h := ifn h9 h
        refine r_iconst (pc' := 41) (v := 0) dX9_may_40 (by decide) rfl ?_
        cases h
        exact r_zret dX9_may_41 rfl (by decide) (by decide) (by decide) hQ
      · have h := ifp h9 h
        refine r_iconst (pc' := 37) (v := 1) dX9_may_36 (by decide) rfl ?_
        refine r_goto (tgt := 41) dX9_may_37 rfl ?_
        cases h
        exact r_zret dX9_may_41 rfl (by decide) (by decide) (by decide) hQ
  · have h := ifn (zb_n0 h1) h
    refine r_iconst (pc' := 6) (v := 1) dX9_may_5 (by decide) rfl ?_
    refine r_goto (tgt := 26) dX9_may_6 rfl ?_
    refine r_putI (pc' := 29) dX9_may_26 fa_X9_46 hm.o rfl rfl ?_
    have h := lx_e h
    refine r_aload_n (pc' := 30) dX9_may_29 rfl 0 rfl rfl ?_
    refine r_getI (pc' := 33) dX9_may_30 fa_X9_46 hm.o rfl rfl ?_
    refine r_if_ne (tgt := 40) (pc' := 36) dX9_may_33 rfl rfl (fun h11 => ?_) (fun h11 => ?_)
    · have h := ifn h11 h
      refine r_iconst (pc' := 41) (v := 0) dX9_may_40 (by decide) rfl ?_
      cases h
      exact r_zret dX9_may_41 rfl (by decide) (by decide) (by decide) hQ
    · have h := ifp h11 h
      refine r_iconst (pc' := 37) (v := 1) dX9_may_36 (by decide) rfl ?_
      refine r_goto (tgt := 41) dX9_may_37 rfl ?_
      cases h
      exact r_zret dX9_may_41 rfl (by decide) (by decide) (by decide) hQ
set_option maxHeartbeats 4000000 in
theorem fr_X9_may {I : JI} {m : Nat} {b1 : Bool} {b2 : Bool} {b3 : Bool} {r : Bool} {J : JI} {z : Nat} (h : s_X9_may I m b1 b2 b3 = some (r, J)) (hz_m : z ≠ m) : J z = I z := by
  unfold s_X9_may at h
  rcases if_e h with h | h
  · rcases if_e h with h | h
    · rcases if_e h with h | h
      · have h := lx_e h
        rcases if_e h with h | h
        · cases h
          exact ((fr_stI (by omega)).trans rfl)
        · cases h
          exact ((fr_stI (by omega)).trans rfl)
      · have h := lx_e h
        rcases if_e h with h | h
        · cases h
          exact ((fr_stI (by omega)).trans rfl)
        · cases h
          exact ((fr_stI (by omega)).trans rfl)
    · have h := lx_e h
      rcases if_e h with h | h
      · cases h
        exact ((fr_stI (by omega)).trans rfl)
      · cases h
        exact ((fr_stI (by omega)).trans rfl)
  · have h := lx_e h
    rcases if_e h with h | h
    · cases h
      exact ((fr_stI (by omega)).trans rfl)
    · cases h
      exact ((fr_stI (by omega)).trans rfl)
set_option maxHeartbeats 4000000 in
theorem ff_X9_may {I : JI} {m : Nat} {b1 : Bool} {b2 : Bool} {b3 : Bool} {r : Bool} {J : JI} {k : Nat} (h : s_X9_may I m b1 b2 b3 = some (r, J)) (hk0 : k ≠ 0) : J m k = I m k := by
  unfold s_X9_may at h
  rcases if_e h with h | h
  · rcases if_e h with h | h
    · rcases if_e h with h | h
      · have h := lx_e h
        rcases if_e h with h | h
        · cases h
          exact ((ff_stI hk0).trans rfl)
        · cases h
          exact ((ff_stI hk0).trans rfl)
      · have h := lx_e h
        rcases if_e h with h | h
        · cases h
          exact ((ff_stI hk0).trans rfl)
        · cases h
          exact ((ff_stI hk0).trans rfl)
    · have h := lx_e h
      rcases if_e h with h | h
      · cases h
        exact ((ff_stI hk0).trans rfl)
      · cases h
        exact ((ff_stI hk0).trans rfl)
  · have h := lx_e h
    rcases if_e h with h | h
    · cases h
      exact ((ff_stI hk0).trans rfl)
    · cases h
      exact ((ff_stI hk0).trans rfl)
noncomputable def s_X9_mayTwo (I : JI) (m : Nat) (b1 : Bool) (b2 : Bool) : Option (Bool × JI) :=
  bd2 (s_X9_may I m b1 b2 true) fun z2 I1 => some (z2, I1)
set_option maxHeartbeats 4000000 in
theorem c_X9_mayTwo {Ω : JO} {I : JI} {S : JS} {Q : JQ} {m : Nat} {b1 : Bool} {b2 : Bool} {r : Bool} {J : JI} (hm : Is9 S m) (h : s_X9_mayTwo I m b1 b2 = some (r, J)) (hQ : Q (.inl (some (.int (zb r)))) J S) : Call Ω m_X9_mayTwo [.ref m, .int (zb b1), .int (zb b2)] I S Q := by
  refine call_of (by decide +kernel) rfl (Nat.le_of_ble_eq_true rfl) ?_
  change AA Ω m_X9_mayTwo (FQ Ω m_X9_mayTwo Q) 0 0 0 [(0, .ref m), (1, .int (zb b1)), (2, .int (zb b2))] [] I S
  unfold s_X9_mayTwo at h
  refine r_aload_n (pc' := 1) dX9_mayTwo_0 rfl 0 rfl rfl ?_
  refine r_iload_n (pc' := 2) dX9_mayTwo_1 rfl 1 rfl rfl ?_
  refine r_iload_n (pc' := 3) dX9_mayTwo_2 rfl 2 rfl rfl ?_
  refine r_iconst (pc' := 4) (v := 1) dX9_mayTwo_3 (by decide) rfl ?_
  obtain ⟨z2, I1, ez2, h⟩ := bd2_e h
  refine r_callV3 (pc' := 7) (k' := 0) (n' := 0) dX9_mayTwo_4 mb_X9_may mi_X9_may hm.o (by decide) rfl lk_X9_49 rfl rfl rfl (Nat.le_of_ble_eq_true rfl) rfl (c_X9_may (b3 := true) hm ez2 (cpI ?_))
  cases h
  exact r_zret dX9_mayTwo_7 rfl (zb01 _) (by decide) (by decide) hQ
set_option maxHeartbeats 4000000 in
theorem fr_X9_mayTwo {I : JI} {m : Nat} {b1 : Bool} {b2 : Bool} {r : Bool} {J : JI} {z : Nat} (h : s_X9_mayTwo I m b1 b2 = some (r, J)) (hz_m : z ≠ m) : J z = I z := by
  unfold s_X9_mayTwo at h
  obtain ⟨z2, I1, e1, h⟩ := bd2_e h
  cases h
  exact ((fr_X9_may e1 (by omega)).trans rfl)
set_option maxHeartbeats 4000000 in
theorem ff_X9_mayTwo {I : JI} {m : Nat} {b1 : Bool} {b2 : Bool} {r : Bool} {J : JI} {k : Nat} (h : s_X9_mayTwo I m b1 b2 = some (r, J)) (hk0 : k ≠ 0) : J m k = I m k := by
  unfold s_X9_mayTwo at h
  obtain ⟨z2, I1, e1, h⟩ := bd2_e h
  cases h
  exact ((ff_X9_may e1 hk0).trans rfl)
noncomputable def s_X9_mayLook (I : JI) (m : Nat) : Option (Bool × JI) :=
  gd ((I m 6) = 0 ∨ (I m 6) = 1) <| bd2 (s_X9_may I m (nz (I m 6)) true true) fun z3 I2 => some (z3, I2)
set_option maxHeartbeats 4000000 in
theorem c_X9_mayLook {Ω : JO} {I : JI} {S : JS} {Q : JQ} {m : Nat} {r : Bool} {J : JI} (hm : Is9 S m) (h : s_X9_mayLook I m = some (r, J)) (hQ : Q (.inl (some (.int (zb r)))) J S) : Call Ω m_X9_mayLook [.ref m] I S Q := by
  refine call_of (by decide +kernel) rfl (Nat.le_of_ble_eq_true rfl) ?_
  change AA Ω m_X9_mayLook (FQ Ω m_X9_mayLook Q) 0 0 0 [(0, .ref m)] [] I S
  unfold s_X9_mayLook at h
  refine r_aload_n (pc' := 1) dX9_mayLook_0 rfl 0 rfl rfl ?_
  refine r_aload_n (pc' := 2) dX9_mayLook_1 rfl 0 rfl rfl ?_
  obtain ⟨g1, h⟩ := gd_e h
  refine r_getZ (pc' := 5) dX9_mayLook_2 fa_X9_53 hm.o rfl g1 rfl ?_
  refine r_iconst (pc' := 6) (v := 1) dX9_mayLook_5 (by decide) rfl ?_
  refine r_iconst (pc' := 7) (v := 1) dX9_mayLook_6 (by decide) rfl ?_
  obtain ⟨z3, I2, ez3, h⟩ := bd2_e h
  refine r_callV3 (pc' := 10) (k' := 0) (n' := 0) dX9_mayLook_7 mb_X9_may mi_X9_may hm.o (by decide) rfl lk_X9_49 rfl rfl rfl (Nat.le_of_ble_eq_true rfl) rfl (c_X9_may (b2 := true) (b3 := true) hm ez3 (cpI ?_))
  cases h
  exact r_zret dX9_mayLook_10 rfl (zb01 _) (by decide) (by decide) hQ
set_option maxHeartbeats 4000000 in
theorem fr_X9_mayLook {I : JI} {m : Nat} {r : Bool} {J : JI} {z : Nat} (h : s_X9_mayLook I m = some (r, J)) (hz_m : z ≠ m) : J z = I z := by
  unfold s_X9_mayLook at h
  obtain ⟨g1, h⟩ := gd_e h
  obtain ⟨z3, I2, e2, h⟩ := bd2_e h
  cases h
  exact ((fr_X9_may e2 (by omega)).trans rfl)
set_option maxHeartbeats 4000000 in
theorem ff_X9_mayLook {I : JI} {m : Nat} {r : Bool} {J : JI} {k : Nat} (h : s_X9_mayLook I m = some (r, J)) (hk0 : k ≠ 0) : J m k = I m k := by
  unfold s_X9_mayLook at h
  obtain ⟨g1, h⟩ := gd_e h
  obtain ⟨z3, I2, e2, h⟩ := bd2_e h
  cases h
  exact ((ff_X9_may e2 hk0).trans rfl)
noncomputable def s_X9_lays_L3 (r0 r2 : Nat) (q1 : Int32) (q3 : Int32) (N0 : Nat) (N2 : Nat) : Nat → Int32 → JI → Option (Int32 × JI)
  | 0, _, _ => none
  | f + 1, w4, I => if 2030 ≤ w4 then (some (w4, I)) else (gd (vp_in (q1 + w4) N0) <| gd (vp_in (q3 + w4) N2) <| lx (stI I r2 (Int32.toNatClampNeg (q3 + w4)) (I r0 (Int32.toNatClampNeg (q1 + w4)))) fun I4 => s_X9_lays_L3 r0 r2 q1 q3 N0 N2 f (w4 + 1) I4)
noncomputable def s_X9_lays (I : JI) (r0 r2 : Nat) (N0 : Nat) (x1 : Int32) (N2 : Nat) (x3 : Int32) : Option (JI) :=
  bd (s_X9_lays_L3 r0 r2 x1 x3 N0 N2 lf 0 I) fun (y5, I6) => some I6
set_option maxHeartbeats 4000000 in
theorem l_X9_lays_L3 {Ω : JO} {S : JS} {Q : JQ} {r0 : Nat} {r2 : Nat} {q1 : Int32} {q3 : Int32} {N0 : Nat} {N2 : Nat} (hr0 : ArE 11 S r0 N0) (hN0 : N0 < 2 ^ 31) (hr2 : ArE 11 S r2 N2) (hN2 : N2 < 2 ^ 31) : ∀ (f : Nat) (w4 : Int32) (I : JI) (o : (Int32 × JI)), s_X9_lays_L3 r0 r2 q1 q3 N0 N2 f w4 I = some o → True → (∀ (y4 : Int32) (J : JI) , o = (y4, J) → AA Ω m_X9_lays (FQ Ω m_X9_lays Q) 0 0 29 [(4, .int y4), (0, .ref r0), (1, .int q1), (2, .ref r2), (3, .int q3)] [] J S) → AA Ω m_X9_lays (FQ Ω m_X9_lays Q) 0 0 3 [(4, .int w4), (0, .ref r0), (1, .int q1), (2, .ref r2), (3, .int q3)] [] I S := by
  intro f
  induction f with
  | zero =>
    intro w4 I o h hR hE
    rw [s_X9_lays_L3] at h
    cases h
  | succ f ih =>
    intro w4 I o h hR hE
    rw [s_X9_lays_L3] at h
    refine r_iload (pc' := 5) dX9_lays_3 0 rfl rfl ?_
    refine r_sipush (pc' := 8) (v := 2030) dX9_lays_5 (by decide) rfl ?_
    refine r_icmp_ge (tgt := 29) (pc' := 11) dX9_lays_8 rfl rfl (fun h1 => ?_) (fun h1 => ?_)
    · have h := ifp h1 h
      cases h
      exact hE _ _ rfl
    · have h := ifn h1 h
      refine r_aload_n (pc' := 12) dX9_lays_11 rfl 3 rfl rfl ?_
      refine r_iload_n (pc' := 13) dX9_lays_12 rfl 4 rfl rfl ?_
      refine r_iload (pc' := 15) dX9_lays_13 0 rfl rfl ?_
      refine r_iadd (pc' := 16) dX9_lays_15 rfl ?_
      refine r_aload_n (pc' := 17) dX9_lays_16 rfl 1 rfl rfl ?_
      refine r_iload_n (pc' := 18) dX9_lays_17 rfl 2 rfl rfl ?_
      refine r_iload (pc' := 20) dX9_lays_18 0 rfl rfl ?_
      refine r_iadd (pc' := 21) dX9_lays_20 rfl ?_
      obtain ⟨g2, h⟩ := gd_e h
      refine r_iaload (pc' := 22) dX9_lays_21 hr0 g2 rfl ?_
      obtain ⟨g3, h⟩ := gd_e h
      refine r_iastore (pc' := 23) dX9_lays_22 hr2 g3 rfl ?_
      have h := lx_e h
      refine r_iinc (pc' := 26) (v := _ + 1) (lv' := [(4, _), (0, _), (1, _), (2, _), (3, _)]) dX9_lays_23 0 rfl rfl (by decide) rfl rfl ?_
      refine r_goto (tgt := 3) dX9_lays_26 rfl ?_
      exact ih _ _ _ h hR hE
set_option maxHeartbeats 4000000 in
theorem c_X9_lays {Ω : JO} {I : JI} {S : JS} {Q : JQ} {r0 : Nat} {r2 : Nat} {N0 : Nat} {x1 : Int32} {N2 : Nat} {x3 : Int32} {J : JI} (hr0 : ArE 11 S r0 N0) (hN0 : N0 < 2 ^ 31) (hr2 : ArE 11 S r2 N2) (hN2 : N2 < 2 ^ 31) (h : s_X9_lays I r0 r2 N0 x1 N2 x3 = some J) (hQ : Q (.inl none) J S) : Call Ω m_X9_lays [.ref r0, .int x1, .ref r2, .int x3] I S Q := by
  refine call_of (by decide +kernel) rfl (Nat.le_of_ble_eq_true rfl) ?_
  change AA Ω m_X9_lays (FQ Ω m_X9_lays Q) 0 0 0 [(0, .ref r0), (1, .int x1), (2, .ref r2), (3, .int x3)] [] I S
  unfold s_X9_lays at h
  refine r_iconst (pc' := 1) (v := 0) dX9_lays_0 (by decide) rfl ?_
  refine r_istore (pc' := 3) (lv' := [(4, _), (0, _), (1, _), (2, _), (3, _)]) dX9_lays_1 (by decide) rfl rfl ?_
  obtain ⟨o7, eo7, h⟩ := bd_e h
  refine l_X9_lays_L3 (Ω := Ω) hr0 hN0 hr2 hN2 _ _ _ _ eo7 trivial (fun y5 I6 q => ?_)
  subst q
  cases h
  exact r_ret dX9_lays_29 rfl (by decide) (by decide) hQ
theorem frl_X9_lays_L3 {r0 : Nat} {r2 : Nat} {q1 : Int32} {q3 : Int32} {N0 : Nat} {N2 : Nat} {z : Nat} (hz_r2 : z ≠ r2) : ∀ (f : Nat) (w4 : Int32) (I : JI) (o : (Int32 × JI)), s_X9_lays_L3 r0 r2 q1 q3 N0 N2 f w4 I = some o → (∀ (y4 : Int32) (J : JI), o = (y4, J) → J z = I z) := by
  intro f
  induction f with
  | zero =>
    intro w4 I o h
    rw [s_X9_lays_L3] at h
    cases h
  | succ f ih =>
    intro w4 I o h
    rw [s_X9_lays_L3] at h
    rcases if_e h with h | h
    · cases h
      intro _ _ q
      cases q
      exact rfl
    · obtain ⟨g1, h⟩ := gd_e h
      obtain ⟨g2, h⟩ := gd_e h
      have h := lx_e h
      intro _ _ q
      exact ((ih _ _ _ h) _ _ q).trans ((fr_stI (by omega)).trans rfl)
set_option maxHeartbeats 4000000 in
theorem fr_X9_lays {I : JI} {r0 : Nat} {r2 : Nat} {N0 : Nat} {x1 : Int32} {N2 : Nat} {x3 : Int32} {J : JI} {z : Nat} (h : s_X9_lays I r0 r2 N0 x1 N2 x3 = some J) (hz_r2 : z ≠ r2) : J z = I z := by
  unfold s_X9_lays at h
  obtain ⟨o1, e1, h⟩ := bd_e h
  obtain ⟨y5, I6⟩ := o1
  cases h
  exact (((frl_X9_lays_L3 hz_r2 _ _ _ _ e1) _ _ rfl).trans rfl)
noncomputable def s_X9_thinks (I : JI) (m : Nat) : Option (JI) :=
  bd (s_X9_lays I (m + 1) (m + 2) 2030 0 2030 0) fun I1 => some I1
set_option maxHeartbeats 4000000 in
theorem c_X9_thinks {Ω : JO} {I : JI} {S : JS} {Q : JQ} {m : Nat} {J : JI} (hm : Is9 S m) (h : s_X9_thinks I m = some J) (hQ : Q (.inl none) J S) : Call Ω m_X9_thinks [.ref m] I S Q := by
  refine call_of (by decide +kernel) rfl (Nat.le_of_ble_eq_true rfl) ?_
  change AA Ω m_X9_thinks (FQ Ω m_X9_thinks Q) 0 0 0 [(0, .ref m)] [] I S
  unfold s_X9_thinks at h
  refine r_aload_n (pc' := 1) dX9_thinks_0 rfl 0 rfl rfl ?_
  refine r_getO (pc' := 4) dX9_thinks_1 fa_X9_9 hm.o rfl hm.r1 rfl ?_
  refine r_iconst (pc' := 5) (v := 0) dX9_thinks_4 (by decide) rfl ?_
  refine r_aload_n (pc' := 6) dX9_thinks_5 rfl 0 rfl rfl ?_
  refine r_getO (pc' := 9) dX9_thinks_6 fa_X9_13 hm.o rfl hm.r2 rfl ?_
  refine r_iconst (pc' := 10) (v := 0) dX9_thinks_9 (by decide) rfl ?_
  obtain ⟨I1, eI1, h⟩ := bd_e h
  refine r_callS4 (pc' := 13) (k' := 0) (n' := 0) dX9_thinks_10 mb_X9_lays ms_X9_lays lk_X9_57 rfl rfl rfl (Nat.le_of_ble_eq_true rfl) rfl (c_X9_lays hm.c1 (by decide) hm.c2 (by decide) eI1 (cpV ?_))
  cases h
  exact r_ret dX9_thinks_13 rfl (by decide) (by decide) hQ
set_option maxHeartbeats 4000000 in
theorem fr_X9_thinks {I : JI} {m : Nat} {J : JI} {z : Nat} (h : s_X9_thinks I m = some J) (hz_m2 : z ≠ (m + 2)) : J z = I z := by
  unfold s_X9_thinks at h
  obtain ⟨I1, e1, h⟩ := bd_e h
  cases h
  exact ((fr_X9_lays e1 (by omega)).trans rfl)
noncomputable def s_X9_back (I : JI) (m : Nat) (x1 : Int32) : Option (Int32 × JI) :=
  bd (s_X9_lays I (m + 2) (m + 1) 2030 0 2030 0) fun I1 => some (x1, I1)
set_option maxHeartbeats 4000000 in
theorem c_X9_back {Ω : JO} {I : JI} {S : JS} {Q : JQ} {m : Nat} {x1 : Int32} {r : Int32} {J : JI} (hm : Is9 S m) (h : s_X9_back I m x1 = some (r, J)) (hQ : Q (.inl (some (.int r))) J S) : Call Ω m_X9_back [.ref m, .int x1] I S Q := by
  refine call_of (by decide +kernel) rfl (Nat.le_of_ble_eq_true rfl) ?_
  change AA Ω m_X9_back (FQ Ω m_X9_back Q) 0 0 0 [(0, .ref m), (1, .int x1)] [] I S
  unfold s_X9_back at h
  refine r_aload_n (pc' := 1) dX9_back_0 rfl 0 rfl rfl ?_
  refine r_getO (pc' := 4) dX9_back_1 fa_X9_13 hm.o rfl hm.r2 rfl ?_
  refine r_iconst (pc' := 5) (v := 0) dX9_back_4 (by decide) rfl ?_
  refine r_aload_n (pc' := 6) dX9_back_5 rfl 0 rfl rfl ?_
  refine r_getO (pc' := 9) dX9_back_6 fa_X9_9 hm.o rfl hm.r1 rfl ?_
  refine r_iconst (pc' := 10) (v := 0) dX9_back_9 (by decide) rfl ?_
  obtain ⟨I1, eI1, h⟩ := bd_e h
  refine r_callS4 (pc' := 13) (k' := 0) (n' := 0) dX9_back_10 mb_X9_lays ms_X9_lays lk_X9_57 rfl rfl rfl (Nat.le_of_ble_eq_true rfl) rfl (c_X9_lays hm.c2 (by decide) hm.c1 (by decide) eI1 (cpV ?_))
  refine r_iload_n (pc' := 14) dX9_back_13 rfl 1 rfl rfl ?_
  cases h
  exact r_iret dX9_back_14 rfl (by decide) (by decide) hQ
set_option maxHeartbeats 4000000 in
theorem fr_X9_back {I : JI} {m : Nat} {x1 : Int32} {r : Int32} {J : JI} {z : Nat} (h : s_X9_back I m x1 = some (r, J)) (hz_m1 : z ≠ (m + 1)) : J z = I z := by
  unfold s_X9_back at h
  obtain ⟨I1, e1, h⟩ := bd_e h
  cases h
  exact ((fr_X9_lays e1 (by omega)).trans rfl)
noncomputable def s_X9_four_L2 (m : Nat) (q1 : Int32) : Nat → Int32 → JI → Option (Int32 × JI)
  | 0, _, _ => none
  | f + 1, w2, I => if w2 < 0 then (some (w2, I)) else (gd (vp_in (I m 9) 500) <| lx (stI I (m + 6) (Int32.toNatClampNeg (I m 9)) (vp_nar .byte ((Int32.toInt8 ((q1 : Int32) >>> ((8 * w2) &&& 31))).toInt32))) fun I3 => lx (stI I3 m 9 ((I3 m 9) + 1)) fun I4 => s_X9_four_L2 m q1 f (w2 + (-1)) I4)
noncomputable def s_X9_four (I : JI) (m : Nat) (x1 : Int32) : Option (JI) :=
  bd (s_X9_four_L2 m x1 lf 3 I) fun (y5, I6) => some I6
set_option maxHeartbeats 4000000 in
theorem l_X9_four_L2 {Ω : JO} {S : JS} {Q : JQ} {m : Nat} {q1 : Int32} (hm : Is9 S m) : ∀ (f : Nat) (w2 : Int32) (I : JI) (o : (Int32 × JI)), s_X9_four_L2 m q1 f w2 I = some o → True → (∀ (y2 : Int32) (J : JI) , o = (y2, J) → AA Ω m_X9_four (FQ Ω m_X9_four Q) 0 0 38 [(2, .int y2), (0, .ref m), (1, .int q1)] [] J S) → AA Ω m_X9_four (FQ Ω m_X9_four Q) 0 0 2 [(2, .int w2), (0, .ref m), (1, .int q1)] [] I S := by
  intro f
  induction f with
  | zero =>
    intro w2 I o h hR hE
    rw [s_X9_four_L2] at h
    cases h
  | succ f ih =>
    intro w2 I o h hR hE
    rw [s_X9_four_L2] at h
    refine r_iload_n (pc' := 3) dX9_four_2 rfl 0 rfl rfl ?_
    refine r_if_lt (tgt := 38) (pc' := 6) dX9_four_3 rfl rfl (fun h1 => ?_) (fun h1 => ?_)
    · have h := ifp h1 h
      cases h
      exact hE _ _ rfl
    · have h := ifn h1 h
      refine r_aload_n (pc' := 7) dX9_four_6 rfl 1 rfl rfl ?_
      refine r_getO (pc' := 10) dX9_four_7 fa_X9_26 hm.o rfl hm.r8 rfl ?_
      refine r_aload_n (pc' := 11) dX9_four_10 rfl 1 rfl rfl ?_
      refine r_getI (pc' := 14) dX9_four_11 fa_X9_61 hm.o rfl rfl ?_
      refine r_iload_n (pc' := 15) dX9_four_14 rfl 2 rfl rfl ?_
      refine r_bipush (pc' := 17) (v := 8) dX9_four_15 (by decide) rfl ?_
      refine r_iload_n (pc' := 18) dX9_four_17 rfl 0 rfl rfl ?_
      refine r_imul (pc' := 19) dX9_four_18 rfl ?_
      refine r_ishr (pc' := 20) dX9_four_19 rfl ?_
      refine r_i2b (pc' := 21) dX9_four_20 rfl ?_
      obtain ⟨g2, h⟩ := gd_e h
      refine r_bastore (pc' := 22) dX9_four_21 hm.c8 g2 rfl ?_
      have h := lx_e h
      refine r_aload_n (pc' := 23) dX9_four_22 rfl 1 rfl rfl ?_
      refine r_dup (pc' := 24) dX9_four_23 rfl rfl ?_
      refine r_getI (pc' := 27) dX9_four_24 fa_X9_61 hm.o rfl rfl ?_
      refine r_iconst (pc' := 28) (v := 1) dX9_four_27 (by decide) rfl ?_
      refine r_iadd (pc' := 29) dX9_four_28 rfl ?_
      refine r_putI (pc' := 32) dX9_four_29 fa_X9_61 hm.o rfl rfl ?_
      have h := lx_e h
      refine r_iinc (pc' := 35) (v := _ + (-1)) (lv' := [(2, _), (0, _), (1, _)]) dX9_four_32 0 rfl rfl (by decide) rfl rfl ?_
      refine r_goto (tgt := 2) dX9_four_35 rfl ?_
      exact ih _ _ _ h hR hE
set_option maxHeartbeats 4000000 in
theorem c_X9_four {Ω : JO} {I : JI} {S : JS} {Q : JQ} {m : Nat} {x1 : Int32} {J : JI} (hm : Is9 S m) (h : s_X9_four I m x1 = some J) (hQ : Q (.inl none) J S) : Call Ω m_X9_four [.ref m, .int x1] I S Q := by
  refine call_of (by decide +kernel) rfl (Nat.le_of_ble_eq_true rfl) ?_
  change AA Ω m_X9_four (FQ Ω m_X9_four Q) 0 0 0 [(0, .ref m), (1, .int x1)] [] I S
  unfold s_X9_four at h
  refine r_iconst (pc' := 1) (v := 3) dX9_four_0 (by decide) rfl ?_
  refine r_istore_n (pc' := 2) (lv' := [(2, _), (0, _), (1, _)]) dX9_four_1 rfl (by decide) rfl rfl ?_
  obtain ⟨o7, eo7, h⟩ := bd_e h
  refine l_X9_four_L2 (Ω := Ω) hm _ _ _ _ eo7 trivial (fun y5 I6 q => ?_)
  subst q
  cases h
  exact r_ret dX9_four_38 rfl (by decide) (by decide) hQ
theorem frl_X9_four_L2 {m : Nat} {q1 : Int32} {z : Nat} (hz_m6 : z ≠ (m + 6)) (hz_m : z ≠ m) : ∀ (f : Nat) (w2 : Int32) (I : JI) (o : (Int32 × JI)), s_X9_four_L2 m q1 f w2 I = some o → (∀ (y2 : Int32) (J : JI), o = (y2, J) → J z = I z) := by
  intro f
  induction f with
  | zero =>
    intro w2 I o h
    rw [s_X9_four_L2] at h
    cases h
  | succ f ih =>
    intro w2 I o h
    rw [s_X9_four_L2] at h
    rcases if_e h with h | h
    · cases h
      intro _ _ q
      cases q
      exact rfl
    · obtain ⟨g1, h⟩ := gd_e h
      have h := lx_e h
      have h := lx_e h
      intro _ _ q
      exact ((ih _ _ _ h) _ _ q).trans ((fr_stI (by omega)).trans ((fr_stI (by omega)).trans rfl))
set_option maxHeartbeats 4000000 in
theorem fr_X9_four {I : JI} {m : Nat} {x1 : Int32} {J : JI} {z : Nat} (h : s_X9_four I m x1 = some J) (hz_m6 : z ≠ (m + 6)) (hz_m : z ≠ m) : J z = I z := by
  unfold s_X9_four at h
  obtain ⟨o1, e1, h⟩ := bd_e h
  obtain ⟨y5, I6⟩ := o1
  cases h
  exact (((frl_X9_four_L2 hz_m6 hz_m _ _ _ _ e1) _ _ rfl).trans rfl)
theorem ffl_X9_four_L2 {m : Nat} {q1 : Int32} {k : Nat} (hk9 : k ≠ 9) : ∀ (f : Nat) (w2 : Int32) (I : JI) (o : (Int32 × JI)), s_X9_four_L2 m q1 f w2 I = some o → (∀ (y2 : Int32) (J : JI), o = (y2, J) → J m k = I m k) := by
  intro f
  induction f with
  | zero =>
    intro w2 I o h
    rw [s_X9_four_L2] at h
    cases h
  | succ f ih =>
    intro w2 I o h
    rw [s_X9_four_L2] at h
    rcases if_e h with h | h
    · cases h
      intro _ _ q
      cases q
      exact rfl
    · obtain ⟨g1, h⟩ := gd_e h
      have h := lx_e h
      have h := lx_e h
      intro _ _ q
      exact ((ih _ _ _ h) _ _ q).trans ((ff_stI hk9).trans ((congrFun (fr_stI (by omega)) k).trans rfl))
set_option maxHeartbeats 4000000 in
theorem ff_X9_four {I : JI} {m : Nat} {x1 : Int32} {J : JI} {k : Nat} (h : s_X9_four I m x1 = some J) (hk9 : k ≠ 9) : J m k = I m k := by
  unfold s_X9_four at h
  obtain ⟨o1, e1, h⟩ := bd_e h
  obtain ⟨y5, I6⟩ := o1
  cases h
  exact (((ffl_X9_four_L2 hk9 _ _ _ _ e1) _ _ rfl).trans rfl)
noncomputable def s_X9_append (I : JI) (m : Nat) (x1 : Int32) (x2 : Int32) (x3 : Int32) (x4 : Int32) (x5 : Int32) : Option (Int32 × JI) :=
  lx (stI I m 0 0) fun I1 => if (I1 m 9) ≤ 480 then (bd (s_X9_four I1 m x1) fun I3 => bd (s_X9_four I3 m x2) fun I4 => bd (s_X9_four I4 m x3) fun I5 => bd (s_X9_four I5 m x4) fun I6 => bd (s_X9_four I6 m x5) fun I7 => some ((I7 m 9), I7)) else (some ((-1), I1))
set_option maxHeartbeats 4000000 in
theorem c_X9_append {Ω : JO} {I : JI} {S : JS} {Q : JQ} {m : Nat} {x1 : Int32} {x2 : Int32} {x3 : Int32} {x4 : Int32} {x5 : Int32} {r : Int32} {J : JI} (hm : Is9 S m) (h : s_X9_append I m x1 x2 x3 x4 x5 = some (r, J)) (hQ : Q (.inl (some (.int r))) J S) : Call Ω m_X9_append [.ref m, .int x1, .int x2, .int x3, .int x4, .int x5] I S Q := by
  refine call_of (by decide +kernel) rfl (Nat.le_of_ble_eq_true rfl) ?_
  change AA Ω m_X9_append (FQ Ω m_X9_append Q) 0 0 0 [(0, .ref m), (1, .int x1), (2, .int x2), (3, .int x3), (4, .int x4), (5, .int x5)] [] I S
  unfold s_X9_append at h
  refine r_aload_n (pc' := 1) dX9_append_0 rfl 0 rfl rfl ?_
  refine r_iconst (pc' := 2) (v := 0) dX9_append_1 (by decide) rfl ?_
  refine r_putI (pc' := 5) dX9_append_2 fa_X9_46 hm.o rfl rfl ?_
  have h := lx_e h
  refine r_aload_n (pc' := 6) dX9_append_5 rfl 0 rfl rfl ?_
  refine r_getI (pc' := 9) dX9_append_6 fa_X9_61 hm.o rfl rfl ?_
  refine r_sipush (pc' := 12) (v := 480) dX9_append_9 (by decide) rfl ?_
  refine r_icmp_le (tgt := 17) (pc' := 15) dX9_append_12 rfl rfl (fun h2 => ?_) (fun h2 => ?_)
  · have h := ifp h2 h
    refine r_aload_n (pc' := 18) dX9_append_17 rfl 0 rfl rfl ?_
    refine r_iload_n (pc' := 19) dX9_append_18 rfl 1 rfl rfl ?_
    obtain ⟨I3, eI3, h⟩ := bd_e h
    refine r_callV1 (pc' := 22) (k' := 0) (n' := 0) dX9_append_19 mb_X9_four mi_X9_four hm.o (by decide) rfl lk_X9_64 rfl rfl rfl (Nat.le_of_ble_eq_true rfl) rfl (c_X9_four hm eI3 (cpV ?_))
    refine r_aload_n (pc' := 23) dX9_append_22 rfl 0 rfl rfl ?_
    refine r_iload_n (pc' := 24) dX9_append_23 rfl 2 rfl rfl ?_
    obtain ⟨I4, eI4, h⟩ := bd_e h
    refine r_callV1 (pc' := 27) (k' := 0) (n' := 0) dX9_append_24 mb_X9_four mi_X9_four hm.o (by decide) rfl lk_X9_64 rfl rfl rfl (Nat.le_of_ble_eq_true rfl) rfl (c_X9_four hm eI4 (cpV ?_))
    refine r_aload_n (pc' := 28) dX9_append_27 rfl 0 rfl rfl ?_
    refine r_iload_n (pc' := 29) dX9_append_28 rfl 3 rfl rfl ?_
    obtain ⟨I5, eI5, h⟩ := bd_e h
    refine r_callV1 (pc' := 32) (k' := 0) (n' := 0) dX9_append_29 mb_X9_four mi_X9_four hm.o (by decide) rfl lk_X9_64 rfl rfl rfl (Nat.le_of_ble_eq_true rfl) rfl (c_X9_four hm eI5 (cpV ?_))
    refine r_aload_n (pc' := 33) dX9_append_32 rfl 0 rfl rfl ?_
    refine r_iload (pc' := 35) dX9_append_33 4 rfl rfl ?_
    obtain ⟨I6, eI6, h⟩ := bd_e h
    refine r_callV1 (pc' := 38) (k' := 0) (n' := 0) dX9_append_35 mb_X9_four mi_X9_four hm.o (by decide) rfl lk_X9_64 rfl rfl rfl (Nat.le_of_ble_eq_true rfl) rfl (c_X9_four hm eI6 (cpV ?_))
    refine r_aload_n (pc' := 39) dX9_append_38 rfl 0 rfl rfl ?_
    refine r_iload (pc' := 41) dX9_append_39 5 rfl rfl ?_
    obtain ⟨I7, eI7, h⟩ := bd_e h
    refine r_callV1 (pc' := 44) (k' := 0) (n' := 0) dX9_append_41 mb_X9_four mi_X9_four hm.o (by decide) rfl lk_X9_64 rfl rfl rfl (Nat.le_of_ble_eq_true rfl) rfl (c_X9_four hm eI7 (cpV ?_))
    refine r_aload_n (pc' := 45) dX9_append_44 rfl 0 rfl rfl ?_
    refine r_getI (pc' := 48) dX9_append_45 fa_X9_61 hm.o rfl rfl ?_
    cases h
    exact r_iret dX9_append_48 rfl (by decide) (by decide) hQ
  · have h := ifn h2 h
    refine r_iconst (pc' := 16) (v := -1) dX9_append_15 (by decide) rfl ?_
    cases h
    exact r_iret dX9_append_16 rfl (by decide) (by decide) hQ
set_option maxHeartbeats 4000000 in
theorem fr_X9_append {I : JI} {m : Nat} {x1 : Int32} {x2 : Int32} {x3 : Int32} {x4 : Int32} {x5 : Int32} {r : Int32} {J : JI} {z : Nat} (h : s_X9_append I m x1 x2 x3 x4 x5 = some (r, J)) (hz_m6 : z ≠ (m + 6)) (hz_m : z ≠ m) : J z = I z := by
  unfold s_X9_append at h
  have h := lx_e h
  rcases if_e h with h | h
  · obtain ⟨I3, e1, h⟩ := bd_e h
    obtain ⟨I4, e2, h⟩ := bd_e h
    obtain ⟨I5, e3, h⟩ := bd_e h
    obtain ⟨I6, e4, h⟩ := bd_e h
    obtain ⟨I7, e5, h⟩ := bd_e h
    cases h
    exact ((fr_X9_four e5 (by omega) (by omega)).trans ((fr_X9_four e4 (by omega) (by omega)).trans ((fr_X9_four e3 (by omega) (by omega)).trans ((fr_X9_four e2 (by omega) (by omega)).trans ((fr_X9_four e1 (by omega) (by omega)).trans ((fr_stI (by omega)).trans rfl))))))
  · cases h
    exact ((fr_stI (by omega)).trans rfl)
set_option maxHeartbeats 4000000 in
theorem ff_X9_append {I : JI} {m : Nat} {x1 : Int32} {x2 : Int32} {x3 : Int32} {x4 : Int32} {x5 : Int32} {r : Int32} {J : JI} {k : Nat} (h : s_X9_append I m x1 x2 x3 x4 x5 = some (r, J)) (hk0 : k ≠ 0) (hk9 : k ≠ 9) : J m k = I m k := by
  unfold s_X9_append at h
  have h := lx_e h
  rcases if_e h with h | h
  · obtain ⟨I3, e1, h⟩ := bd_e h
    obtain ⟨I4, e2, h⟩ := bd_e h
    obtain ⟨I5, e3, h⟩ := bd_e h
    obtain ⟨I6, e4, h⟩ := bd_e h
    obtain ⟨I7, e5, h⟩ := bd_e h
    cases h
    exact ((ff_X9_four e5 hk9).trans ((ff_X9_four e4 hk9).trans ((ff_X9_four e3 hk9).trans ((ff_X9_four e2 hk9).trans ((ff_X9_four e1 hk9).trans ((ff_stI hk0).trans rfl))))))
  · cases h
    exact ((ff_stI hk0).trans rfl)
noncomputable def s_X9_told (I : JI) (m : Nat) (x1 : Int32) : Option (Int32 × JI) :=
  lx (stI I m 0 0) fun I1 => some (x1, I1)
set_option maxHeartbeats 4000000 in
theorem c_X9_told {Ω : JO} {I : JI} {S : JS} {Q : JQ} {m : Nat} {x1 : Int32} {r : Int32} {J : JI} (hm : Is9 S m) (h : s_X9_told I m x1 = some (r, J)) (hQ : Q (.inl (some (.int r))) J S) : Call Ω m_X9_told [.ref m, .int x1] I S Q := by
  refine call_of (by decide +kernel) rfl (Nat.le_of_ble_eq_true rfl) ?_
  change AA Ω m_X9_told (FQ Ω m_X9_told Q) 0 0 0 [(0, .ref m), (1, .int x1)] [] I S
  unfold s_X9_told at h
  refine r_aload_n (pc' := 1) dX9_told_0 rfl 0 rfl rfl ?_
  refine r_iconst (pc' := 2) (v := 0) dX9_told_1 (by decide) rfl ?_
  refine r_putI (pc' := 5) dX9_told_2 fa_X9_46 hm.o rfl rfl ?_
  have h := lx_e h
  refine r_iload_n (pc' := 6) dX9_told_5 rfl 1 rfl rfl ?_
  cases h
  exact r_iret dX9_told_6 rfl (by decide) (by decide) hQ
set_option maxHeartbeats 4000000 in
theorem fr_X9_told {I : JI} {m : Nat} {x1 : Int32} {r : Int32} {J : JI} {z : Nat} (h : s_X9_told I m x1 = some (r, J)) (hz_m : z ≠ m) : J z = I z := by
  unfold s_X9_told at h
  have h := lx_e h
  cases h
  exact ((fr_stI (by omega)).trans rfl)
set_option maxHeartbeats 4000000 in
theorem ff_X9_told {I : JI} {m : Nat} {x1 : Int32} {r : Int32} {J : JI} {k : Nat} (h : s_X9_told I m x1 = some (r, J)) (hk0 : k ≠ 0) : J m k = I m k := by
  unfold s_X9_told at h
  have h := lx_e h
  cases h
  exact ((ff_stI hk0).trans rfl)
noncomputable def s_X9_parseErrorCode (I : JI) (m : Nat) : Option (Int32 × JI) :=
  bd2 (s_X9_told I m (I m 10)) fun v2 I1 => some (v2, I1)
set_option maxHeartbeats 4000000 in
theorem c_X9_parseErrorCode {Ω : JO} {I : JI} {S : JS} {Q : JQ} {m : Nat} {r : Int32} {J : JI} (hm : Is9 S m) (h : s_X9_parseErrorCode I m = some (r, J)) (hQ : Q (.inl (some (.int r))) J S) : Call Ω m_X9_parseErrorCode [.ref m] I S Q := by
  refine call_of (by decide +kernel) rfl (Nat.le_of_ble_eq_true rfl) ?_
  change AA Ω m_X9_parseErrorCode (FQ Ω m_X9_parseErrorCode Q) 0 0 0 [(0, .ref m)] [] I S
  unfold s_X9_parseErrorCode at h
  refine r_aload_n (pc' := 1) dX9_parseErrorCode_0 rfl 0 rfl rfl ?_
  refine r_aload_n (pc' := 2) dX9_parseErrorCode_1 rfl 0 rfl rfl ?_
  refine r_getI (pc' := 5) dX9_parseErrorCode_2 fa_X9_68 hm.o rfl rfl ?_
  obtain ⟨v2, I1, ev2, h⟩ := bd2_e h
  refine r_callV1 (pc' := 8) (k' := 0) (n' := 0) dX9_parseErrorCode_5 mb_X9_told mi_X9_told hm.o (by decide) rfl lk_X9_71 rfl rfl rfl (Nat.le_of_ble_eq_true rfl) rfl (c_X9_told hm ev2 (cpI ?_))
  cases h
  exact r_iret dX9_parseErrorCode_8 rfl (by decide) (by decide) hQ
set_option maxHeartbeats 4000000 in
theorem fr_X9_parseErrorCode {I : JI} {m : Nat} {r : Int32} {J : JI} {z : Nat} (h : s_X9_parseErrorCode I m = some (r, J)) (hz_m : z ≠ m) : J z = I z := by
  unfold s_X9_parseErrorCode at h
  obtain ⟨v2, I1, e1, h⟩ := bd2_e h
  cases h
  exact ((fr_X9_told e1 (by omega)).trans rfl)
set_option maxHeartbeats 4000000 in
theorem ff_X9_parseErrorCode {I : JI} {m : Nat} {r : Int32} {J : JI} {k : Nat} (h : s_X9_parseErrorCode I m = some (r, J)) (hk0 : k ≠ 0) : J m k = I m k := by
  unfold s_X9_parseErrorCode at h
  obtain ⟨v2, I1, e1, h⟩ := bd2_e h
  cases h
  exact ((ff_X9_told e1 hk0).trans rfl)
noncomputable def s_X9_parseErrorPosition (I : JI) (m : Nat) : Option (Int32 × JI) :=
  bd2 (s_X9_told I m (I m 11)) fun v2 I1 => some (v2, I1)
set_option maxHeartbeats 4000000 in
theorem c_X9_parseErrorPosition {Ω : JO} {I : JI} {S : JS} {Q : JQ} {m : Nat} {r : Int32} {J : JI} (hm : Is9 S m) (h : s_X9_parseErrorPosition I m = some (r, J)) (hQ : Q (.inl (some (.int r))) J S) : Call Ω m_X9_parseErrorPosition [.ref m] I S Q := by
  refine call_of (by decide +kernel) rfl (Nat.le_of_ble_eq_true rfl) ?_
  change AA Ω m_X9_parseErrorPosition (FQ Ω m_X9_parseErrorPosition Q) 0 0 0 [(0, .ref m)] [] I S
  unfold s_X9_parseErrorPosition at h
  refine r_aload_n (pc' := 1) dX9_parseErrorPosition_0 rfl 0 rfl rfl ?_
  refine r_aload_n (pc' := 2) dX9_parseErrorPosition_1 rfl 0 rfl rfl ?_
  refine r_getI (pc' := 5) dX9_parseErrorPosition_2 fa_X9_30 hm.o rfl rfl ?_
  obtain ⟨v2, I1, ev2, h⟩ := bd2_e h
  refine r_callV1 (pc' := 8) (k' := 0) (n' := 0) dX9_parseErrorPosition_5 mb_X9_told mi_X9_told hm.o (by decide) rfl lk_X9_71 rfl rfl rfl (Nat.le_of_ble_eq_true rfl) rfl (c_X9_told hm ev2 (cpI ?_))
  cases h
  exact r_iret dX9_parseErrorPosition_8 rfl (by decide) (by decide) hQ
set_option maxHeartbeats 4000000 in
theorem fr_X9_parseErrorPosition {I : JI} {m : Nat} {r : Int32} {J : JI} {z : Nat} (h : s_X9_parseErrorPosition I m = some (r, J)) (hz_m : z ≠ m) : J z = I z := by
  unfold s_X9_parseErrorPosition at h
  obtain ⟨v2, I1, e1, h⟩ := bd2_e h
  cases h
  exact ((fr_X9_told e1 (by omega)).trans rfl)
set_option maxHeartbeats 4000000 in
theorem ff_X9_parseErrorPosition {I : JI} {m : Nat} {r : Int32} {J : JI} {k : Nat} (h : s_X9_parseErrorPosition I m = some (r, J)) (hk0 : k ≠ 0) : J m k = I m k := by
  unfold s_X9_parseErrorPosition at h
  obtain ⟨v2, I1, e1, h⟩ := bd2_e h
  cases h
  exact ((ff_X9_told e1 hk0).trans rfl)
noncomputable def s_X9_bufferLength (I : JI) (m : Nat) : Option (Int32 × JI) :=
  bd2 (s_X9_told I m (I m 9)) fun v2 I1 => some (v2, I1)
set_option maxHeartbeats 4000000 in
theorem c_X9_bufferLength {Ω : JO} {I : JI} {S : JS} {Q : JQ} {m : Nat} {r : Int32} {J : JI} (hm : Is9 S m) (h : s_X9_bufferLength I m = some (r, J)) (hQ : Q (.inl (some (.int r))) J S) : Call Ω m_X9_bufferLength [.ref m] I S Q := by
  refine call_of (by decide +kernel) rfl (Nat.le_of_ble_eq_true rfl) ?_
  change AA Ω m_X9_bufferLength (FQ Ω m_X9_bufferLength Q) 0 0 0 [(0, .ref m)] [] I S
  unfold s_X9_bufferLength at h
  refine r_aload_n (pc' := 1) dX9_bufferLength_0 rfl 0 rfl rfl ?_
  refine r_aload_n (pc' := 2) dX9_bufferLength_1 rfl 0 rfl rfl ?_
  refine r_getI (pc' := 5) dX9_bufferLength_2 fa_X9_61 hm.o rfl rfl ?_
  obtain ⟨v2, I1, ev2, h⟩ := bd2_e h
  refine r_callV1 (pc' := 8) (k' := 0) (n' := 0) dX9_bufferLength_5 mb_X9_told mi_X9_told hm.o (by decide) rfl lk_X9_71 rfl rfl rfl (Nat.le_of_ble_eq_true rfl) rfl (c_X9_told hm ev2 (cpI ?_))
  cases h
  exact r_iret dX9_bufferLength_8 rfl (by decide) (by decide) hQ
set_option maxHeartbeats 4000000 in
theorem fr_X9_bufferLength {I : JI} {m : Nat} {r : Int32} {J : JI} {z : Nat} (h : s_X9_bufferLength I m = some (r, J)) (hz_m : z ≠ m) : J z = I z := by
  unfold s_X9_bufferLength at h
  obtain ⟨v2, I1, e1, h⟩ := bd2_e h
  cases h
  exact ((fr_X9_told e1 (by omega)).trans rfl)
set_option maxHeartbeats 4000000 in
theorem ff_X9_bufferLength {I : JI} {m : Nat} {r : Int32} {J : JI} {k : Nat} (h : s_X9_bufferLength I m = some (r, J)) (hk0 : k ≠ 0) : J m k = I m k := by
  unfold s_X9_bufferLength at h
  obtain ⟨v2, I1, e1, h⟩ := bd2_e h
  cases h
  exact ((ff_X9_told e1 hk0).trans rfl)
noncomputable def s_X9_isSmall (I : JI) (m : Nat) (x1 : Int32) : Option (Bool) :=
  if (I m 12) ≤ x1 then (some false) else (gd (vp_in x1 500) <| if (s_X9_in (I (m + 6) (Int32.toNatClampNeg x1)) 97 122) = true then (some true) else (some false))
set_option maxHeartbeats 4000000 in
theorem c_X9_isSmall {Ω : JO} {I : JI} {S : JS} {Q : JQ} {m : Nat} {x1 : Int32} {r : Bool} (hm : Is9 S m) (h : s_X9_isSmall I m x1 = some r) (hQ : Q (.inl (some (.int (zb r)))) I S) : Call Ω m_X9_isSmall [.ref m, .int x1] I S Q := by
  refine call_of (by decide +kernel) rfl (Nat.le_of_ble_eq_true rfl) ?_
  change AA Ω m_X9_isSmall (FQ Ω m_X9_isSmall Q) 0 0 0 [(0, .ref m), (1, .int x1)] [] I S
  unfold s_X9_isSmall at h
  refine r_iload_n (pc' := 1) dX9_isSmall_0 rfl 1 rfl rfl ?_
  refine r_aload_n (pc' := 2) dX9_isSmall_1 rfl 0 rfl rfl ?_
  refine r_getI (pc' := 5) dX9_isSmall_2 fa_X9_75 hm.o rfl rfl ?_
  refine r_icmp_ge (tgt := 28) (pc' := 8) dX9_isSmall_5 rfl rfl (fun h1 => ?_) (fun h1 => ?_)
  · have h := ifp h1 h
    refine r_iconst (pc' := 29) (v := 0) dX9_isSmall_28 (by decide) rfl ?_
    cases h
    exact r_zret dX9_isSmall_29 rfl (by decide) (by decide) (by decide) hQ
  · have h := ifn h1 h
    refine r_aload_n (pc' := 9) dX9_isSmall_8 rfl 0 rfl rfl ?_
    refine r_getO (pc' := 12) dX9_isSmall_9 fa_X9_26 hm.o rfl hm.r8 rfl ?_
    refine r_iload_n (pc' := 13) dX9_isSmall_12 rfl 1 rfl rfl ?_
    obtain ⟨g2, h⟩ := gd_e h
    refine r_baload (pc' := 14) dX9_isSmall_13 hm.c8 g2 rfl ?_
    refine r_bipush (pc' := 16) (v := 97) dX9_isSmall_14 (by decide) rfl ?_
    refine r_bipush (pc' := 18) (v := 122) dX9_isSmall_16 (by decide) rfl ?_
    refine r_callS3 (pc' := 21) (k' := 0) (n' := 0) dX9_isSmall_18 mb_X9_in ms_X9_in lk_X9_78 rfl rfl rfl (Nat.le_of_ble_eq_true rfl) rfl (c_X9_in rfl (cpI ?_))
    refine r_if_eq (tgt := 28) (pc' := 24) dX9_isSmall_21 rfl rfl (fun h3 => ?_) (fun h3 => ?_)
    · have h := ifn (zb_n0 h3) h
      refine r_iconst (pc' := 29) (v := 0) dX9_isSmall_28 (by decide) rfl ?_
      cases h
      exact r_zret dX9_isSmall_29 rfl (by decide) (by decide) (by decide) hQ
    · have h := ifp (zb_p0 h3) h
      refine r_iconst (pc' := 25) (v := 1) dX9_isSmall_24 (by decide) rfl ?_
      refine r_goto (tgt := 29) dX9_isSmall_25 rfl ?_
      cases h
      exact r_zret dX9_isSmall_29 rfl (by decide) (by decide) (by decide) hQ
noncomputable def s_X9_isDigit (I : JI) (m : Nat) (x1 : Int32) : Option (Bool) :=
  if (I m 12) ≤ x1 then (some false) else (gd (vp_in x1 500) <| if (s_X9_in (I (m + 6) (Int32.toNatClampNeg x1)) 48 57) = true then (some true) else (some false))
set_option maxHeartbeats 4000000 in
theorem c_X9_isDigit {Ω : JO} {I : JI} {S : JS} {Q : JQ} {m : Nat} {x1 : Int32} {r : Bool} (hm : Is9 S m) (h : s_X9_isDigit I m x1 = some r) (hQ : Q (.inl (some (.int (zb r)))) I S) : Call Ω m_X9_isDigit [.ref m, .int x1] I S Q := by
  refine call_of (by decide +kernel) rfl (Nat.le_of_ble_eq_true rfl) ?_
  change AA Ω m_X9_isDigit (FQ Ω m_X9_isDigit Q) 0 0 0 [(0, .ref m), (1, .int x1)] [] I S
  unfold s_X9_isDigit at h
  refine r_iload_n (pc' := 1) dX9_isDigit_0 rfl 1 rfl rfl ?_
  refine r_aload_n (pc' := 2) dX9_isDigit_1 rfl 0 rfl rfl ?_
  refine r_getI (pc' := 5) dX9_isDigit_2 fa_X9_75 hm.o rfl rfl ?_
  refine r_icmp_ge (tgt := 28) (pc' := 8) dX9_isDigit_5 rfl rfl (fun h1 => ?_) (fun h1 => ?_)
  · have h := ifp h1 h
    refine r_iconst (pc' := 29) (v := 0) dX9_isDigit_28 (by decide) rfl ?_
    cases h
    exact r_zret dX9_isDigit_29 rfl (by decide) (by decide) (by decide) hQ
  · have h := ifn h1 h
    refine r_aload_n (pc' := 9) dX9_isDigit_8 rfl 0 rfl rfl ?_
    refine r_getO (pc' := 12) dX9_isDigit_9 fa_X9_26 hm.o rfl hm.r8 rfl ?_
    refine r_iload_n (pc' := 13) dX9_isDigit_12 rfl 1 rfl rfl ?_
    obtain ⟨g2, h⟩ := gd_e h
    refine r_baload (pc' := 14) dX9_isDigit_13 hm.c8 g2 rfl ?_
    refine r_bipush (pc' := 16) (v := 48) dX9_isDigit_14 (by decide) rfl ?_
    refine r_bipush (pc' := 18) (v := 57) dX9_isDigit_16 (by decide) rfl ?_
    refine r_callS3 (pc' := 21) (k' := 0) (n' := 0) dX9_isDigit_18 mb_X9_in ms_X9_in lk_X9_78 rfl rfl rfl (Nat.le_of_ble_eq_true rfl) rfl (c_X9_in rfl (cpI ?_))
    refine r_if_eq (tgt := 28) (pc' := 24) dX9_isDigit_21 rfl rfl (fun h3 => ?_) (fun h3 => ?_)
    · have h := ifn (zb_n0 h3) h
      refine r_iconst (pc' := 29) (v := 0) dX9_isDigit_28 (by decide) rfl ?_
      cases h
      exact r_zret dX9_isDigit_29 rfl (by decide) (by decide) (by decide) hQ
    · have h := ifp (zb_p0 h3) h
      refine r_iconst (pc' := 25) (v := 1) dX9_isDigit_24 (by decide) rfl ?_
      refine r_goto (tgt := 29) dX9_isDigit_25 rfl ?_
      cases h
      exact r_zret dX9_isDigit_29 rfl (by decide) (by decide) (by decide) hQ
noncomputable def s_X9_signOf (x0 : Int32) : Int32 :=
  if x0 = 59 then 4 else (if x0 = 40 then 5 else (if x0 = 41 then 6 else 0))
set_option maxHeartbeats 4000000 in
theorem c_X9_signOf {Ω : JO} {I : JI} {S : JS} {Q : JQ} {x0 : Int32} {r : Int32} (h : s_X9_signOf x0 = r) (hQ : Q (.inl (some (.int r))) I S) : Call Ω m_X9_signOf [.int x0] I S Q := by
  refine call_of (by decide +kernel) rfl (Nat.le_of_ble_eq_true rfl) ?_
  change AA Ω m_X9_signOf (FQ Ω m_X9_signOf Q) 0 0 0 [(0, .int x0)] [] I S
  unfold s_X9_signOf at h
  refine r_iload_n (pc' := 1) dX9_signOf_0 rfl 0 rfl rfl ?_
  refine r_bipush (pc' := 3) (v := 59) dX9_signOf_1 (by decide) rfl ?_
  refine r_icmp_ne (tgt := 10) (pc' := 6) dX9_signOf_3 rfl rfl (fun h1 => ?_) (fun h1 => ?_)
  · have h := ifn h1 h
    refine r_iload_n (pc' := 11) dX9_signOf_10 rfl 0 rfl rfl ?_
    refine r_bipush (pc' := 13) (v := 40) dX9_signOf_11 (by decide) rfl ?_
    refine r_icmp_ne (tgt := 20) (pc' := 16) dX9_signOf_13 rfl rfl (fun h2 => ?_) (fun h2 => ?_)
    · have h := ifn h2 h
      refine r_iload_n (pc' := 21) dX9_signOf_20 rfl 0 rfl rfl ?_
      refine r_bipush (pc' := 23) (v := 41) dX9_signOf_21 (by decide) rfl ?_
      refine r_icmp_ne (tgt := 31) (pc' := 26) dX9_signOf_23 rfl rfl (fun h3 => ?_) (fun h3 => ?_)
      · have h := ifn h3 h
        refine r_iconst (pc' := 32) (v := 0) dX9_signOf_31 (by decide) rfl ?_
        subst h
        exact r_iret dX9_signOf_32 rfl (by decide) (by decide) hQ
      · have h := ifp h3 h
        refine r_bipush (pc' := 28) (v := 6) dX9_signOf_26 (by decide) rfl ?_
        refine r_goto (tgt := 32) dX9_signOf_28 rfl ?_
        subst h
        exact r_iret dX9_signOf_32 rfl (by decide) (by decide) hQ
    · have h := ifp h2 h
      refine r_iconst (pc' := 17) (v := 5) dX9_signOf_16 (by decide) rfl ?_
      refine r_goto (tgt := 32) dX9_signOf_17 rfl ?_
      subst h
      exact r_iret dX9_signOf_32 rfl (by decide) (by decide) hQ
  · have h := ifp h1 h
    refine r_iconst (pc' := 7) (v := 4) dX9_signOf_6 (by decide) rfl ?_
    refine r_goto (tgt := 32) dX9_signOf_7 rfl ?_
    subst h
    exact r_iret dX9_signOf_32 rfl (by decide) (by decide) hQ
noncomputable def s_X9_goes_L8 (m : Nat) : Nat → JI → Option (JI)
  | 0, _ => none
  | f + 1, I => if (I m 12) ≤ (I m 13) then (some (I)) else (gd (vp_in (I m 13) 500) <| if (I (m + 6) (Int32.toNatClampNeg (I m 13))) = 32 then (lx (stI I m 13 ((I m 13) + 1)) fun I5 => s_X9_goes_L8 m f  I5) else (some (I)))
noncomputable def s_X9_goes_L158 (m : Nat) : Nat → JI → Option (JI)
  | 0, _ => none
  | f + 1, I => bd (s_X9_isDigit I m (I m 13)) fun z20 => if z20 = true then (if 3 ≤ ((I m 13) - (I m 14)) then (lx (stI I m 13 ((I m 13) + 1)) fun I23 => s_X9_goes_L158 m f  I23) else (gd (vp_in (I m 13) 500) <| lx (stI I m 16 (((10 * (I m 16)) + (I (m + 6) (Int32.toNatClampNeg (I m 13)))) - 48)) fun I25 => lx (stI I25 m 13 ((I25 m 13) + 1)) fun I26 => s_X9_goes_L158 m f  I26)) else (some (I))
noncomputable def s_X9_goes_L94 (m : Nat) : Nat → JI → Option (JI)
  | 0, _ => none
  | f + 1, I => bd (s_X9_isSmall I m (I m 13)) fun z32 => if z32 = true then (lx (stI I m 13 ((I m 13) + 1)) fun I34 => s_X9_goes_L94 m f  I34) else (some (I))
noncomputable def s_X9_goes (I : JI) (m : Nat) : Option (JI) :=
  if (I m 10) ≤ 0 then (bd (s_X9_goes_L8 m lf  I) fun I6 => lx (stI I6 m 14 (I6 m 13)) fun I8 => if (I8 m 13) = (I8 m 12) then (lx (stI I8 m 15 1) fun I40 => if (I40 m 15) = 1 then (some I40) else (bd (s_X9_isSmall I40 m (I40 m 13)) fun z42 => if z42 = true then (bd (s_X9_goes_L94 m lf  I40) fun I55 => if 7 < ((I55 m 13) - (I55 m 14)) then (lx (stI I55 m 15 0) fun I58 => some I58) else (lx (stI I55 m 15 2) fun I59 => some I59)) else (bd (s_X9_isDigit I40 m (I40 m 13)) fun z44 => if z44 = true then (lx (stI I40 m 16 0) fun I49 => bd (s_X9_goes_L158 m lf  I49) fun I50 => if 3 < ((I50 m 13) - (I50 m 14)) then (lx (stI I50 m 15 0) fun I53 => some I53) else (lx (stI I50 m 15 3) fun I54 => some I54)) else (gd (vp_in (I40 m 13) 500) <| lx (stI I40 m 15 (s_X9_signOf (I40 (m + 6) (Int32.toNatClampNeg (I40 m 13))))) fun I47 => lx (stI I47 m 13 ((I47 m 13) + 1)) fun I48 => some I48)))) else (lx (stI I8 m 15 0) fun I10 => if (I10 m 15) = 1 then (some I10) else (bd (s_X9_isSmall I10 m (I10 m 13)) fun z12 => if z12 = true then (bd (s_X9_goes_L94 m lf  I10) fun I35 => if 7 < ((I35 m 13) - (I35 m 14)) then (lx (stI I35 m 15 0) fun I38 => some I38) else (lx (stI I35 m 15 2) fun I39 => some I39)) else (bd (s_X9_isDigit I10 m (I10 m 13)) fun z14 => if z14 = true then (lx (stI I10 m 16 0) fun I19 => bd (s_X9_goes_L158 m lf  I19) fun I27 => if 3 < ((I27 m 13) - (I27 m 14)) then (lx (stI I27 m 15 0) fun I30 => some I30) else (lx (stI I27 m 15 3) fun I31 => some I31)) else (gd (vp_in (I10 m 13) 500) <| lx (stI I10 m 15 (s_X9_signOf (I10 (m + 6) (Int32.toNatClampNeg (I10 m 13))))) fun I17 => lx (stI I17 m 13 ((I17 m 13) + 1)) fun I18 => some I18))))) else (some I)
set_option maxHeartbeats 4000000 in
theorem l_X9_goes_L8 {Ω : JO} {S : JS} {Q : JQ} {m : Nat} (hm : Is9 S m) : ∀ (f : Nat) (I : JI) (o : (JI)), s_X9_goes_L8 m f I = some o → True → (∀ (J : JI) , o = (J) → AA Ω m_X9_goes (FQ Ω m_X9_goes Q) 0 0 46 [(0, .ref m)] [] J S) → AA Ω m_X9_goes (FQ Ω m_X9_goes Q) 0 0 8 [(0, .ref m)] [] I S := by
  intro f
  induction f with
  | zero =>
    intro I o h hR hE
    rw [s_X9_goes_L8] at h
    cases h
  | succ f ih =>
    intro I o h hR hE
    rw [s_X9_goes_L8] at h
    refine r_aload_n (pc' := 9) dX9_goes_8 rfl 0 rfl rfl ?_
    refine r_getI (pc' := 12) dX9_goes_9 fa_X9_82 hm.o rfl rfl ?_
    refine r_aload_n (pc' := 13) dX9_goes_12 rfl 0 rfl rfl ?_
    refine r_getI (pc' := 16) dX9_goes_13 fa_X9_75 hm.o rfl rfl ?_
    refine r_icmp_ge (tgt := 46) (pc' := 19) dX9_goes_16 rfl rfl (fun h2 => ?_) (fun h2 => ?_)
    · have h := ifp h2 h
      cases h
      exact hE _ rfl
    · have h := ifn h2 h
      refine r_aload_n (pc' := 20) dX9_goes_19 rfl 0 rfl rfl ?_
      refine r_getO (pc' := 23) dX9_goes_20 fa_X9_26 hm.o rfl hm.r8 rfl ?_
      refine r_aload_n (pc' := 24) dX9_goes_23 rfl 0 rfl rfl ?_
      refine r_getI (pc' := 27) dX9_goes_24 fa_X9_82 hm.o rfl rfl ?_
      obtain ⟨g3, h⟩ := gd_e h
      refine r_baload (pc' := 28) dX9_goes_27 hm.c8 g3 rfl ?_
      refine r_bipush (pc' := 30) (v := 32) dX9_goes_28 (by decide) rfl ?_
      refine r_icmp_ne (tgt := 46) (pc' := 33) dX9_goes_30 rfl rfl (fun h4 => ?_) (fun h4 => ?_)
      · have h := ifn h4 h
        cases h
        exact hE _ rfl
      · have h := ifp h4 h
        refine r_aload_n (pc' := 34) dX9_goes_33 rfl 0 rfl rfl ?_
        refine r_dup (pc' := 35) dX9_goes_34 rfl rfl ?_
        refine r_getI (pc' := 38) dX9_goes_35 fa_X9_82 hm.o rfl rfl ?_
        refine r_iconst (pc' := 39) (v := 1) dX9_goes_38 (by decide) rfl ?_
        refine r_iadd (pc' := 40) dX9_goes_39 rfl ?_
        refine r_putI (pc' := 43) dX9_goes_40 fa_X9_82 hm.o rfl rfl ?_
        have h := lx_e h
        refine r_goto (tgt := 8) dX9_goes_43 rfl ?_
        exact ih  _ _ h hR hE
set_option maxHeartbeats 4000000 in
theorem l_X9_goes_L158 {Ω : JO} {S : JS} {Q : JQ} {m : Nat} (hm : Is9 S m) : ∀ (f : Nat) (I : JI) (o : (JI)), s_X9_goes_L158 m f I = some o → True → (∀ (J : JI) , o = (J) → AA Ω m_X9_goes (FQ Ω m_X9_goes Q) 0 0 219 [(0, .ref m)] [] J S) → AA Ω m_X9_goes (FQ Ω m_X9_goes Q) 0 0 158 [(0, .ref m)] [] I S := by
  intro f
  induction f with
  | zero =>
    intro I o h hR hE
    rw [s_X9_goes_L158] at h
    cases h
  | succ f ih =>
    intro I o h hR hE
    rw [s_X9_goes_L158] at h
    refine r_aload_n (pc' := 159) dX9_goes_158 rfl 0 rfl rfl ?_
    refine r_aload_n (pc' := 160) dX9_goes_159 rfl 0 rfl rfl ?_
    refine r_getI (pc' := 163) dX9_goes_160 fa_X9_82 hm.o rfl rfl ?_
    obtain ⟨z20, ez20, h⟩ := bd_e h
    refine r_callV1 (pc' := 166) (k' := 0) (n' := 0) dX9_goes_163 mb_X9_isDigit mi_X9_isDigit hm.o (by decide) rfl lk_X9_95 rfl rfl rfl (Nat.le_of_ble_eq_true rfl) rfl (c_X9_isDigit hm ez20 (cpI ?_))
    refine r_if_eq (tgt := 219) (pc' := 169) dX9_goes_166 rfl rfl (fun h21 => ?_) (fun h21 => ?_)
    · have h := ifn (zb_n0 h21) h
      cases h
      exact hE _ rfl
    · have h := ifp (zb_p0 h21) h
      refine r_aload_n (pc' := 170) dX9_goes_169 rfl 0 rfl rfl ?_
      refine r_getI (pc' := 173) dX9_goes_170 fa_X9_82 hm.o rfl rfl ?_
      refine r_aload_n (pc' := 174) dX9_goes_173 rfl 0 rfl rfl ?_
      refine r_getI (pc' := 177) dX9_goes_174 fa_X9_85 hm.o rfl rfl ?_
      refine r_isub (pc' := 178) dX9_goes_177 rfl ?_
      refine r_iconst (pc' := 179) (v := 3) dX9_goes_178 (by decide) rfl ?_
      refine r_icmp_ge (tgt := 206) (pc' := 182) dX9_goes_179 rfl rfl (fun h22 => ?_) (fun h22 => ?_)
      · have h := ifp h22 h
        refine r_aload_n (pc' := 207) dX9_goes_206 rfl 0 rfl rfl ?_
        refine r_dup (pc' := 208) dX9_goes_207 rfl rfl ?_
        refine r_getI (pc' := 211) dX9_goes_208 fa_X9_82 hm.o rfl rfl ?_
        refine r_iconst (pc' := 212) (v := 1) dX9_goes_211 (by decide) rfl ?_
        refine r_iadd (pc' := 213) dX9_goes_212 rfl ?_
        refine r_putI (pc' := 216) dX9_goes_213 fa_X9_82 hm.o rfl rfl ?_
        have h := lx_e h
        refine r_goto (tgt := 158) dX9_goes_216 rfl ?_
        exact ih  _ _ h hR hE
      · have h := ifn h22 h
        refine r_aload_n (pc' := 183) dX9_goes_182 rfl 0 rfl rfl ?_
        refine r_bipush (pc' := 185) (v := 10) dX9_goes_183 (by decide) rfl ?_
        refine r_aload_n (pc' := 186) dX9_goes_185 rfl 0 rfl rfl ?_
        refine r_getI (pc' := 189) dX9_goes_186 fa_X9_98 hm.o rfl rfl ?_
        refine r_imul (pc' := 190) dX9_goes_189 rfl ?_
        refine r_aload_n (pc' := 191) dX9_goes_190 rfl 0 rfl rfl ?_
        refine r_getO (pc' := 194) dX9_goes_191 fa_X9_26 hm.o rfl hm.r8 rfl ?_
        refine r_aload_n (pc' := 195) dX9_goes_194 rfl 0 rfl rfl ?_
        refine r_getI (pc' := 198) dX9_goes_195 fa_X9_82 hm.o rfl rfl ?_
        obtain ⟨g24, h⟩ := gd_e h
        refine r_baload (pc' := 199) dX9_goes_198 hm.c8 g24 rfl ?_
        refine r_iadd (pc' := 200) dX9_goes_199 rfl ?_
        refine r_bipush (pc' := 202) (v := 48) dX9_goes_200 (by decide) rfl ?_
        refine r_isub (pc' := 203) dX9_goes_202 rfl ?_
        refine r_putI (pc' := 206) dX9_goes_203 fa_X9_98 hm.o rfl rfl ?_
        have h := lx_e h
        refine r_aload_n (pc' := 207) dX9_goes_206 rfl 0 rfl rfl ?_
        refine r_dup (pc' := 208) dX9_goes_207 rfl rfl ?_
        refine r_getI (pc' := 211) dX9_goes_208 fa_X9_82 hm.o rfl rfl ?_
        refine r_iconst (pc' := 212) (v := 1) dX9_goes_211 (by decide) rfl ?_
        refine r_iadd (pc' := 213) dX9_goes_212 rfl ?_
        refine r_putI (pc' := 216) dX9_goes_213 fa_X9_82 hm.o rfl rfl ?_
        have h := lx_e h
        refine r_goto (tgt := 158) dX9_goes_216 rfl ?_
        exact ih  _ _ h hR hE
set_option maxHeartbeats 4000000 in
theorem l_X9_goes_L94 {Ω : JO} {S : JS} {Q : JQ} {m : Nat} (hm : Is9 S m) : ∀ (f : Nat) (I : JI) (o : (JI)), s_X9_goes_L94 m f I = some o → True → (∀ (J : JI) , o = (J) → AA Ω m_X9_goes (FQ Ω m_X9_goes Q) 0 0 118 [(0, .ref m)] [] J S) → AA Ω m_X9_goes (FQ Ω m_X9_goes Q) 0 0 94 [(0, .ref m)] [] I S := by
  intro f
  induction f with
  | zero =>
    intro I o h hR hE
    rw [s_X9_goes_L94] at h
    cases h
  | succ f ih =>
    intro I o h hR hE
    rw [s_X9_goes_L94] at h
    refine r_aload_n (pc' := 95) dX9_goes_94 rfl 0 rfl rfl ?_
    refine r_aload_n (pc' := 96) dX9_goes_95 rfl 0 rfl rfl ?_
    refine r_getI (pc' := 99) dX9_goes_96 fa_X9_82 hm.o rfl rfl ?_
    obtain ⟨z32, ez32, h⟩ := bd_e h
    refine r_callV1 (pc' := 102) (k' := 0) (n' := 0) dX9_goes_99 mb_X9_isSmall mi_X9_isSmall hm.o (by decide) rfl lk_X9_91 rfl rfl rfl (Nat.le_of_ble_eq_true rfl) rfl (c_X9_isSmall hm ez32 (cpI ?_))
    refine r_if_eq (tgt := 118) (pc' := 105) dX9_goes_102 rfl rfl (fun h33 => ?_) (fun h33 => ?_)
    · have h := ifn (zb_n0 h33) h
      cases h
      exact hE _ rfl
    · have h := ifp (zb_p0 h33) h
      refine r_aload_n (pc' := 106) dX9_goes_105 rfl 0 rfl rfl ?_
      refine r_dup (pc' := 107) dX9_goes_106 rfl rfl ?_
      refine r_getI (pc' := 110) dX9_goes_107 fa_X9_82 hm.o rfl rfl ?_
      refine r_iconst (pc' := 111) (v := 1) dX9_goes_110 (by decide) rfl ?_
      refine r_iadd (pc' := 112) dX9_goes_111 rfl ?_
      refine r_putI (pc' := 115) dX9_goes_112 fa_X9_82 hm.o rfl rfl ?_
      have h := lx_e h
      refine r_goto (tgt := 94) dX9_goes_115 rfl ?_
      exact ih  _ _ h hR hE
set_option maxHeartbeats 4000000 in
theorem c_X9_goes {Ω : JO} {I : JI} {S : JS} {Q : JQ} {m : Nat} {J : JI} (hm : Is9 S m) (h : s_X9_goes I m = some J) (hQ : Q (.inl none) J S) : Call Ω m_X9_goes [.ref m] I S Q := by
  refine call_of (by decide +kernel) rfl (Nat.le_of_ble_eq_true rfl) ?_
  change AA Ω m_X9_goes (FQ Ω m_X9_goes Q) 0 0 0 [(0, .ref m)] [] I S
  unfold s_X9_goes at h
  refine r_aload_n (pc' := 1) dX9_goes_0 rfl 0 rfl rfl ?_
  refine r_getI (pc' := 4) dX9_goes_1 fa_X9_68 hm.o rfl rfl ?_
  refine r_if_le (tgt := 8) (pc' := 7) dX9_goes_4 rfl rfl (fun h1 => ?_) (fun h1 => ?_)
  · have h := ifp h1 h
    obtain ⟨o7, eo7, h⟩ := bd_e h
    refine l_X9_goes_L8 (Ω := Ω) hm _ _ _ eo7 trivial (fun I6 q => ?_)
    subst q
    refine r_aload_n (pc' := 47) dX9_goes_46 rfl 0 rfl rfl ?_
    refine r_aload_n (pc' := 48) dX9_goes_47 rfl 0 rfl rfl ?_
    refine r_getI (pc' := 51) dX9_goes_48 fa_X9_82 hm.o rfl rfl ?_
    refine r_putI (pc' := 54) dX9_goes_51 fa_X9_85 hm.o rfl rfl ?_
    have h := lx_e h
    refine r_aload_n (pc' := 55) dX9_goes_54 rfl 0 rfl rfl ?_
    refine r_aload_n (pc' := 56) dX9_goes_55 rfl 0 rfl rfl ?_
    refine r_getI (pc' := 59) dX9_goes_56 fa_X9_82 hm.o rfl rfl ?_
    refine r_aload_n (pc' := 60) dX9_goes_59 rfl 0 rfl rfl ?_
    refine r_getI (pc' := 63) dX9_goes_60 fa_X9_75 hm.o rfl rfl ?_
    refine r_icmp_ne (tgt := 70) (pc' := 66) dX9_goes_63 rfl rfl (fun h9 => ?_) (fun h9 => ?_)
    · have h := ifn h9 h
      refine r_iconst (pc' := 71) (v := 0) dX9_goes_70 (by decide) rfl ?_
      refine r_putI (pc' := 74) dX9_goes_71 fa_X9_88 hm.o rfl rfl ?_
      have h := lx_e h
      refine r_aload_n (pc' := 75) dX9_goes_74 rfl 0 rfl rfl ?_
      refine r_getI (pc' := 78) dX9_goes_75 fa_X9_88 hm.o rfl rfl ?_
      refine r_iconst (pc' := 79) (v := 1) dX9_goes_78 (by decide) rfl ?_
      refine r_icmp_ne (tgt := 83) (pc' := 82) dX9_goes_79 rfl rfl (fun h11 => ?_) (fun h11 => ?_)
      · have h := ifn h11 h
        refine r_aload_n (pc' := 84) dX9_goes_83 rfl 0 rfl rfl ?_
        refine r_aload_n (pc' := 85) dX9_goes_84 rfl 0 rfl rfl ?_
        refine r_getI (pc' := 88) dX9_goes_85 fa_X9_82 hm.o rfl rfl ?_
        obtain ⟨z12, ez12, h⟩ := bd_e h
        refine r_callV1 (pc' := 91) (k' := 0) (n' := 0) dX9_goes_88 mb_X9_isSmall mi_X9_isSmall hm.o (by decide) rfl lk_X9_91 rfl rfl rfl (Nat.le_of_ble_eq_true rfl) rfl (c_X9_isSmall hm ez12 (cpI ?_))
        refine r_if_eq (tgt := 142) (pc' := 94) dX9_goes_91 rfl rfl (fun h13 => ?_) (fun h13 => ?_)
        · have h := ifn (zb_n0 h13) h
          refine r_aload_n (pc' := 143) dX9_goes_142 rfl 0 rfl rfl ?_
          refine r_aload_n (pc' := 144) dX9_goes_143 rfl 0 rfl rfl ?_
          refine r_getI (pc' := 147) dX9_goes_144 fa_X9_82 hm.o rfl rfl ?_
          obtain ⟨z14, ez14, h⟩ := bd_e h
          refine r_callV1 (pc' := 150) (k' := 0) (n' := 0) dX9_goes_147 mb_X9_isDigit mi_X9_isDigit hm.o (by decide) rfl lk_X9_95 rfl rfl rfl (Nat.le_of_ble_eq_true rfl) rfl (c_X9_isDigit hm ez14 (cpI ?_))
          refine r_if_eq (tgt := 242) (pc' := 153) dX9_goes_150 rfl rfl (fun h15 => ?_) (fun h15 => ?_)
          · have h := ifn (zb_n0 h15) h
            refine r_aload_n (pc' := 243) dX9_goes_242 rfl 0 rfl rfl ?_
            refine r_aload_n (pc' := 244) dX9_goes_243 rfl 0 rfl rfl ?_
            refine r_getO (pc' := 247) dX9_goes_244 fa_X9_26 hm.o rfl hm.r8 rfl ?_
            refine r_aload_n (pc' := 248) dX9_goes_247 rfl 0 rfl rfl ?_
            refine r_getI (pc' := 251) dX9_goes_248 fa_X9_82 hm.o rfl rfl ?_
            obtain ⟨g16, h⟩ := gd_e h
            refine r_baload (pc' := 252) dX9_goes_251 hm.c8 g16 rfl ?_
            refine r_callS1 (pc' := 255) (k' := 0) (n' := 0) dX9_goes_252 mb_X9_signOf ms_X9_signOf lk_X9_101 rfl rfl rfl (Nat.le_of_ble_eq_true rfl) rfl (c_X9_signOf rfl (cpI ?_))
            refine r_putI (pc' := 258) dX9_goes_255 fa_X9_88 hm.o rfl rfl ?_
            have h := lx_e h
            refine r_aload_n (pc' := 259) dX9_goes_258 rfl 0 rfl rfl ?_
            refine r_dup (pc' := 260) dX9_goes_259 rfl rfl ?_
            refine r_getI (pc' := 263) dX9_goes_260 fa_X9_82 hm.o rfl rfl ?_
            refine r_iconst (pc' := 264) (v := 1) dX9_goes_263 (by decide) rfl ?_
            refine r_iadd (pc' := 265) dX9_goes_264 rfl ?_
            refine r_putI (pc' := 268) dX9_goes_265 fa_X9_82 hm.o rfl rfl ?_
            have h := lx_e h
            cases h
            exact r_ret dX9_goes_268 rfl (by decide) (by decide) hQ
          · have h := ifp (zb_p0 h15) h
            refine r_aload_n (pc' := 154) dX9_goes_153 rfl 0 rfl rfl ?_
            refine r_iconst (pc' := 155) (v := 0) dX9_goes_154 (by decide) rfl ?_
            refine r_putI (pc' := 158) dX9_goes_155 fa_X9_98 hm.o rfl rfl ?_
            have h := lx_e h
            obtain ⟨o28, eo28, h⟩ := bd_e h
            refine l_X9_goes_L158 (Ω := Ω) hm _ _ _ eo28 trivial (fun I27 q => ?_)
            subst q
            refine r_aload_n (pc' := 220) dX9_goes_219 rfl 0 rfl rfl ?_
            refine r_aload_n (pc' := 221) dX9_goes_220 rfl 0 rfl rfl ?_
            refine r_getI (pc' := 224) dX9_goes_221 fa_X9_82 hm.o rfl rfl ?_
            refine r_aload_n (pc' := 225) dX9_goes_224 rfl 0 rfl rfl ?_
            refine r_getI (pc' := 228) dX9_goes_225 fa_X9_85 hm.o rfl rfl ?_
            refine r_isub (pc' := 229) dX9_goes_228 rfl ?_
            refine r_iconst (pc' := 230) (v := 3) dX9_goes_229 (by decide) rfl ?_
            refine r_icmp_gt (tgt := 237) (pc' := 233) dX9_goes_230 rfl rfl (fun h29 => ?_) (fun h29 => ?_)
            · have h := ifp h29 h
              refine r_iconst (pc' := 238) (v := 0) dX9_goes_237 (by decide) rfl ?_
              refine r_putI (pc' := 241) dX9_goes_238 fa_X9_88 hm.o rfl rfl ?_
              have h := lx_e h
              cases h
              exact r_ret dX9_goes_241 rfl (by decide) (by decide) hQ
            · have h := ifn h29 h
              refine r_iconst (pc' := 234) (v := 3) dX9_goes_233 (by decide) rfl ?_
              refine r_goto (tgt := 238) dX9_goes_234 rfl ?_
              refine r_putI (pc' := 241) dX9_goes_238 fa_X9_88 hm.o rfl rfl ?_
              have h := lx_e h
              cases h
              exact r_ret dX9_goes_241 rfl (by decide) (by decide) hQ
        · have h := ifp (zb_p0 h13) h
          obtain ⟨o36, eo36, h⟩ := bd_e h
          refine l_X9_goes_L94 (Ω := Ω) hm _ _ _ eo36 trivial (fun I35 q => ?_)
          subst q
          refine r_aload_n (pc' := 119) dX9_goes_118 rfl 0 rfl rfl ?_
          refine r_aload_n (pc' := 120) dX9_goes_119 rfl 0 rfl rfl ?_
          refine r_getI (pc' := 123) dX9_goes_120 fa_X9_82 hm.o rfl rfl ?_
          refine r_aload_n (pc' := 124) dX9_goes_123 rfl 0 rfl rfl ?_
          refine r_getI (pc' := 127) dX9_goes_124 fa_X9_85 hm.o rfl rfl ?_
          refine r_isub (pc' := 128) dX9_goes_127 rfl ?_
          refine r_bipush (pc' := 130) (v := 7) dX9_goes_128 (by decide) rfl ?_
          refine r_icmp_gt (tgt := 137) (pc' := 133) dX9_goes_130 rfl rfl (fun h37 => ?_) (fun h37 => ?_)
          · have h := ifp h37 h
            refine r_iconst (pc' := 138) (v := 0) dX9_goes_137 (by decide) rfl ?_
            refine r_putI (pc' := 141) dX9_goes_138 fa_X9_88 hm.o rfl rfl ?_
            have h := lx_e h
            cases h
            exact r_ret dX9_goes_141 rfl (by decide) (by decide) hQ
          · have h := ifn h37 h
            refine r_iconst (pc' := 134) (v := 2) dX9_goes_133 (by decide) rfl ?_
            refine r_goto (tgt := 138) dX9_goes_134 rfl ?_
            refine r_putI (pc' := 141) dX9_goes_138 fa_X9_88 hm.o rfl rfl ?_
            have h := lx_e h
            cases h
            exact r_ret dX9_goes_141 rfl (by decide) (by decide) hQ
      · have h := ifp h11 h
        cases h
        exact r_ret dX9_goes_82 rfl (by decide) (by decide) hQ
    · have h := ifp h9 h
      refine r_iconst (pc' := 67) (v := 1) dX9_goes_66 (by decide) rfl ?_
      refine r_goto (tgt := 71) dX9_goes_67 rfl ?_
      refine r_putI (pc' := 74) dX9_goes_71 fa_X9_88 hm.o rfl rfl ?_
      have h := lx_e h
      refine r_aload_n (pc' := 75) dX9_goes_74 rfl 0 rfl rfl ?_
      refine r_getI (pc' := 78) dX9_goes_75 fa_X9_88 hm.o rfl rfl ?_
      refine r_iconst (pc' := 79) (v := 1) dX9_goes_78 (by decide) rfl ?_
      refine r_icmp_ne (tgt := 83) (pc' := 82) dX9_goes_79 rfl rfl (fun h41 => ?_) (fun h41 => ?_)
      · have h := ifn h41 h
        refine r_aload_n (pc' := 84) dX9_goes_83 rfl 0 rfl rfl ?_
        refine r_aload_n (pc' := 85) dX9_goes_84 rfl 0 rfl rfl ?_
        refine r_getI (pc' := 88) dX9_goes_85 fa_X9_82 hm.o rfl rfl ?_
        obtain ⟨z42, ez42, h⟩ := bd_e h
        refine r_callV1 (pc' := 91) (k' := 0) (n' := 0) dX9_goes_88 mb_X9_isSmall mi_X9_isSmall hm.o (by decide) rfl lk_X9_91 rfl rfl rfl (Nat.le_of_ble_eq_true rfl) rfl (c_X9_isSmall hm ez42 (cpI ?_))
        refine r_if_eq (tgt := 142) (pc' := 94) dX9_goes_91 rfl rfl (fun h43 => ?_) (fun h43 => ?_)
        · have h := ifn (zb_n0 h43) h
          refine r_aload_n (pc' := 143) dX9_goes_142 rfl 0 rfl rfl ?_
          refine r_aload_n (pc' := 144) dX9_goes_143 rfl 0 rfl rfl ?_
          refine r_getI (pc' := 147) dX9_goes_144 fa_X9_82 hm.o rfl rfl ?_
          obtain ⟨z44, ez44, h⟩ := bd_e h
          refine r_callV1 (pc' := 150) (k' := 0) (n' := 0) dX9_goes_147 mb_X9_isDigit mi_X9_isDigit hm.o (by decide) rfl lk_X9_95 rfl rfl rfl (Nat.le_of_ble_eq_true rfl) rfl (c_X9_isDigit hm ez44 (cpI ?_))
          refine r_if_eq (tgt := 242) (pc' := 153) dX9_goes_150 rfl rfl (fun h45 => ?_) (fun h45 => ?_)
          · have h := ifn (zb_n0 h45) h
            refine r_aload_n (pc' := 243) dX9_goes_242 rfl 0 rfl rfl ?_
            refine r_aload_n (pc' := 244) dX9_goes_243 rfl 0 rfl rfl ?_
            refine r_getO (pc' := 247) dX9_goes_244 fa_X9_26 hm.o rfl hm.r8 rfl ?_
            refine r_aload_n (pc' := 248) dX9_goes_247 rfl 0 rfl rfl ?_
            refine r_getI (pc' := 251) dX9_goes_248 fa_X9_82 hm.o rfl rfl ?_
            obtain ⟨g46, h⟩ := gd_e h
            refine r_baload (pc' := 252) dX9_goes_251 hm.c8 g46 rfl ?_
            refine r_callS1 (pc' := 255) (k' := 0) (n' := 0) dX9_goes_252 mb_X9_signOf ms_X9_signOf lk_X9_101 rfl rfl rfl (Nat.le_of_ble_eq_true rfl) rfl (c_X9_signOf rfl (cpI ?_))
            refine r_putI (pc' := 258) dX9_goes_255 fa_X9_88 hm.o rfl rfl ?_
            have h := lx_e h
            refine r_aload_n (pc' := 259) dX9_goes_258 rfl 0 rfl rfl ?_
            refine r_dup (pc' := 260) dX9_goes_259 rfl rfl ?_
            refine r_getI (pc' := 263) dX9_goes_260 fa_X9_82 hm.o rfl rfl ?_
            refine r_iconst (pc' := 264) (v := 1) dX9_goes_263 (by decide) rfl ?_
            refine r_iadd (pc' := 265) dX9_goes_264 rfl ?_
            refine r_putI (pc' := 268) dX9_goes_265 fa_X9_82 hm.o rfl rfl ?_
            have h := lx_e h
            cases h
            exact r_ret dX9_goes_268 rfl (by decide) (by decide) hQ
          · have h := ifp (zb_p0 h45) h
            refine r_aload_n (pc' := 154) dX9_goes_153 rfl 0 rfl rfl ?_
            refine r_iconst (pc' := 155) (v := 0) dX9_goes_154 (by decide) rfl ?_
            refine r_putI (pc' := 158) dX9_goes_155 fa_X9_98 hm.o rfl rfl ?_
            have h := lx_e h
            obtain ⟨o51, eo51, h⟩ := bd_e h
            refine l_X9_goes_L158 (Ω := Ω) hm _ _ _ eo51 trivial (fun I50 q => ?_)
            subst q
            refine r_aload_n (pc' := 220) dX9_goes_219 rfl 0 rfl rfl ?_
            refine r_aload_n (pc' := 221) dX9_goes_220 rfl 0 rfl rfl ?_
            refine r_getI (pc' := 224) dX9_goes_221 fa_X9_82 hm.o rfl rfl ?_
            refine r_aload_n (pc' := 225) dX9_goes_224 rfl 0 rfl rfl ?_
            refine r_getI (pc' := 228) dX9_goes_225 fa_X9_85 hm.o rfl rfl ?_
            refine r_isub (pc' := 229) dX9_goes_228 rfl ?_
            refine r_iconst (pc' := 230) (v := 3) dX9_goes_229 (by decide) rfl ?_
            refine r_icmp_gt (tgt := 237) (pc' := 233) dX9_goes_230 rfl rfl (fun h52 => ?_) (fun h52 => ?_)
            · have h := ifp h52 h
              refine r_iconst (pc' := 238) (v := 0) dX9_goes_237 (by decide) rfl ?_
              refine r_putI (pc' := 241) dX9_goes_238 fa_X9_88 hm.o rfl rfl ?_
              have h := lx_e h
              cases h
              exact r_ret dX9_goes_241 rfl (by decide) (by decide) hQ
            · have h := ifn h52 h
              refine r_iconst (pc' := 234) (v := 3) dX9_goes_233 (by decide) rfl ?_
              refine r_goto (tgt := 238) dX9_goes_234 rfl ?_
              refine r_putI (pc' := 241) dX9_goes_238 fa_X9_88 hm.o rfl rfl ?_
              have h := lx_e h
              cases h
              exact r_ret dX9_goes_241 rfl (by decide) (by decide) hQ
        · have h := ifp (zb_p0 h43) h
          obtain ⟨o56, eo56, h⟩ := bd_e h
          refine l_X9_goes_L94 (Ω := Ω) hm _ _ _ eo56 trivial (fun I55 q => ?_)
          subst q
          refine r_aload_n (pc' := 119) dX9_goes_118 rfl 0 rfl rfl ?_
          refine r_aload_n (pc' := 120) dX9_goes_119 rfl 0 rfl rfl ?_
          refine r_getI (pc' := 123) dX9_goes_120 fa_X9_82 hm.o rfl rfl ?_
          refine r_aload_n (pc' := 124) dX9_goes_123 rfl 0 rfl rfl ?_
          refine r_getI (pc' := 127) dX9_goes_124 fa_X9_85 hm.o rfl rfl ?_
          refine r_isub (pc' := 128) dX9_goes_127 rfl ?_
          refine r_bipush (pc' := 130) (v := 7) dX9_goes_128 (by decide) rfl ?_
          refine r_icmp_gt (tgt := 137) (pc' := 133) dX9_goes_130 rfl rfl (fun h57 => ?_) (fun h57 => ?_)
          · have h := ifp h57 h
            refine r_iconst (pc' := 138) (v := 0) dX9_goes_137 (by decide) rfl ?_
            refine r_putI (pc' := 141) dX9_goes_138 fa_X9_88 hm.o rfl rfl ?_
            have h := lx_e h
            cases h
            exact r_ret dX9_goes_141 rfl (by decide) (by decide) hQ
          · have h := ifn h57 h
            refine r_iconst (pc' := 134) (v := 2) dX9_goes_133 (by decide) rfl ?_
            refine r_goto (tgt := 138) dX9_goes_134 rfl ?_
            refine r_putI (pc' := 141) dX9_goes_138 fa_X9_88 hm.o rfl rfl ?_
            have h := lx_e h
            cases h
            exact r_ret dX9_goes_141 rfl (by decide) (by decide) hQ
      · have h := ifp h41 h
        cases h
        exact r_ret dX9_goes_82 rfl (by decide) (by decide) hQ
  · have h := ifn h1 h
    cases h
    exact r_ret dX9_goes_7 rfl (by decide) (by decide) hQ
theorem frl_X9_goes_L8 {m : Nat} {z : Nat} (hz_m : z ≠ m) : ∀ (f : Nat) (I : JI) (o : (JI)), s_X9_goes_L8 m f I = some o → (∀ (J : JI), o = (J) → J z = I z) := by
  intro f
  induction f with
  | zero =>
    intro I o h
    rw [s_X9_goes_L8] at h
    cases h
  | succ f ih =>
    intro I o h
    rw [s_X9_goes_L8] at h
    rcases if_e h with h | h
    · cases h
      intro _ q
      cases q
      exact rfl
    · obtain ⟨g1, h⟩ := gd_e h
      rcases if_e h with h | h
      · have h := lx_e h
        intro _ q
        exact ((ih  _ _ h) _ q).trans ((fr_stI (by omega)).trans rfl)
      · cases h
        intro _ q
        cases q
        exact rfl
theorem frl_X9_goes_L158 {m : Nat} {z : Nat} (hz_m : z ≠ m) : ∀ (f : Nat) (I : JI) (o : (JI)), s_X9_goes_L158 m f I = some o → (∀ (J : JI), o = (J) → J z = I z) := by
  intro f
  induction f with
  | zero =>
    intro I o h
    rw [s_X9_goes_L158] at h
    cases h
  | succ f ih =>
    intro I o h
    rw [s_X9_goes_L158] at h
    obtain ⟨o1, e1, h⟩ := bd_e h
    rcases if_e h with h | h
    · rcases if_e h with h | h
      · have h := lx_e h
        intro _ q
        exact ((ih  _ _ h) _ q).trans ((fr_stI (by omega)).trans rfl)
      · obtain ⟨g2, h⟩ := gd_e h
        have h := lx_e h
        have h := lx_e h
        intro _ q
        exact ((ih  _ _ h) _ q).trans ((fr_stI (by omega)).trans ((fr_stI (by omega)).trans rfl))
    · cases h
      intro _ q
      cases q
      exact rfl
theorem frl_X9_goes_L94 {m : Nat} {z : Nat} (hz_m : z ≠ m) : ∀ (f : Nat) (I : JI) (o : (JI)), s_X9_goes_L94 m f I = some o → (∀ (J : JI), o = (J) → J z = I z) := by
  intro f
  induction f with
  | zero =>
    intro I o h
    rw [s_X9_goes_L94] at h
    cases h
  | succ f ih =>
    intro I o h
    rw [s_X9_goes_L94] at h
    obtain ⟨o1, e1, h⟩ := bd_e h
    rcases if_e h with h | h
    · have h := lx_e h
      intro _ q
      exact ((ih  _ _ h) _ q).trans ((fr_stI (by omega)).trans rfl)
    · cases h
      intro _ q
      cases q
      exact rfl
set_option maxHeartbeats 4000000 in
theorem fr_X9_goes {I : JI} {m : Nat} {J : JI} {z : Nat} (h : s_X9_goes I m = some J) (hz_m : z ≠ m) : J z = I z := by
  unfold s_X9_goes at h
  rcases if_e h with h | h
  · obtain ⟨I6, e1, h⟩ := bd_e h
    have h := lx_e h
    rcases if_e h with h | h
    · have h := lx_e h
      rcases if_e h with h | h
      · cases h
        exact ((fr_stI (by omega)).trans ((fr_stI (by omega)).trans (((frl_X9_goes_L8 hz_m _  _ _ e1) _ rfl).trans rfl)))
      · obtain ⟨o2, e2, h⟩ := bd_e h
        rcases if_e h with h | h
        · obtain ⟨I55, e3, h⟩ := bd_e h
          rcases if_e h with h | h
          · have h := lx_e h
            cases h
            exact ((fr_stI (by omega)).trans (((frl_X9_goes_L94 hz_m _  _ _ e3) _ rfl).trans ((fr_stI (by omega)).trans ((fr_stI (by omega)).trans (((frl_X9_goes_L8 hz_m _  _ _ e1) _ rfl).trans rfl)))))
          · have h := lx_e h
            cases h
            exact ((fr_stI (by omega)).trans (((frl_X9_goes_L94 hz_m _  _ _ e3) _ rfl).trans ((fr_stI (by omega)).trans ((fr_stI (by omega)).trans (((frl_X9_goes_L8 hz_m _  _ _ e1) _ rfl).trans rfl)))))
        · obtain ⟨o4, e4, h⟩ := bd_e h
          rcases if_e h with h | h
          · have h := lx_e h
            obtain ⟨I50, e5, h⟩ := bd_e h
            rcases if_e h with h | h
            · have h := lx_e h
              cases h
              exact ((fr_stI (by omega)).trans (((frl_X9_goes_L158 hz_m _  _ _ e5) _ rfl).trans ((fr_stI (by omega)).trans ((fr_stI (by omega)).trans ((fr_stI (by omega)).trans (((frl_X9_goes_L8 hz_m _  _ _ e1) _ rfl).trans rfl))))))
            · have h := lx_e h
              cases h
              exact ((fr_stI (by omega)).trans (((frl_X9_goes_L158 hz_m _  _ _ e5) _ rfl).trans ((fr_stI (by omega)).trans ((fr_stI (by omega)).trans ((fr_stI (by omega)).trans (((frl_X9_goes_L8 hz_m _  _ _ e1) _ rfl).trans rfl))))))
          · obtain ⟨g6, h⟩ := gd_e h
            have h := lx_e h
            have h := lx_e h
            cases h
            exact ((fr_stI (by omega)).trans ((fr_stI (by omega)).trans ((fr_stI (by omega)).trans ((fr_stI (by omega)).trans (((frl_X9_goes_L8 hz_m _  _ _ e1) _ rfl).trans rfl)))))
    · have h := lx_e h
      rcases if_e h with h | h
      · cases h
        exact ((fr_stI (by omega)).trans ((fr_stI (by omega)).trans (((frl_X9_goes_L8 hz_m _  _ _ e1) _ rfl).trans rfl)))
      · obtain ⟨o7, e7, h⟩ := bd_e h
        rcases if_e h with h | h
        · obtain ⟨I35, e8, h⟩ := bd_e h
          rcases if_e h with h | h
          · have h := lx_e h
            cases h
            exact ((fr_stI (by omega)).trans (((frl_X9_goes_L94 hz_m _  _ _ e8) _ rfl).trans ((fr_stI (by omega)).trans ((fr_stI (by omega)).trans (((frl_X9_goes_L8 hz_m _  _ _ e1) _ rfl).trans rfl)))))
          · have h := lx_e h
            cases h
            exact ((fr_stI (by omega)).trans (((frl_X9_goes_L94 hz_m _  _ _ e8) _ rfl).trans ((fr_stI (by omega)).trans ((fr_stI (by omega)).trans (((frl_X9_goes_L8 hz_m _  _ _ e1) _ rfl).trans rfl)))))
        · obtain ⟨o9, e9, h⟩ := bd_e h
          rcases if_e h with h | h
          · have h := lx_e h
            obtain ⟨I27, e10, h⟩ := bd_e h
            rcases if_e h with h | h
            · have h := lx_e h
              cases h
              exact ((fr_stI (by omega)).trans (((frl_X9_goes_L158 hz_m _  _ _ e10) _ rfl).trans ((fr_stI (by omega)).trans ((fr_stI (by omega)).trans ((fr_stI (by omega)).trans (((frl_X9_goes_L8 hz_m _  _ _ e1) _ rfl).trans rfl))))))
            · have h := lx_e h
              cases h
              exact ((fr_stI (by omega)).trans (((frl_X9_goes_L158 hz_m _  _ _ e10) _ rfl).trans ((fr_stI (by omega)).trans ((fr_stI (by omega)).trans ((fr_stI (by omega)).trans (((frl_X9_goes_L8 hz_m _  _ _ e1) _ rfl).trans rfl))))))
          · obtain ⟨g11, h⟩ := gd_e h
            have h := lx_e h
            have h := lx_e h
            cases h
            exact ((fr_stI (by omega)).trans ((fr_stI (by omega)).trans ((fr_stI (by omega)).trans ((fr_stI (by omega)).trans (((frl_X9_goes_L8 hz_m _  _ _ e1) _ rfl).trans rfl)))))
  · cases h
    exact rfl
theorem ffl_X9_goes_L8 {m : Nat} {k : Nat} (hk13 : k ≠ 13) (hk14 : k ≠ 14) (hk15 : k ≠ 15) (hk16 : k ≠ 16) : ∀ (f : Nat) (I : JI) (o : (JI)), s_X9_goes_L8 m f I = some o → (∀ (J : JI), o = (J) → J m k = I m k) := by
  intro f
  induction f with
  | zero =>
    intro I o h
    rw [s_X9_goes_L8] at h
    cases h
  | succ f ih =>
    intro I o h
    rw [s_X9_goes_L8] at h
    rcases if_e h with h | h
    · cases h
      intro _ q
      cases q
      exact rfl
    · obtain ⟨g1, h⟩ := gd_e h
      rcases if_e h with h | h
      · have h := lx_e h
        intro _ q
        exact ((ih  _ _ h) _ q).trans ((ff_stI hk13).trans rfl)
      · cases h
        intro _ q
        cases q
        exact rfl
theorem ffl_X9_goes_L158 {m : Nat} {k : Nat} (hk13 : k ≠ 13) (hk14 : k ≠ 14) (hk15 : k ≠ 15) (hk16 : k ≠ 16) : ∀ (f : Nat) (I : JI) (o : (JI)), s_X9_goes_L158 m f I = some o → (∀ (J : JI), o = (J) → J m k = I m k) := by
  intro f
  induction f with
  | zero =>
    intro I o h
    rw [s_X9_goes_L158] at h
    cases h
  | succ f ih =>
    intro I o h
    rw [s_X9_goes_L158] at h
    obtain ⟨o1, e1, h⟩ := bd_e h
    rcases if_e h with h | h
    · rcases if_e h with h | h
      · have h := lx_e h
        intro _ q
        exact ((ih  _ _ h) _ q).trans ((ff_stI hk13).trans rfl)
      · obtain ⟨g2, h⟩ := gd_e h
        have h := lx_e h
        have h := lx_e h
        intro _ q
        exact ((ih  _ _ h) _ q).trans ((ff_stI hk13).trans ((ff_stI hk16).trans rfl))
    · cases h
      intro _ q
      cases q
      exact rfl
theorem ffl_X9_goes_L94 {m : Nat} {k : Nat} (hk13 : k ≠ 13) (hk14 : k ≠ 14) (hk15 : k ≠ 15) (hk16 : k ≠ 16) : ∀ (f : Nat) (I : JI) (o : (JI)), s_X9_goes_L94 m f I = some o → (∀ (J : JI), o = (J) → J m k = I m k) := by
  intro f
  induction f with
  | zero =>
    intro I o h
    rw [s_X9_goes_L94] at h
    cases h
  | succ f ih =>
    intro I o h
    rw [s_X9_goes_L94] at h
    obtain ⟨o1, e1, h⟩ := bd_e h
    rcases if_e h with h | h
    · have h := lx_e h
      intro _ q
      exact ((ih  _ _ h) _ q).trans ((ff_stI hk13).trans rfl)
    · cases h
      intro _ q
      cases q
      exact rfl
set_option maxHeartbeats 4000000 in
theorem ff_X9_goes {I : JI} {m : Nat} {J : JI} {k : Nat} (h : s_X9_goes I m = some J) (hk13 : k ≠ 13) (hk14 : k ≠ 14) (hk15 : k ≠ 15) (hk16 : k ≠ 16) : J m k = I m k := by
  unfold s_X9_goes at h
  rcases if_e h with h | h
  · obtain ⟨I6, e1, h⟩ := bd_e h
    have h := lx_e h
    rcases if_e h with h | h
    · have h := lx_e h
      rcases if_e h with h | h
      · cases h
        exact ((ff_stI hk15).trans ((ff_stI hk14).trans (((ffl_X9_goes_L8 hk13 hk14 hk15 hk16 _  _ _ e1) _ rfl).trans rfl)))
      · obtain ⟨o2, e2, h⟩ := bd_e h
        rcases if_e h with h | h
        · obtain ⟨I55, e3, h⟩ := bd_e h
          rcases if_e h with h | h
          · have h := lx_e h
            cases h
            exact ((ff_stI hk15).trans (((ffl_X9_goes_L94 hk13 hk14 hk15 hk16 _  _ _ e3) _ rfl).trans ((ff_stI hk15).trans ((ff_stI hk14).trans (((ffl_X9_goes_L8 hk13 hk14 hk15 hk16 _  _ _ e1) _ rfl).trans rfl)))))
          · have h := lx_e h
            cases h
            exact ((ff_stI hk15).trans (((ffl_X9_goes_L94 hk13 hk14 hk15 hk16 _  _ _ e3) _ rfl).trans ((ff_stI hk15).trans ((ff_stI hk14).trans (((ffl_X9_goes_L8 hk13 hk14 hk15 hk16 _  _ _ e1) _ rfl).trans rfl)))))
        · obtain ⟨o4, e4, h⟩ := bd_e h
          rcases if_e h with h | h
          · have h := lx_e h
            obtain ⟨I50, e5, h⟩ := bd_e h
            rcases if_e h with h | h
            · have h := lx_e h
              cases h
              exact ((ff_stI hk15).trans (((ffl_X9_goes_L158 hk13 hk14 hk15 hk16 _  _ _ e5) _ rfl).trans ((ff_stI hk16).trans ((ff_stI hk15).trans ((ff_stI hk14).trans (((ffl_X9_goes_L8 hk13 hk14 hk15 hk16 _  _ _ e1) _ rfl).trans rfl))))))
            · have h := lx_e h
              cases h
              exact ((ff_stI hk15).trans (((ffl_X9_goes_L158 hk13 hk14 hk15 hk16 _  _ _ e5) _ rfl).trans ((ff_stI hk16).trans ((ff_stI hk15).trans ((ff_stI hk14).trans (((ffl_X9_goes_L8 hk13 hk14 hk15 hk16 _  _ _ e1) _ rfl).trans rfl))))))
          · obtain ⟨g6, h⟩ := gd_e h
            have h := lx_e h
            have h := lx_e h
            cases h
            exact ((ff_stI hk13).trans ((ff_stI hk15).trans ((ff_stI hk15).trans ((ff_stI hk14).trans (((ffl_X9_goes_L8 hk13 hk14 hk15 hk16 _  _ _ e1) _ rfl).trans rfl)))))
    · have h := lx_e h
      rcases if_e h with h | h
      · cases h
        exact ((ff_stI hk15).trans ((ff_stI hk14).trans (((ffl_X9_goes_L8 hk13 hk14 hk15 hk16 _  _ _ e1) _ rfl).trans rfl)))
      · obtain ⟨o7, e7, h⟩ := bd_e h
        rcases if_e h with h | h
        · obtain ⟨I35, e8, h⟩ := bd_e h
          rcases if_e h with h | h
          · have h := lx_e h
            cases h
            exact ((ff_stI hk15).trans (((ffl_X9_goes_L94 hk13 hk14 hk15 hk16 _  _ _ e8) _ rfl).trans ((ff_stI hk15).trans ((ff_stI hk14).trans (((ffl_X9_goes_L8 hk13 hk14 hk15 hk16 _  _ _ e1) _ rfl).trans rfl)))))
          · have h := lx_e h
            cases h
            exact ((ff_stI hk15).trans (((ffl_X9_goes_L94 hk13 hk14 hk15 hk16 _  _ _ e8) _ rfl).trans ((ff_stI hk15).trans ((ff_stI hk14).trans (((ffl_X9_goes_L8 hk13 hk14 hk15 hk16 _  _ _ e1) _ rfl).trans rfl)))))
        · obtain ⟨o9, e9, h⟩ := bd_e h
          rcases if_e h with h | h
          · have h := lx_e h
            obtain ⟨I27, e10, h⟩ := bd_e h
            rcases if_e h with h | h
            · have h := lx_e h
              cases h
              exact ((ff_stI hk15).trans (((ffl_X9_goes_L158 hk13 hk14 hk15 hk16 _  _ _ e10) _ rfl).trans ((ff_stI hk16).trans ((ff_stI hk15).trans ((ff_stI hk14).trans (((ffl_X9_goes_L8 hk13 hk14 hk15 hk16 _  _ _ e1) _ rfl).trans rfl))))))
            · have h := lx_e h
              cases h
              exact ((ff_stI hk15).trans (((ffl_X9_goes_L158 hk13 hk14 hk15 hk16 _  _ _ e10) _ rfl).trans ((ff_stI hk16).trans ((ff_stI hk15).trans ((ff_stI hk14).trans (((ffl_X9_goes_L8 hk13 hk14 hk15 hk16 _  _ _ e1) _ rfl).trans rfl))))))
          · obtain ⟨g11, h⟩ := gd_e h
            have h := lx_e h
            have h := lx_e h
            cases h
            exact ((ff_stI hk13).trans ((ff_stI hk15).trans ((ff_stI hk15).trans ((ff_stI hk14).trans (((ffl_X9_goes_L8 hk13 hk14 hk15 hk16 _  _ _ e1) _ rfl).trans rfl)))))
  · cases h
    exact rfl
noncomputable def s_X9_faults (I : JI) (m : Nat) (x1 : Int32) : JI :=
  if (I m 10) ≤ 0 then (lx (stI I m 10 x1) fun I2 => lx (stI I2 m 11 (I2 m 14)) fun I3 => I3) else I
set_option maxHeartbeats 4000000 in
theorem c_X9_faults {Ω : JO} {I : JI} {S : JS} {Q : JQ} {m : Nat} {x1 : Int32} {J : JI} (hm : Is9 S m) (h : s_X9_faults I m x1 = J) (hQ : Q (.inl none) J S) : Call Ω m_X9_faults [.ref m, .int x1] I S Q := by
  refine call_of (by decide +kernel) rfl (Nat.le_of_ble_eq_true rfl) ?_
  change AA Ω m_X9_faults (FQ Ω m_X9_faults Q) 0 0 0 [(0, .ref m), (1, .int x1)] [] I S
  unfold s_X9_faults at h
  refine r_aload_n (pc' := 1) dX9_faults_0 rfl 0 rfl rfl ?_
  refine r_getI (pc' := 4) dX9_faults_1 fa_X9_68 hm.o rfl rfl ?_
  refine r_if_le (tgt := 8) (pc' := 7) dX9_faults_4 rfl rfl (fun h1 => ?_) (fun h1 => ?_)
  · have h := ifp h1 h
    refine r_aload_n (pc' := 9) dX9_faults_8 rfl 0 rfl rfl ?_
    refine r_iload_n (pc' := 10) dX9_faults_9 rfl 1 rfl rfl ?_
    refine r_putI (pc' := 13) dX9_faults_10 fa_X9_68 hm.o rfl rfl ?_
    have h := lx_e h
    refine r_aload_n (pc' := 14) dX9_faults_13 rfl 0 rfl rfl ?_
    refine r_aload_n (pc' := 15) dX9_faults_14 rfl 0 rfl rfl ?_
    refine r_getI (pc' := 18) dX9_faults_15 fa_X9_85 hm.o rfl rfl ?_
    refine r_putI (pc' := 21) dX9_faults_18 fa_X9_30 hm.o rfl rfl ?_
    have h := lx_e h
    subst h
    exact r_ret dX9_faults_21 rfl (by decide) (by decide) hQ
  · have h := ifn h1 h
    subst h
    exact r_ret dX9_faults_7 rfl (by decide) (by decide) hQ
set_option maxHeartbeats 4000000 in
theorem fr_X9_faults {I : JI} {m : Nat} {x1 : Int32} {z : Nat} (hz_m : z ≠ m) : s_X9_faults I m x1 z = I z := by
  generalize h : s_X9_faults I m x1 = J
  unfold s_X9_faults at h
  rcases if_e h with h | h
  · have h := lx_e h
    have h := lx_e h
    subst h
    exact ((fr_stI (by omega)).trans ((fr_stI (by omega)).trans rfl))
  · subst h
    exact rfl
set_option maxHeartbeats 4000000 in
theorem ff_X9_faults {I : JI} {m : Nat} {x1 : Int32} {k : Nat} (hk10 : k ≠ 10) (hk11 : k ≠ 11) : s_X9_faults I m x1 m k = I m k := by
  generalize h : s_X9_faults I m x1 = J
  unfold s_X9_faults at h
  rcases if_e h with h | h
  · have h := lx_e h
    have h := lx_e h
    subst h
    exact ((ff_stI hk11).trans ((ff_stI hk10).trans rfl))
  · subst h
    exact rfl
noncomputable def s_X9_refuses (I : JI) (m : Nat) (b1 : Bool) : JI :=
  if (I m 10) = 0 then (if b1 = true then (lx (s_X9_faults I m 3) fun I3 => I3) else I) else I
set_option maxHeartbeats 4000000 in
theorem c_X9_refuses {Ω : JO} {I : JI} {S : JS} {Q : JQ} {m : Nat} {b1 : Bool} {J : JI} (hm : Is9 S m) (h : s_X9_refuses I m b1 = J) (hQ : Q (.inl none) J S) : Call Ω m_X9_refuses [.ref m, .int (zb b1)] I S Q := by
  refine call_of (by decide +kernel) rfl (Nat.le_of_ble_eq_true rfl) ?_
  change AA Ω m_X9_refuses (FQ Ω m_X9_refuses Q) 0 0 0 [(0, .ref m), (1, .int (zb b1))] [] I S
  unfold s_X9_refuses at h
  refine r_aload_n (pc' := 1) dX9_refuses_0 rfl 0 rfl rfl ?_
  refine r_getI (pc' := 4) dX9_refuses_1 fa_X9_68 hm.o rfl rfl ?_
  refine r_if_ne (tgt := 16) (pc' := 7) dX9_refuses_4 rfl rfl (fun h1 => ?_) (fun h1 => ?_)
  · have h := ifn h1 h
    subst h
    exact r_ret dX9_refuses_16 rfl (by decide) (by decide) hQ
  · have h := ifp h1 h
    refine r_iload_n (pc' := 8) dX9_refuses_7 rfl 1 rfl rfl ?_
    refine r_if_eq (tgt := 16) (pc' := 11) dX9_refuses_8 rfl rfl (fun h2 => ?_) (fun h2 => ?_)
    · have h := ifn (zb_n0 h2) h
      subst h
      exact r_ret dX9_refuses_16 rfl (by decide) (by decide) hQ
    · have h := ifp (zb_p0 h2) h
      refine r_aload_n (pc' := 12) dX9_refuses_11 rfl 0 rfl rfl ?_
      refine r_iconst (pc' := 13) (v := 3) dX9_refuses_12 (by decide) rfl ?_
      refine r_callV1 (pc' := 16) (k' := 0) (n' := 0) dX9_refuses_13 mb_X9_faults mi_X9_faults hm.o (by decide) rfl lk_X9_104 rfl rfl rfl (Nat.le_of_ble_eq_true rfl) rfl (c_X9_faults hm rfl (cpV ?_))
      have h := lx_e h
      subst h
      exact r_ret dX9_refuses_16 rfl (by decide) (by decide) hQ
set_option maxHeartbeats 4000000 in
theorem fr_X9_refuses {I : JI} {m : Nat} {b1 : Bool} {z : Nat} (hz_m : z ≠ m) : s_X9_refuses I m b1 z = I z := by
  generalize h : s_X9_refuses I m b1 = J
  unfold s_X9_refuses at h
  rcases if_e h with h | h
  · rcases if_e h with h | h
    · have h := lx_e h
      subst h
      exact ((fr_X9_faults (by omega)).trans rfl)
    · subst h
      exact rfl
  · subst h
    exact rfl
set_option maxHeartbeats 4000000 in
theorem ff_X9_refuses {I : JI} {m : Nat} {b1 : Bool} {k : Nat} (hk10 : k ≠ 10) (hk11 : k ≠ 11) : s_X9_refuses I m b1 m k = I m k := by
  generalize h : s_X9_refuses I m b1 = J
  unfold s_X9_refuses at h
  rcases if_e h with h | h
  · rcases if_e h with h | h
    · have h := lx_e h
      subst h
      exact ((ff_X9_faults hk10 hk11).trans rfl)
    · subst h
      exact rfl
  · subst h
    exact rfl
noncomputable def s_X9_limits (I : JI) (m : Nat) (b1 : Bool) : JI :=
  if (I m 10) = 0 then (if b1 = true then (lx (s_X9_faults I m 4) fun I3 => I3) else I) else I
set_option maxHeartbeats 4000000 in
theorem c_X9_limits {Ω : JO} {I : JI} {S : JS} {Q : JQ} {m : Nat} {b1 : Bool} {J : JI} (hm : Is9 S m) (h : s_X9_limits I m b1 = J) (hQ : Q (.inl none) J S) : Call Ω m_X9_limits [.ref m, .int (zb b1)] I S Q := by
  refine call_of (by decide +kernel) rfl (Nat.le_of_ble_eq_true rfl) ?_
  change AA Ω m_X9_limits (FQ Ω m_X9_limits Q) 0 0 0 [(0, .ref m), (1, .int (zb b1))] [] I S
  unfold s_X9_limits at h
  refine r_aload_n (pc' := 1) dX9_limits_0 rfl 0 rfl rfl ?_
  refine r_getI (pc' := 4) dX9_limits_1 fa_X9_68 hm.o rfl rfl ?_
  refine r_if_ne (tgt := 16) (pc' := 7) dX9_limits_4 rfl rfl (fun h1 => ?_) (fun h1 => ?_)
  · have h := ifn h1 h
    subst h
    exact r_ret dX9_limits_16 rfl (by decide) (by decide) hQ
  · have h := ifp h1 h
    refine r_iload_n (pc' := 8) dX9_limits_7 rfl 1 rfl rfl ?_
    refine r_if_eq (tgt := 16) (pc' := 11) dX9_limits_8 rfl rfl (fun h2 => ?_) (fun h2 => ?_)
    · have h := ifn (zb_n0 h2) h
      subst h
      exact r_ret dX9_limits_16 rfl (by decide) (by decide) hQ
    · have h := ifp (zb_p0 h2) h
      refine r_aload_n (pc' := 12) dX9_limits_11 rfl 0 rfl rfl ?_
      refine r_iconst (pc' := 13) (v := 4) dX9_limits_12 (by decide) rfl ?_
      refine r_callV1 (pc' := 16) (k' := 0) (n' := 0) dX9_limits_13 mb_X9_faults mi_X9_faults hm.o (by decide) rfl lk_X9_104 rfl rfl rfl (Nat.le_of_ble_eq_true rfl) rfl (c_X9_faults hm rfl (cpV ?_))
      have h := lx_e h
      subst h
      exact r_ret dX9_limits_16 rfl (by decide) (by decide) hQ
set_option maxHeartbeats 4000000 in
theorem fr_X9_limits {I : JI} {m : Nat} {b1 : Bool} {z : Nat} (hz_m : z ≠ m) : s_X9_limits I m b1 z = I z := by
  generalize h : s_X9_limits I m b1 = J
  unfold s_X9_limits at h
  rcases if_e h with h | h
  · rcases if_e h with h | h
    · have h := lx_e h
      subst h
      exact ((fr_X9_faults (by omega)).trans rfl)
    · subst h
      exact rfl
  · subst h
    exact rfl
set_option maxHeartbeats 4000000 in
theorem ff_X9_limits {I : JI} {m : Nat} {b1 : Bool} {k : Nat} (hk10 : k ≠ 10) (hk11 : k ≠ 11) : s_X9_limits I m b1 m k = I m k := by
  generalize h : s_X9_limits I m b1 = J
  unfold s_X9_limits at h
  rcases if_e h with h | h
  · rcases if_e h with h | h
    · have h := lx_e h
      subst h
      exact ((ff_X9_faults hk10 hk11).trans rfl)
    · subst h
      exact rfl
  · subst h
    exact rfl
noncomputable def s_X9_is (I : JI) (m : Nat) (x1 : Int32) : Bool :=
  if (I m 10) = 0 then (if (I m 15) = x1 then true else false) else false
set_option maxHeartbeats 4000000 in
theorem c_X9_is {Ω : JO} {I : JI} {S : JS} {Q : JQ} {m : Nat} {x1 : Int32} {r : Bool} (hm : Is9 S m) (h : s_X9_is I m x1 = r) (hQ : Q (.inl (some (.int (zb r)))) I S) : Call Ω m_X9_is [.ref m, .int x1] I S Q := by
  refine call_of (by decide +kernel) rfl (Nat.le_of_ble_eq_true rfl) ?_
  change AA Ω m_X9_is (FQ Ω m_X9_is Q) 0 0 0 [(0, .ref m), (1, .int x1)] [] I S
  unfold s_X9_is at h
  refine r_aload_n (pc' := 1) dX9_is_0 rfl 0 rfl rfl ?_
  refine r_getI (pc' := 4) dX9_is_1 fa_X9_68 hm.o rfl rfl ?_
  refine r_if_ne (tgt := 19) (pc' := 7) dX9_is_4 rfl rfl (fun h1 => ?_) (fun h1 => ?_)
  · have h := ifn h1 h
    refine r_iconst (pc' := 20) (v := 0) dX9_is_19 (by decide) rfl ?_
    subst h
    exact r_zret dX9_is_20 rfl (by decide) (by decide) (by decide) hQ
  · have h := ifp h1 h
    refine r_aload_n (pc' := 8) dX9_is_7 rfl 0 rfl rfl ?_
    refine r_getI (pc' := 11) dX9_is_8 fa_X9_88 hm.o rfl rfl ?_
    refine r_iload_n (pc' := 12) dX9_is_11 rfl 1 rfl rfl ?_
    refine r_icmp_ne (tgt := 19) (pc' := 15) dX9_is_12 rfl rfl (fun h2 => ?_) (fun h2 => ?_)
    · have h := ifn h2 h
      refine r_iconst (pc' := 20) (v := 0) dX9_is_19 (by decide) rfl ?_
      subst h
      exact r_zret dX9_is_20 rfl (by decide) (by decide) (by decide) hQ
    · have h := ifp h2 h
      refine r_iconst (pc' := 16) (v := 1) dX9_is_15 (by decide) rfl ?_
      refine r_goto (tgt := 20) dX9_is_16 rfl ?_
      subst h
      exact r_zret dX9_is_20 rfl (by decide) (by decide) (by decide) hQ
noncomputable def s_X9_isWord_L28 (I : JI) (m : Nat) (tx : String) : Nat → Int32 → Option ((Bool) ⊕ (Int32))
  | 0, _ => none
  | f + 1, w2 => if (Int32.ofNat (String.toList tx).length) ≤ w2 then (some (.inr (w2))) else (gd (vp_in ((I m 14) + w2) 500) <| gd (asc tx ∧ vp_in w2 (String.toList tx).length ∧ (String.toList tx).length < 2 ^ 31) <| if (I (m + 6) (Int32.toNatClampNeg ((I m 14) + w2))) = (chE tx (Int32.toNatClampNeg w2)) then (s_X9_isWord_L28 I m tx f (w2 + 1)) else (some (.inl false)))
noncomputable def s_X9_isWord (I : JI) (m : Nat) (tx : String) : Option (Bool) :=
  if (s_X9_is I m 2) = true then (if ((I m 13) - (I m 14)) = (Int32.ofNat (String.toList tx).length) then (bl (s_X9_isWord_L28 I m tx lf 0) fun y7 => some true) else (some false)) else (some false)
set_option maxHeartbeats 4000000 in
theorem l_X9_isWord_L28 {Ω : JO} {S : JS} {Q : JQ} {own : String} {sk : Nat} {I : JI} {m : Nat} {tx : String} (hm : Is9 S m) (ht : Cond.stringRef own sk tx ∈ lw_tbl) : ∀ (f : Nat) (w2 : Int32) (o : ((Bool) ⊕ (Int32))), s_X9_isWord_L28 I m tx f w2 = some o → (∀ (r : Bool), o = .inl r → Q (.inl (some (.int (zb r)))) I S) → (∀ (y2 : Int32) , o = .inr (y2) → AA Ω m_X9_isWord (FQ Ω m_X9_isWord Q) 0 0 63 [(2, .int y2), (0, .ref m), (1, .ref (Ω.2.2.2.2 own sk).1)] [] I S) → AA Ω m_X9_isWord (FQ Ω m_X9_isWord Q) 0 0 28 [(2, .int w2), (0, .ref m), (1, .ref (Ω.2.2.2.2 own sk).1)] [] I S := by
  intro f
  induction f with
  | zero =>
    intro w2 o h hR hE
    rw [s_X9_isWord_L28] at h
    cases h
  | succ f ih =>
    intro w2 o h hR hE
    rw [s_X9_isWord_L28] at h
    refine r_iload_n (pc' := 29) dX9_isWord_28 rfl 0 rfl rfl ?_
    refine r_aload_n (pc' := 30) dX9_isWord_29 rfl 2 rfl rfl ?_
    refine r_callT0 (pc' := 33) (k' := 0) (n' := 0) dX9_isWord_30 mb_J0_length_8abf5 mi_J0_length_8abf5 rfl ht lk_X9_110 rfl rfl rfl (Nat.le_of_ble_eq_true rfl) rfl (c_J0_length_8abf5 ht (cpI ?_))
    refine r_icmp_ge (tgt := 63) (pc' := 36) dX9_isWord_33 rfl rfl (fun h3 => ?_) (fun h3 => ?_)
    · have h := ifp h3 h
      cases h
      exact hE _ rfl
    · have h := ifn h3 h
      refine r_aload_n (pc' := 37) dX9_isWord_36 rfl 1 rfl rfl ?_
      refine r_getO (pc' := 40) dX9_isWord_37 fa_X9_26 hm.o rfl hm.r8 rfl ?_
      refine r_aload_n (pc' := 41) dX9_isWord_40 rfl 1 rfl rfl ?_
      refine r_getI (pc' := 44) dX9_isWord_41 fa_X9_85 hm.o rfl rfl ?_
      refine r_iload_n (pc' := 45) dX9_isWord_44 rfl 0 rfl rfl ?_
      refine r_iadd (pc' := 46) dX9_isWord_45 rfl ?_
      obtain ⟨g4, h⟩ := gd_e h
      refine r_baload (pc' := 47) dX9_isWord_46 hm.c8 g4 rfl ?_
      refine r_aload_n (pc' := 48) dX9_isWord_47 rfl 2 rfl rfl ?_
      refine r_iload_n (pc' := 49) dX9_isWord_48 rfl 0 rfl rfl ?_
      obtain ⟨g5, h⟩ := gd_e h
      refine r_callT1 (pc' := 52) (k' := 0) (n' := 0) dX9_isWord_49 mb_J0_charAt_5068e mi_J0_charAt_5068e rfl ht lk_X9_116 rfl rfl rfl (Nat.le_of_ble_eq_true rfl) rfl (c_J0_charAt_5068e ht g5.1 g5.2.1 g5.2.2 (cpI ?_))
      refine r_icmp_eq (tgt := 57) (pc' := 55) dX9_isWord_52 rfl rfl (fun h6 => ?_) (fun h6 => ?_)
      · have h := ifp h6 h
        refine r_iinc (pc' := 60) (v := _ + 1) (lv' := [(2, _), (0, _), (1, _)]) dX9_isWord_57 0 rfl rfl (by decide) rfl rfl ?_
        refine r_goto (tgt := 28) dX9_isWord_60 rfl ?_
        exact ih _ _ h hR hE
      · have h := ifn h6 h
        refine r_iconst (pc' := 56) (v := 0) dX9_isWord_55 (by decide) rfl ?_
        cases h
        exact r_zret dX9_isWord_56 rfl (by decide) (by decide) (by decide) (hR _ rfl)
set_option maxHeartbeats 4000000 in
theorem c_X9_isWord {Ω : JO} {I : JI} {S : JS} {Q : JQ} {own : String} {sk : Nat} {m : Nat} {tx : String} {r : Bool} (hm : Is9 S m) (ht : Cond.stringRef own sk tx ∈ lw_tbl) (h : s_X9_isWord I m tx = some r) (hQ : Q (.inl (some (.int (zb r)))) I S) : Call Ω m_X9_isWord [.ref m, .ref (Ω.2.2.2.2 own sk).1] I S Q := by
  refine call_of (by decide +kernel) rfl (Nat.le_of_ble_eq_true rfl) ?_
  change AA Ω m_X9_isWord (FQ Ω m_X9_isWord Q) 0 0 0 [(0, .ref m), (1, .ref (Ω.2.2.2.2 own sk).1)] [] I S
  unfold s_X9_isWord at h
  refine r_aload_n (pc' := 1) dX9_isWord_0 rfl 0 rfl rfl ?_
  refine r_iconst (pc' := 2) (v := 2) dX9_isWord_1 (by decide) rfl ?_
  refine r_callV1 (pc' := 5) (k' := 0) (n' := 0) dX9_isWord_2 mb_X9_is mi_X9_is hm.o (by decide) rfl lk_X9_107 rfl rfl rfl (Nat.le_of_ble_eq_true rfl) rfl (c_X9_is hm rfl (cpI ?_))
  refine r_if_eq (tgt := 24) (pc' := 8) dX9_isWord_5 rfl rfl (fun h1 => ?_) (fun h1 => ?_)
  · have h := ifn (zb_n0 h1) h
    refine r_iconst (pc' := 25) (v := 0) dX9_isWord_24 (by decide) rfl ?_
    cases h
    exact r_zret dX9_isWord_25 rfl (by decide) (by decide) (by decide) hQ
  · have h := ifp (zb_p0 h1) h
    refine r_aload_n (pc' := 9) dX9_isWord_8 rfl 0 rfl rfl ?_
    refine r_getI (pc' := 12) dX9_isWord_9 fa_X9_82 hm.o rfl rfl ?_
    refine r_aload_n (pc' := 13) dX9_isWord_12 rfl 0 rfl rfl ?_
    refine r_getI (pc' := 16) dX9_isWord_13 fa_X9_85 hm.o rfl rfl ?_
    refine r_isub (pc' := 17) dX9_isWord_16 rfl ?_
    refine r_aload_n (pc' := 18) dX9_isWord_17 rfl 1 rfl rfl ?_
    refine r_callT0 (pc' := 21) (k' := 0) (n' := 0) dX9_isWord_18 mb_J0_length_8abf5 mi_J0_length_8abf5 rfl ht lk_X9_110 rfl rfl rfl (Nat.le_of_ble_eq_true rfl) rfl (c_J0_length_8abf5 ht (cpI ?_))
    refine r_icmp_eq (tgt := 26) (pc' := 24) dX9_isWord_21 rfl rfl (fun h2 => ?_) (fun h2 => ?_)
    · have h := ifp h2 h
      refine r_iconst (pc' := 27) (v := 0) dX9_isWord_26 (by decide) rfl ?_
      refine r_istore_n (pc' := 28) (lv' := [(2, _), (0, _), (1, _)]) dX9_isWord_27 rfl (by decide) rfl rfl ?_
      obtain ⟨o8, eo8, h1, h⟩ := bl_e h
      refine l_X9_isWord_L28 (Ω := Ω) hm ht _ _ _ eo8 (fun r q => ?_) (fun y7 q => ?_)
      · have h1 := h1 _ q
        cases h1
        exact hQ
      have h := h _ q
      refine r_iconst (pc' := 64) (v := 1) dX9_isWord_63 (by decide) rfl ?_
      cases h
      exact r_zret dX9_isWord_64 rfl (by decide) (by decide) (by decide) hQ
    · have h := ifn h2 h
      refine r_iconst (pc' := 25) (v := 0) dX9_isWord_24 (by decide) rfl ?_
      cases h
      exact r_zret dX9_isWord_25 rfl (by decide) (by decide) (by decide) hQ
noncomputable def s_X9_numberHere (I : JI) (m : Nat) (x1 : Int32) (x2 : Int32) : Option (Int32 × JI) :=
  if (s_X9_is I m 3) = true then (if (s_X9_in (I m 16) x1 x2) = true then (if (I m 10) ≤ 0 then (some ((I m 16), I)) else (some (x1, I))) else (lx (s_X9_faults I m 2) fun I4 => if (I4 m 10) ≤ 0 then (some ((I4 m 16), I4)) else (some (x1, I4)))) else (lx (s_X9_faults I m 1) fun I6 => if (I6 m 10) ≤ 0 then (some ((I6 m 16), I6)) else (some (x1, I6)))
set_option maxHeartbeats 4000000 in
theorem c_X9_numberHere {Ω : JO} {I : JI} {S : JS} {Q : JQ} {m : Nat} {x1 : Int32} {x2 : Int32} {r : Int32} {J : JI} (hm : Is9 S m) (h : s_X9_numberHere I m x1 x2 = some (r, J)) (hQ : Q (.inl (some (.int r))) J S) : Call Ω m_X9_numberHere [.ref m, .int x1, .int x2] I S Q := by
  refine call_of (by decide +kernel) rfl (Nat.le_of_ble_eq_true rfl) ?_
  change AA Ω m_X9_numberHere (FQ Ω m_X9_numberHere Q) 0 0 0 [(0, .ref m), (1, .int x1), (2, .int x2)] [] I S
  unfold s_X9_numberHere at h
  refine r_aload_n (pc' := 1) dX9_numberHere_0 rfl 0 rfl rfl ?_
  refine r_iconst (pc' := 2) (v := 3) dX9_numberHere_1 (by decide) rfl ?_
  refine r_callV1 (pc' := 5) (k' := 0) (n' := 0) dX9_numberHere_2 mb_X9_is mi_X9_is hm.o (by decide) rfl lk_X9_107 rfl rfl rfl (Nat.le_of_ble_eq_true rfl) rfl (c_X9_is hm rfl (cpI ?_))
  refine r_if_ne (tgt := 16) (pc' := 8) dX9_numberHere_5 rfl rfl (fun h1 => ?_) (fun h1 => ?_)
  · have h := ifp (zb_p0 h1) h
    refine r_aload_n (pc' := 17) dX9_numberHere_16 rfl 0 rfl rfl ?_
    refine r_getI (pc' := 20) dX9_numberHere_17 fa_X9_98 hm.o rfl rfl ?_
    refine r_iload_n (pc' := 21) dX9_numberHere_20 rfl 1 rfl rfl ?_
    refine r_iload_n (pc' := 22) dX9_numberHere_21 rfl 2 rfl rfl ?_
    refine r_callS3 (pc' := 25) (k' := 0) (n' := 0) dX9_numberHere_22 mb_X9_in ms_X9_in lk_X9_78 rfl rfl rfl (Nat.le_of_ble_eq_true rfl) rfl (c_X9_in rfl (cpI ?_))
    refine r_if_ne (tgt := 33) (pc' := 28) dX9_numberHere_25 rfl rfl (fun h2 => ?_) (fun h2 => ?_)
    · have h := ifp (zb_p0 h2) h
      refine r_aload_n (pc' := 34) dX9_numberHere_33 rfl 0 rfl rfl ?_
      refine r_getI (pc' := 37) dX9_numberHere_34 fa_X9_68 hm.o rfl rfl ?_
      refine r_if_le (tgt := 44) (pc' := 40) dX9_numberHere_37 rfl rfl (fun h3 => ?_) (fun h3 => ?_)
      · have h := ifp h3 h
        refine r_aload_n (pc' := 45) dX9_numberHere_44 rfl 0 rfl rfl ?_
        refine r_getI (pc' := 48) dX9_numberHere_45 fa_X9_98 hm.o rfl rfl ?_
        cases h
        exact r_iret dX9_numberHere_48 rfl (by decide) (by decide) hQ
      · have h := ifn h3 h
        refine r_iload_n (pc' := 41) dX9_numberHere_40 rfl 1 rfl rfl ?_
        refine r_goto (tgt := 48) dX9_numberHere_41 rfl ?_
        cases h
        exact r_iret dX9_numberHere_48 rfl (by decide) (by decide) hQ
    · have h := ifn (zb_n0 h2) h
      refine r_aload_n (pc' := 29) dX9_numberHere_28 rfl 0 rfl rfl ?_
      refine r_iconst (pc' := 30) (v := 2) dX9_numberHere_29 (by decide) rfl ?_
      refine r_callV1 (pc' := 33) (k' := 0) (n' := 0) dX9_numberHere_30 mb_X9_faults mi_X9_faults hm.o (by decide) rfl lk_X9_104 rfl rfl rfl (Nat.le_of_ble_eq_true rfl) rfl (c_X9_faults hm rfl (cpV ?_))
      have h := lx_e h
      refine r_aload_n (pc' := 34) dX9_numberHere_33 rfl 0 rfl rfl ?_
      refine r_getI (pc' := 37) dX9_numberHere_34 fa_X9_68 hm.o rfl rfl ?_
      refine r_if_le (tgt := 44) (pc' := 40) dX9_numberHere_37 rfl rfl (fun h5 => ?_) (fun h5 => ?_)
      · have h := ifp h5 h
        refine r_aload_n (pc' := 45) dX9_numberHere_44 rfl 0 rfl rfl ?_
        refine r_getI (pc' := 48) dX9_numberHere_45 fa_X9_98 hm.o rfl rfl ?_
        cases h
        exact r_iret dX9_numberHere_48 rfl (by decide) (by decide) hQ
      · have h := ifn h5 h
        refine r_iload_n (pc' := 41) dX9_numberHere_40 rfl 1 rfl rfl ?_
        refine r_goto (tgt := 48) dX9_numberHere_41 rfl ?_
        cases h
        exact r_iret dX9_numberHere_48 rfl (by decide) (by decide) hQ
  · have h := ifn (zb_n0 h1) h
    refine r_aload_n (pc' := 9) dX9_numberHere_8 rfl 0 rfl rfl ?_
    refine r_iconst (pc' := 10) (v := 1) dX9_numberHere_9 (by decide) rfl ?_
    refine r_callV1 (pc' := 13) (k' := 0) (n' := 0) dX9_numberHere_10 mb_X9_faults mi_X9_faults hm.o (by decide) rfl lk_X9_104 rfl rfl rfl (Nat.le_of_ble_eq_true rfl) rfl (c_X9_faults hm rfl (cpV ?_))
    have h := lx_e h
    refine r_goto (tgt := 33) dX9_numberHere_13 rfl ?_
    refine r_aload_n (pc' := 34) dX9_numberHere_33 rfl 0 rfl rfl ?_
    refine r_getI (pc' := 37) dX9_numberHere_34 fa_X9_68 hm.o rfl rfl ?_
    refine r_if_le (tgt := 44) (pc' := 40) dX9_numberHere_37 rfl rfl (fun h7 => ?_) (fun h7 => ?_)
    · have h := ifp h7 h
      refine r_aload_n (pc' := 45) dX9_numberHere_44 rfl 0 rfl rfl ?_
      refine r_getI (pc' := 48) dX9_numberHere_45 fa_X9_98 hm.o rfl rfl ?_
      cases h
      exact r_iret dX9_numberHere_48 rfl (by decide) (by decide) hQ
    · have h := ifn h7 h
      refine r_iload_n (pc' := 41) dX9_numberHere_40 rfl 1 rfl rfl ?_
      refine r_goto (tgt := 48) dX9_numberHere_41 rfl ?_
      cases h
      exact r_iret dX9_numberHere_48 rfl (by decide) (by decide) hQ
set_option maxHeartbeats 4000000 in
theorem fr_X9_numberHere {I : JI} {m : Nat} {x1 : Int32} {x2 : Int32} {r : Int32} {J : JI} {z : Nat} (h : s_X9_numberHere I m x1 x2 = some (r, J)) (hz_m : z ≠ m) : J z = I z := by
  unfold s_X9_numberHere at h
  rcases if_e h with h | h
  · rcases if_e h with h | h
    · rcases if_e h with h | h
      · cases h
        exact rfl
      · cases h
        exact rfl
    · have h := lx_e h
      rcases if_e h with h | h
      · cases h
        exact ((fr_X9_faults (by omega)).trans rfl)
      · cases h
        exact ((fr_X9_faults (by omega)).trans rfl)
  · have h := lx_e h
    rcases if_e h with h | h
    · cases h
      exact ((fr_X9_faults (by omega)).trans rfl)
    · cases h
      exact ((fr_X9_faults (by omega)).trans rfl)
set_option maxHeartbeats 4000000 in
theorem ff_X9_numberHere {I : JI} {m : Nat} {x1 : Int32} {x2 : Int32} {r : Int32} {J : JI} {k : Nat} (h : s_X9_numberHere I m x1 x2 = some (r, J)) (hk10 : k ≠ 10) (hk11 : k ≠ 11) : J m k = I m k := by
  unfold s_X9_numberHere at h
  rcases if_e h with h | h
  · rcases if_e h with h | h
    · rcases if_e h with h | h
      · cases h
        exact rfl
      · cases h
        exact rfl
    · have h := lx_e h
      rcases if_e h with h | h
      · cases h
        exact ((ff_X9_faults hk10 hk11).trans rfl)
      · cases h
        exact ((ff_X9_faults hk10 hk11).trans rfl)
  · have h := lx_e h
    rcases if_e h with h | h
    · cases h
      exact ((ff_X9_faults hk10 hk11).trans rfl)
    · cases h
      exact ((ff_X9_faults hk10 hk11).trans rfl)
noncomputable def s_X9_readNumber (I : JI) (m : Nat) (x1 : Int32) (x2 : Int32) : Option (Int32 × JI) :=
  bd2 (s_X9_numberHere I m x1 x2) fun v2 I1 => bd (s_X9_goes I1 m) fun I3 => some (v2, I3)
set_option maxHeartbeats 4000000 in
theorem c_X9_readNumber {Ω : JO} {I : JI} {S : JS} {Q : JQ} {m : Nat} {x1 : Int32} {x2 : Int32} {r : Int32} {J : JI} (hm : Is9 S m) (h : s_X9_readNumber I m x1 x2 = some (r, J)) (hQ : Q (.inl (some (.int r))) J S) : Call Ω m_X9_readNumber [.ref m, .int x1, .int x2] I S Q := by
  refine call_of (by decide +kernel) rfl (Nat.le_of_ble_eq_true rfl) ?_
  change AA Ω m_X9_readNumber (FQ Ω m_X9_readNumber Q) 0 0 0 [(0, .ref m), (1, .int x1), (2, .int x2)] [] I S
  unfold s_X9_readNumber at h
  refine r_aload_n (pc' := 1) dX9_readNumber_0 rfl 0 rfl rfl ?_
  refine r_iload_n (pc' := 2) dX9_readNumber_1 rfl 1 rfl rfl ?_
  refine r_iload_n (pc' := 3) dX9_readNumber_2 rfl 2 rfl rfl ?_
  obtain ⟨v2, I1, ev2, h⟩ := bd2_e h
  refine r_callV2 (pc' := 6) (k' := 0) (n' := 0) dX9_readNumber_3 mb_X9_numberHere mi_X9_numberHere hm.o (by decide) rfl lk_X9_120 rfl rfl rfl (Nat.le_of_ble_eq_true rfl) rfl (c_X9_numberHere hm ev2 (cpI ?_))
  refine r_istore_n (pc' := 7) (lv' := [(3, _), (0, _), (1, _), (2, _)]) dX9_readNumber_6 rfl (by decide) rfl rfl ?_
  refine r_aload_n (pc' := 8) dX9_readNumber_7 rfl 1 rfl rfl ?_
  obtain ⟨I3, eI3, h⟩ := bd_e h
  refine r_callV0 (pc' := 11) (k' := 0) (n' := 0) dX9_readNumber_8 mb_X9_goes mi_X9_goes hm.o (by decide) rfl lk_X9_124 rfl rfl rfl (Nat.le_of_ble_eq_true rfl) rfl (c_X9_goes hm eI3 (cpV ?_))
  refine r_iload_n (pc' := 12) dX9_readNumber_11 rfl 0 rfl rfl ?_
  cases h
  exact r_iret dX9_readNumber_12 rfl (by decide) (by decide) hQ
set_option maxHeartbeats 4000000 in
theorem fr_X9_readNumber {I : JI} {m : Nat} {x1 : Int32} {x2 : Int32} {r : Int32} {J : JI} {z : Nat} (h : s_X9_readNumber I m x1 x2 = some (r, J)) (hz_m : z ≠ m) : J z = I z := by
  unfold s_X9_readNumber at h
  obtain ⟨v2, I1, e1, h⟩ := bd2_e h
  obtain ⟨I3, e2, h⟩ := bd_e h
  cases h
  exact ((fr_X9_goes e2 (by omega)).trans ((fr_X9_numberHere e1 (by omega)).trans rfl))
set_option maxHeartbeats 4000000 in
theorem ff_X9_readNumber {I : JI} {m : Nat} {x1 : Int32} {x2 : Int32} {r : Int32} {J : JI} {k : Nat} (h : s_X9_readNumber I m x1 x2 = some (r, J)) (hk10 : k ≠ 10) (hk11 : k ≠ 11) (hk13 : k ≠ 13) (hk14 : k ≠ 14) (hk15 : k ≠ 15) (hk16 : k ≠ 16) : J m k = I m k := by
  unfold s_X9_readNumber at h
  obtain ⟨v2, I1, e1, h⟩ := bd2_e h
  obtain ⟨I3, e2, h⟩ := bd_e h
  cases h
  exact ((ff_X9_goes e2 hk13 hk14 hk15 hk16).trans ((ff_X9_numberHere e1 hk10 hk11).trans rfl))
noncomputable def s_X9_indexHere (I : JI) (m : Nat) (x1 : Int32) : Option (Int32 × JI) :=
  gd (vp_in x1 2030) <| bd2 (s_X9_numberHere I m 0 ((I (m + 1) (Int32.toNatClampNeg x1)) - 1)) fun v3 I2 => some (v3, I2)
set_option maxHeartbeats 4000000 in
theorem c_X9_indexHere {Ω : JO} {I : JI} {S : JS} {Q : JQ} {m : Nat} {x1 : Int32} {r : Int32} {J : JI} (hm : Is9 S m) (h : s_X9_indexHere I m x1 = some (r, J)) (hQ : Q (.inl (some (.int r))) J S) : Call Ω m_X9_indexHere [.ref m, .int x1] I S Q := by
  refine call_of (by decide +kernel) rfl (Nat.le_of_ble_eq_true rfl) ?_
  change AA Ω m_X9_indexHere (FQ Ω m_X9_indexHere Q) 0 0 0 [(0, .ref m), (1, .int x1)] [] I S
  unfold s_X9_indexHere at h
  refine r_aload_n (pc' := 1) dX9_indexHere_0 rfl 0 rfl rfl ?_
  refine r_iconst (pc' := 2) (v := 0) dX9_indexHere_1 (by decide) rfl ?_
  refine r_aload_n (pc' := 3) dX9_indexHere_2 rfl 0 rfl rfl ?_
  refine r_getO (pc' := 6) dX9_indexHere_3 fa_X9_9 hm.o rfl hm.r1 rfl ?_
  refine r_iload_n (pc' := 7) dX9_indexHere_6 rfl 1 rfl rfl ?_
  obtain ⟨g1, h⟩ := gd_e h
  refine r_iaload (pc' := 8) dX9_indexHere_7 hm.c1 g1 rfl ?_
  refine r_iconst (pc' := 9) (v := 1) dX9_indexHere_8 (by decide) rfl ?_
  refine r_isub (pc' := 10) dX9_indexHere_9 rfl ?_
  obtain ⟨v3, I2, ev3, h⟩ := bd2_e h
  refine r_callV2 (pc' := 13) (k' := 0) (n' := 0) dX9_indexHere_10 mb_X9_numberHere mi_X9_numberHere hm.o (by decide) rfl lk_X9_120 rfl rfl rfl (Nat.le_of_ble_eq_true rfl) rfl (c_X9_numberHere hm ev3 (cpI ?_))
  cases h
  exact r_iret dX9_indexHere_13 rfl (by decide) (by decide) hQ
set_option maxHeartbeats 4000000 in
theorem fr_X9_indexHere {I : JI} {m : Nat} {x1 : Int32} {r : Int32} {J : JI} {z : Nat} (h : s_X9_indexHere I m x1 = some (r, J)) (hz_m : z ≠ m) : J z = I z := by
  unfold s_X9_indexHere at h
  obtain ⟨g1, h⟩ := gd_e h
  obtain ⟨v3, I2, e2, h⟩ := bd2_e h
  cases h
  exact ((fr_X9_numberHere e2 (by omega)).trans rfl)
set_option maxHeartbeats 4000000 in
theorem ff_X9_indexHere {I : JI} {m : Nat} {x1 : Int32} {r : Int32} {J : JI} {k : Nat} (h : s_X9_indexHere I m x1 = some (r, J)) (hk10 : k ≠ 10) (hk11 : k ≠ 11) : J m k = I m k := by
  unfold s_X9_indexHere at h
  obtain ⟨g1, h⟩ := gd_e h
  obtain ⟨v3, I2, e2, h⟩ := bd2_e h
  cases h
  exact ((ff_X9_numberHere e2 hk10 hk11).trans rfl)
noncomputable def s_X9_readIndex (I : JI) (m : Nat) (x1 : Int32) : Option (Int32 × JI) :=
  bd2 (s_X9_indexHere I m x1) fun v2 I1 => bd (s_X9_goes I1 m) fun I3 => some (v2, I3)
set_option maxHeartbeats 4000000 in
theorem c_X9_readIndex {Ω : JO} {I : JI} {S : JS} {Q : JQ} {m : Nat} {x1 : Int32} {r : Int32} {J : JI} (hm : Is9 S m) (h : s_X9_readIndex I m x1 = some (r, J)) (hQ : Q (.inl (some (.int r))) J S) : Call Ω m_X9_readIndex [.ref m, .int x1] I S Q := by
  refine call_of (by decide +kernel) rfl (Nat.le_of_ble_eq_true rfl) ?_
  change AA Ω m_X9_readIndex (FQ Ω m_X9_readIndex Q) 0 0 0 [(0, .ref m), (1, .int x1)] [] I S
  unfold s_X9_readIndex at h
  refine r_aload_n (pc' := 1) dX9_readIndex_0 rfl 0 rfl rfl ?_
  refine r_iload_n (pc' := 2) dX9_readIndex_1 rfl 1 rfl rfl ?_
  obtain ⟨v2, I1, ev2, h⟩ := bd2_e h
  refine r_callV1 (pc' := 5) (k' := 0) (n' := 0) dX9_readIndex_2 mb_X9_indexHere mi_X9_indexHere hm.o (by decide) rfl lk_X9_127 rfl rfl rfl (Nat.le_of_ble_eq_true rfl) rfl (c_X9_indexHere hm ev2 (cpI ?_))
  refine r_istore_n (pc' := 6) (lv' := [(2, _), (0, _), (1, _)]) dX9_readIndex_5 rfl (by decide) rfl rfl ?_
  refine r_aload_n (pc' := 7) dX9_readIndex_6 rfl 1 rfl rfl ?_
  obtain ⟨I3, eI3, h⟩ := bd_e h
  refine r_callV0 (pc' := 10) (k' := 0) (n' := 0) dX9_readIndex_7 mb_X9_goes mi_X9_goes hm.o (by decide) rfl lk_X9_124 rfl rfl rfl (Nat.le_of_ble_eq_true rfl) rfl (c_X9_goes hm eI3 (cpV ?_))
  refine r_iload_n (pc' := 11) dX9_readIndex_10 rfl 0 rfl rfl ?_
  cases h
  exact r_iret dX9_readIndex_11 rfl (by decide) (by decide) hQ
set_option maxHeartbeats 4000000 in
theorem fr_X9_readIndex {I : JI} {m : Nat} {x1 : Int32} {r : Int32} {J : JI} {z : Nat} (h : s_X9_readIndex I m x1 = some (r, J)) (hz_m : z ≠ m) : J z = I z := by
  unfold s_X9_readIndex at h
  obtain ⟨v2, I1, e1, h⟩ := bd2_e h
  obtain ⟨I3, e2, h⟩ := bd_e h
  cases h
  exact ((fr_X9_goes e2 (by omega)).trans ((fr_X9_indexHere e1 (by omega)).trans rfl))
set_option maxHeartbeats 4000000 in
theorem ff_X9_readIndex {I : JI} {m : Nat} {x1 : Int32} {r : Int32} {J : JI} {k : Nat} (h : s_X9_readIndex I m x1 = some (r, J)) (hk10 : k ≠ 10) (hk11 : k ≠ 11) (hk13 : k ≠ 13) (hk14 : k ≠ 14) (hk15 : k ≠ 15) (hk16 : k ≠ 16) : J m k = I m k := by
  unfold s_X9_readIndex at h
  obtain ⟨v2, I1, e1, h⟩ := bd2_e h
  obtain ⟨I3, e2, h⟩ := bd_e h
  cases h
  exact ((ff_X9_goes e2 hk13 hk14 hk15 hk16).trans ((ff_X9_indexHere e1 hk10 hk11).trans rfl))
noncomputable def s_X9_readColour (I : JI) (m : Nat) : Option (Int32 × JI) :=
  if (s_X9_is I m 2) = true then (if ((I m 13) - (I m 14)) = 1 then (gd (vp_in (I m 14) 500) <| if (s_X9_in (I (m + 6) (Int32.toNatClampNeg (I m 14))) 97 102) = true then (gd (vp_in (I m 14) 500) <| lx ((I (m + 6) (Int32.toNatClampNeg (I m 14))) - 97) fun v20 => bd (s_X9_goes I m) fun I21 => some (v20, I21)) else (lx (s_X9_faults I m 1) fun I14 => bd (s_X9_goes I14 m) fun I16 => some (0, I16))) else (lx (s_X9_faults I m 1) fun I8 => bd (s_X9_goes I8 m) fun I10 => some (0, I10))) else (lx (s_X9_faults I m 1) fun I3 => bd (s_X9_goes I3 m) fun I5 => some (0, I5))
set_option maxHeartbeats 4000000 in
theorem c_X9_readColour {Ω : JO} {I : JI} {S : JS} {Q : JQ} {m : Nat} {r : Int32} {J : JI} (hm : Is9 S m) (h : s_X9_readColour I m = some (r, J)) (hQ : Q (.inl (some (.int r))) J S) : Call Ω m_X9_readColour [.ref m] I S Q := by
  refine call_of (by decide +kernel) rfl (Nat.le_of_ble_eq_true rfl) ?_
  change AA Ω m_X9_readColour (FQ Ω m_X9_readColour Q) 0 0 0 [(0, .ref m)] [] I S
  unfold s_X9_readColour at h
  refine r_aload_n (pc' := 1) dX9_readColour_0 rfl 0 rfl rfl ?_
  refine r_iconst (pc' := 2) (v := 2) dX9_readColour_1 (by decide) rfl ?_
  refine r_callV1 (pc' := 5) (k' := 0) (n' := 0) dX9_readColour_2 mb_X9_is mi_X9_is hm.o (by decide) rfl lk_X9_107 rfl rfl rfl (Nat.le_of_ble_eq_true rfl) rfl (c_X9_is hm rfl (cpI ?_))
  refine r_if_eq (tgt := 44) (pc' := 8) dX9_readColour_5 rfl rfl (fun h1 => ?_) (fun h1 => ?_)
  · have h := ifn (zb_n0 h1) h
    refine r_iconst (pc' := 45) (v := 0) dX9_readColour_44 (by decide) rfl ?_
    refine r_istore_n (pc' := 46) (lv' := [(1, _), (0, _)]) dX9_readColour_45 rfl (by decide) rfl rfl ?_
    refine r_iload_n (pc' := 47) dX9_readColour_46 rfl 0 rfl rfl ?_
    refine r_if_ne (tgt := 55) (pc' := 50) dX9_readColour_47 rfl rfl (fun h2 => absurd h2 (by decide)) (fun _ => ?_)
    refine r_aload_n (pc' := 51) dX9_readColour_50 rfl 1 rfl rfl ?_
    refine r_iconst (pc' := 52) (v := 1) dX9_readColour_51 (by decide) rfl ?_
    refine r_callV1 (pc' := 55) (k' := 0) (n' := 0) dX9_readColour_52 mb_X9_faults mi_X9_faults hm.o (by decide) rfl lk_X9_104 rfl rfl rfl (Nat.le_of_ble_eq_true rfl) rfl (c_X9_faults hm rfl (cpV ?_))
    have h := lx_e h
    refine r_iload_n (pc' := 56) dX9_readColour_55 rfl 0 rfl rfl ?_
    refine r_if_eq (tgt := 74) (pc' := 59) dX9_readColour_56 rfl rfl (fun _ => ?_) (fun h4 => absurd (by decide) h4)
    refine r_iconst (pc' := 75) (v := 0) dX9_readColour_74 (by decide) rfl ?_
    refine r_istore_n (pc' := 76) (lv' := [(2, _), (1, _), (0, _)]) dX9_readColour_75 rfl (by decide) rfl rfl ?_
    refine r_aload_n (pc' := 77) dX9_readColour_76 rfl 2 rfl rfl ?_
    obtain ⟨I5, eI5, h⟩ := bd_e h
    refine r_callV0 (pc' := 80) (k' := 0) (n' := 0) dX9_readColour_77 mb_X9_goes mi_X9_goes hm.o (by decide) rfl lk_X9_124 rfl rfl rfl (Nat.le_of_ble_eq_true rfl) rfl (c_X9_goes hm eI5 (cpV ?_))
    refine r_iload_n (pc' := 81) dX9_readColour_80 rfl 0 rfl rfl ?_
    cases h
    exact r_iret dX9_readColour_81 rfl (by decide) (by decide) hQ
  · have h := ifp (zb_p0 h1) h
    refine r_aload_n (pc' := 9) dX9_readColour_8 rfl 0 rfl rfl ?_
    refine r_getI (pc' := 12) dX9_readColour_9 fa_X9_82 hm.o rfl rfl ?_
    refine r_aload_n (pc' := 13) dX9_readColour_12 rfl 0 rfl rfl ?_
    refine r_getI (pc' := 16) dX9_readColour_13 fa_X9_85 hm.o rfl rfl ?_
    refine r_isub (pc' := 17) dX9_readColour_16 rfl ?_
    refine r_iconst (pc' := 18) (v := 1) dX9_readColour_17 (by decide) rfl ?_
    refine r_icmp_ne (tgt := 44) (pc' := 21) dX9_readColour_18 rfl rfl (fun h6 => ?_) (fun h6 => ?_)
    · have h := ifn h6 h
      refine r_iconst (pc' := 45) (v := 0) dX9_readColour_44 (by decide) rfl ?_
      refine r_istore_n (pc' := 46) (lv' := [(1, _), (0, _)]) dX9_readColour_45 rfl (by decide) rfl rfl ?_
      refine r_iload_n (pc' := 47) dX9_readColour_46 rfl 0 rfl rfl ?_
      refine r_if_ne (tgt := 55) (pc' := 50) dX9_readColour_47 rfl rfl (fun h7 => absurd h7 (by decide)) (fun _ => ?_)
      refine r_aload_n (pc' := 51) dX9_readColour_50 rfl 1 rfl rfl ?_
      refine r_iconst (pc' := 52) (v := 1) dX9_readColour_51 (by decide) rfl ?_
      refine r_callV1 (pc' := 55) (k' := 0) (n' := 0) dX9_readColour_52 mb_X9_faults mi_X9_faults hm.o (by decide) rfl lk_X9_104 rfl rfl rfl (Nat.le_of_ble_eq_true rfl) rfl (c_X9_faults hm rfl (cpV ?_))
      have h := lx_e h
      refine r_iload_n (pc' := 56) dX9_readColour_55 rfl 0 rfl rfl ?_
      refine r_if_eq (tgt := 74) (pc' := 59) dX9_readColour_56 rfl rfl (fun _ => ?_) (fun h9 => absurd (by decide) h9)
      refine r_iconst (pc' := 75) (v := 0) dX9_readColour_74 (by decide) rfl ?_
      refine r_istore_n (pc' := 76) (lv' := [(2, _), (1, _), (0, _)]) dX9_readColour_75 rfl (by decide) rfl rfl ?_
      refine r_aload_n (pc' := 77) dX9_readColour_76 rfl 2 rfl rfl ?_
      obtain ⟨I10, eI10, h⟩ := bd_e h
      refine r_callV0 (pc' := 80) (k' := 0) (n' := 0) dX9_readColour_77 mb_X9_goes mi_X9_goes hm.o (by decide) rfl lk_X9_124 rfl rfl rfl (Nat.le_of_ble_eq_true rfl) rfl (c_X9_goes hm eI10 (cpV ?_))
      refine r_iload_n (pc' := 81) dX9_readColour_80 rfl 0 rfl rfl ?_
      cases h
      exact r_iret dX9_readColour_81 rfl (by decide) (by decide) hQ
    · have h := ifp h6 h
      refine r_aload_n (pc' := 22) dX9_readColour_21 rfl 0 rfl rfl ?_
      refine r_getO (pc' := 25) dX9_readColour_22 fa_X9_26 hm.o rfl hm.r8 rfl ?_
      refine r_aload_n (pc' := 26) dX9_readColour_25 rfl 0 rfl rfl ?_
      refine r_getI (pc' := 29) dX9_readColour_26 fa_X9_85 hm.o rfl rfl ?_
      obtain ⟨g11, h⟩ := gd_e h
      refine r_baload (pc' := 30) dX9_readColour_29 hm.c8 g11 rfl ?_
      refine r_bipush (pc' := 32) (v := 97) dX9_readColour_30 (by decide) rfl ?_
      refine r_bipush (pc' := 34) (v := 102) dX9_readColour_32 (by decide) rfl ?_
      refine r_callS3 (pc' := 37) (k' := 0) (n' := 0) dX9_readColour_34 mb_X9_in ms_X9_in lk_X9_78 rfl rfl rfl (Nat.le_of_ble_eq_true rfl) rfl (c_X9_in rfl (cpI ?_))
      refine r_if_eq (tgt := 44) (pc' := 40) dX9_readColour_37 rfl rfl (fun h12 => ?_) (fun h12 => ?_)
      · have h := ifn (zb_n0 h12) h
        refine r_iconst (pc' := 45) (v := 0) dX9_readColour_44 (by decide) rfl ?_
        refine r_istore_n (pc' := 46) (lv' := [(1, _), (0, _)]) dX9_readColour_45 rfl (by decide) rfl rfl ?_
        refine r_iload_n (pc' := 47) dX9_readColour_46 rfl 0 rfl rfl ?_
        refine r_if_ne (tgt := 55) (pc' := 50) dX9_readColour_47 rfl rfl (fun h13 => absurd h13 (by decide)) (fun _ => ?_)
        refine r_aload_n (pc' := 51) dX9_readColour_50 rfl 1 rfl rfl ?_
        refine r_iconst (pc' := 52) (v := 1) dX9_readColour_51 (by decide) rfl ?_
        refine r_callV1 (pc' := 55) (k' := 0) (n' := 0) dX9_readColour_52 mb_X9_faults mi_X9_faults hm.o (by decide) rfl lk_X9_104 rfl rfl rfl (Nat.le_of_ble_eq_true rfl) rfl (c_X9_faults hm rfl (cpV ?_))
        have h := lx_e h
        refine r_iload_n (pc' := 56) dX9_readColour_55 rfl 0 rfl rfl ?_
        refine r_if_eq (tgt := 74) (pc' := 59) dX9_readColour_56 rfl rfl (fun _ => ?_) (fun h15 => absurd (by decide) h15)
        refine r_iconst (pc' := 75) (v := 0) dX9_readColour_74 (by decide) rfl ?_
        refine r_istore_n (pc' := 76) (lv' := [(2, _), (1, _), (0, _)]) dX9_readColour_75 rfl (by decide) rfl rfl ?_
        refine r_aload_n (pc' := 77) dX9_readColour_76 rfl 2 rfl rfl ?_
        obtain ⟨I16, eI16, h⟩ := bd_e h
        refine r_callV0 (pc' := 80) (k' := 0) (n' := 0) dX9_readColour_77 mb_X9_goes mi_X9_goes hm.o (by decide) rfl lk_X9_124 rfl rfl rfl (Nat.le_of_ble_eq_true rfl) rfl (c_X9_goes hm eI16 (cpV ?_))
        refine r_iload_n (pc' := 81) dX9_readColour_80 rfl 0 rfl rfl ?_
        cases h
        exact r_iret dX9_readColour_81 rfl (by decide) (by decide) hQ
      · have h := ifp (zb_p0 h12) h
        refine r_iconst (pc' := 41) (v := 1) dX9_readColour_40 (by decide) rfl ?_
        refine r_goto (tgt := 45) dX9_readColour_41 rfl ?_
        refine r_istore_n (pc' := 46) (lv' := [(1, _), (0, _)]) dX9_readColour_45 rfl (by decide) rfl rfl ?_
        refine r_iload_n (pc' := 47) dX9_readColour_46 rfl 0 rfl rfl ?_
        refine r_if_ne (tgt := 55) (pc' := 50) dX9_readColour_47 rfl rfl (fun _ => ?_) (fun h17 => absurd h17 (by decide))
        refine r_iload_n (pc' := 56) dX9_readColour_55 rfl 0 rfl rfl ?_
        refine r_if_eq (tgt := 74) (pc' := 59) dX9_readColour_56 rfl rfl (fun h18 => absurd h18 (by decide)) (fun _ => ?_)
        refine r_aload_n (pc' := 60) dX9_readColour_59 rfl 1 rfl rfl ?_
        refine r_getO (pc' := 63) dX9_readColour_60 fa_X9_26 hm.o rfl hm.r8 rfl ?_
        refine r_aload_n (pc' := 64) dX9_readColour_63 rfl 1 rfl rfl ?_
        refine r_getI (pc' := 67) dX9_readColour_64 fa_X9_85 hm.o rfl rfl ?_
        obtain ⟨g19, h⟩ := gd_e h
        refine r_baload (pc' := 68) dX9_readColour_67 hm.c8 g19 rfl ?_
        refine r_bipush (pc' := 70) (v := 97) dX9_readColour_68 (by decide) rfl ?_
        refine r_isub (pc' := 71) dX9_readColour_70 rfl ?_
        refine r_goto (tgt := 75) dX9_readColour_71 rfl ?_
        refine r_istore_n (pc' := 76) (lv' := [(2, _), (1, _), (0, _)]) dX9_readColour_75 rfl (by decide) rfl rfl ?_
        have h := lx_e h
        refine r_aload_n (pc' := 77) dX9_readColour_76 rfl 2 rfl rfl ?_
        obtain ⟨I21, eI21, h⟩ := bd_e h
        refine r_callV0 (pc' := 80) (k' := 0) (n' := 0) dX9_readColour_77 mb_X9_goes mi_X9_goes hm.o (by decide) rfl lk_X9_124 rfl rfl rfl (Nat.le_of_ble_eq_true rfl) rfl (c_X9_goes hm eI21 (cpV ?_))
        refine r_iload_n (pc' := 81) dX9_readColour_80 rfl 0 rfl rfl ?_
        cases h
        exact r_iret dX9_readColour_81 rfl (by decide) (by decide) hQ
set_option maxHeartbeats 4000000 in
theorem fr_X9_readColour {I : JI} {m : Nat} {r : Int32} {J : JI} {z : Nat} (h : s_X9_readColour I m = some (r, J)) (hz_m : z ≠ m) : J z = I z := by
  unfold s_X9_readColour at h
  rcases if_e h with h | h
  · rcases if_e h with h | h
    · obtain ⟨g1, h⟩ := gd_e h
      rcases if_e h with h | h
      · obtain ⟨g2, h⟩ := gd_e h
        have h := lx_e h
        obtain ⟨I21, e3, h⟩ := bd_e h
        cases h
        exact ((fr_X9_goes e3 (by omega)).trans rfl)
      · have h := lx_e h
        obtain ⟨I16, e4, h⟩ := bd_e h
        cases h
        exact ((fr_X9_goes e4 (by omega)).trans ((fr_X9_faults (by omega)).trans rfl))
    · have h := lx_e h
      obtain ⟨I10, e5, h⟩ := bd_e h
      cases h
      exact ((fr_X9_goes e5 (by omega)).trans ((fr_X9_faults (by omega)).trans rfl))
  · have h := lx_e h
    obtain ⟨I5, e6, h⟩ := bd_e h
    cases h
    exact ((fr_X9_goes e6 (by omega)).trans ((fr_X9_faults (by omega)).trans rfl))
set_option maxHeartbeats 4000000 in
theorem ff_X9_readColour {I : JI} {m : Nat} {r : Int32} {J : JI} {k : Nat} (h : s_X9_readColour I m = some (r, J)) (hk10 : k ≠ 10) (hk11 : k ≠ 11) (hk13 : k ≠ 13) (hk14 : k ≠ 14) (hk15 : k ≠ 15) (hk16 : k ≠ 16) : J m k = I m k := by
  unfold s_X9_readColour at h
  rcases if_e h with h | h
  · rcases if_e h with h | h
    · obtain ⟨g1, h⟩ := gd_e h
      rcases if_e h with h | h
      · obtain ⟨g2, h⟩ := gd_e h
        have h := lx_e h
        obtain ⟨I21, e3, h⟩ := bd_e h
        cases h
        exact ((ff_X9_goes e3 hk13 hk14 hk15 hk16).trans rfl)
      · have h := lx_e h
        obtain ⟨I16, e4, h⟩ := bd_e h
        cases h
        exact ((ff_X9_goes e4 hk13 hk14 hk15 hk16).trans ((ff_X9_faults hk10 hk11).trans rfl))
    · have h := lx_e h
      obtain ⟨I10, e5, h⟩ := bd_e h
      cases h
      exact ((ff_X9_goes e5 hk13 hk14 hk15 hk16).trans ((ff_X9_faults hk10 hk11).trans rfl))
  · have h := lx_e h
    obtain ⟨I5, e6, h⟩ := bd_e h
    cases h
    exact ((ff_X9_goes e6 hk13 hk14 hk15 hk16).trans ((ff_X9_faults hk10 hk11).trans rfl))
