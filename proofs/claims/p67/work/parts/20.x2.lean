noncomputable def s_X2_addFourBytes_L3 (a : Nat) (q1 : Int32) : Nat → Int32 → JI → Option (Int32 × JI)
  | 0, _, _ => none
  | f + 1, w2, I => if w2 < 0 then (some (w2, I)) else (lx (ptI I (a + 1) 500 (I a 1) (((q1 : Int32) >>> (w2 &&& 31)) &&& 255)) fun I2 => lx (stI I2 a 1 ((I2 a 1) + 1)) fun I3 => s_X2_addFourBytes_L3 a q1 f (w2 + (-8)) I3)
noncomputable def s_X2_addFourBytes (I : JI) (a : Nat) (x1 : Int32) : Option (JI) :=
  bd (s_X2_addFourBytes_L3 a x1 lf 24 I) fun (y4, I5) => some I5
set_option maxHeartbeats 4000000 in
theorem l_X2_addFourBytes_L3 {Ω : JO} {S : JS} {Q : JQ} {a : Nat} {q1 : Int32} (ha : Is2 S a) : ∀ (f : Nat) (w2 : Int32) (I : JI) (o : (Int32 × JI)), s_X2_addFourBytes_L3 a q1 f w2 I = some o → True → (∀ (y2 : Int32) (J : JI) , o = (y2, J) → AA Ω m_X2_addFourBytes (FQ Ω m_X2_addFourBytes Q) 0 0 41 [(2, .int y2), (0, .ref a), (1, .int q1)] [] J S) → AA Ω m_X2_addFourBytes (FQ Ω m_X2_addFourBytes Q) 0 0 3 [(2, .int w2), (0, .ref a), (1, .int q1)] [] I S := by
  intro f
  induction f with
  | zero =>
    intro w2 I o h hR hE
    rw [s_X2_addFourBytes_L3] at h
    cases h
  | succ f ih =>
    intro w2 I o h hR hE
    rw [s_X2_addFourBytes_L3] at h
    refine r_iload_n (pc' := 4) dX2_addFourBytes_3 rfl 0 rfl rfl ?_
    refine r_if_lt (tgt := 41) (pc' := 7) dX2_addFourBytes_4 rfl rfl (fun h1 => ?_) (fun h1 => ?_)
    · have h := ifp h1 h
      cases h
      exact hE _ _ rfl
    · have h := ifn h1 h
      refine r_aload_n (pc' := 8) dX2_addFourBytes_7 rfl 1 rfl rfl ?_
      refine r_getO (pc' := 11) dX2_addFourBytes_8 fa_X2_9 ha.o rfl ha.r0 rfl ?_
      refine r_aload_n (pc' := 12) dX2_addFourBytes_11 rfl 1 rfl rfl ?_
      refine r_getI (pc' := 15) dX2_addFourBytes_12 fa_X2_15 ha.o rfl rfl ?_
      refine r_iload_n (pc' := 16) dX2_addFourBytes_15 rfl 2 rfl rfl ?_
      refine r_iload_n (pc' := 17) dX2_addFourBytes_16 rfl 0 rfl rfl ?_
      refine r_ishr (pc' := 18) dX2_addFourBytes_17 rfl ?_
      refine r_sipush (pc' := 21) (v := 255) dX2_addFourBytes_18 (by decide) rfl ?_
      refine r_iand (pc' := 22) dX2_addFourBytes_21 rfl ?_
      refine r_callSN3 (pc' := 25) (k' := 0) (n' := 0) dX2_addFourBytes_22 mb_X8_put ms_X8_put ln_X2_34 rfl rfl rfl (Nat.le_of_ble_eq_true rfl) rfl (c_X8_put ha.c0 (by decide) (cpV ?_))
      have h := lx_e h
      refine r_aload_n (pc' := 26) dX2_addFourBytes_25 rfl 1 rfl rfl ?_
      refine r_dup (pc' := 27) dX2_addFourBytes_26 rfl rfl ?_
      refine r_getI (pc' := 30) dX2_addFourBytes_27 fa_X2_15 ha.o rfl rfl ?_
      refine r_iconst (pc' := 31) (v := 1) dX2_addFourBytes_30 (by decide) rfl ?_
      refine r_iadd (pc' := 32) dX2_addFourBytes_31 rfl ?_
      refine r_putI (pc' := 35) dX2_addFourBytes_32 fa_X2_15 ha.o rfl rfl ?_
      have h := lx_e h
      refine r_iinc (pc' := 38) (v := _ + (-8)) (lv' := [(2, _), (0, _), (1, _)]) dX2_addFourBytes_35 0 rfl rfl (by decide) rfl rfl ?_
      refine r_goto (tgt := 3) dX2_addFourBytes_38 rfl ?_
      exact ih _ _ _ h hR hE
set_option maxHeartbeats 4000000 in
theorem c_X2_addFourBytes {Ω : JO} {I : JI} {S : JS} {Q : JQ} {a : Nat} {x1 : Int32} {J : JI} (ha : Is2 S a) (h : s_X2_addFourBytes I a x1 = some J) (hQ : Q (.inl none) J S) : Call Ω m_X2_addFourBytes [.ref a, .int x1] I S Q := by
  refine call_of (by decide +kernel) rfl (Nat.le_of_ble_eq_true rfl) ?_
  change AA Ω m_X2_addFourBytes (FQ Ω m_X2_addFourBytes Q) 0 0 0 [(0, .ref a), (1, .int x1)] [] I S
  unfold s_X2_addFourBytes at h
  refine r_bipush (pc' := 2) (v := 24) dX2_addFourBytes_0 (by decide) rfl ?_
  refine r_istore_n (pc' := 3) (lv' := [(2, _), (0, _), (1, _)]) dX2_addFourBytes_2 rfl (by decide) rfl rfl ?_
  obtain ⟨o6, eo6, h⟩ := bd_e h
  refine l_X2_addFourBytes_L3 (Ω := Ω) ha _ _ _ _ eo6 trivial (fun y4 I5 q => ?_)
  subst q
  cases h
  exact r_ret dX2_addFourBytes_41 rfl (by decide) (by decide) hQ
theorem frl_X2_addFourBytes_L3 {a : Nat} {q1 : Int32} {z : Nat} (hza : z < a ∨ a + 2 ≤ z) : ∀ (f : Nat) (w2 : Int32) (I : JI) (o : (Int32 × JI)), s_X2_addFourBytes_L3 a q1 f w2 I = some o → (∀ (y2 : Int32) (J : JI), o = (y2, J) → J z = I z) := by
  intro f
  induction f with
  | zero =>
    intro w2 I o h
    rw [s_X2_addFourBytes_L3] at h
    cases h
  | succ f ih =>
    intro w2 I o h
    rw [s_X2_addFourBytes_L3] at h
    rcases if_e h with h | h
    · cases h
      intro _ _ q
      cases q
      exact rfl
    · have h := lx_e h
      have h := lx_e h
      intro _ _ q
      exact ((ih _ _ _ h) _ _ q).trans ((fr_stI (by omega)).trans ((fr_ptI (by omega)).trans rfl))
set_option maxHeartbeats 4000000 in
theorem fr_X2_addFourBytes {I : JI} {a : Nat} {x1 : Int32} {J : JI} {z : Nat} (h : s_X2_addFourBytes I a x1 = some J) (hza : z < a ∨ a + 2 ≤ z) : J z = I z := by
  unfold s_X2_addFourBytes at h
  obtain ⟨o1, e1, h⟩ := bd_e h
  obtain ⟨y4, I5⟩ := o1
  cases h
  exact (((frl_X2_addFourBytes_L3 hza _ _ _ _ e1) _ _ rfl).trans rfl)
noncomputable def s_X2_isLetter (x0 : Int32) : Bool :=
  if x0 < 97 then false else (if 122 < x0 then false else true)
set_option maxHeartbeats 4000000 in
theorem c_X2_isLetter {Ω : JO} {I : JI} {S : JS} {Q : JQ} {x0 : Int32} {r : Bool} (h : s_X2_isLetter x0 = r) (hQ : Q (.inl (some (.int (zb r)))) I S) : Call Ω m_X2_isLetter [.int x0] I S Q := by
  refine call_of (by decide +kernel) rfl (Nat.le_of_ble_eq_true rfl) ?_
  change AA Ω m_X2_isLetter (FQ Ω m_X2_isLetter Q) 0 0 0 [(0, .int x0)] [] I S
  unfold s_X2_isLetter at h
  refine r_iload_n (pc' := 1) dX2_isLetter_0 rfl 0 rfl rfl ?_
  refine r_bipush (pc' := 3) (v := 97) dX2_isLetter_1 (by decide) rfl ?_
  refine r_icmp_lt (tgt := 16) (pc' := 6) dX2_isLetter_3 rfl rfl (fun h1 => ?_) (fun h1 => ?_)
  · have h := ifp h1 h
    refine r_iconst (pc' := 17) (v := 0) dX2_isLetter_16 (by decide) rfl ?_
    subst h
    exact r_zret dX2_isLetter_17 rfl (by decide) (by decide) (by decide) hQ
  · have h := ifn h1 h
    refine r_iload_n (pc' := 7) dX2_isLetter_6 rfl 0 rfl rfl ?_
    refine r_bipush (pc' := 9) (v := 122) dX2_isLetter_7 (by decide) rfl ?_
    refine r_icmp_gt (tgt := 16) (pc' := 12) dX2_isLetter_9 rfl rfl (fun h2 => ?_) (fun h2 => ?_)
    · have h := ifp h2 h
      refine r_iconst (pc' := 17) (v := 0) dX2_isLetter_16 (by decide) rfl ?_
      subst h
      exact r_zret dX2_isLetter_17 rfl (by decide) (by decide) (by decide) hQ
    · have h := ifn h2 h
      refine r_iconst (pc' := 13) (v := 1) dX2_isLetter_12 (by decide) rfl ?_
      refine r_goto (tgt := 17) dX2_isLetter_13 rfl ?_
      subst h
      exact r_zret dX2_isLetter_17 rfl (by decide) (by decide) (by decide) hQ
noncomputable def s_X2_readWord_L0 (a : Nat) : Nat → JI → Option (JI)
  | 0, _ => none
  | f + 1, I => if (I a 2) ≤ (I a 3) then (some (I)) else (if (s_X2_isLetter (atF (I (a + 1)) 500 (I a 3))) = true then (lx (stI I a 3 ((I a 3) + 1)) fun I3 => s_X2_readWord_L0 a f  I3) else (some (I)))
noncomputable def s_X2_readWord (I : JI) (a : Nat) : Option (JI) :=
  bd (s_X2_readWord_L0 a lf  I) fun I4 => if ((I4 a 3) - (I4 a 5)) ≤ 7 then (lx (stI I4 a 4 1) fun I7 => some I7) else (lx (stI I4 a 4 6) fun I8 => some I8)
set_option maxHeartbeats 4000000 in
theorem l_X2_readWord_L0 {Ω : JO} {S : JS} {Q : JQ} {a : Nat} (ha : Is2 S a) : ∀ (f : Nat) (I : JI) (o : (JI)), s_X2_readWord_L0 a f I = some o → True → (∀ (J : JI) , o = (J) → AA Ω m_X2_readWord (FQ Ω m_X2_readWord Q) 0 0 41 [(0, .ref a)] [] J S) → AA Ω m_X2_readWord (FQ Ω m_X2_readWord Q) 0 0 0 [(0, .ref a)] [] I S := by
  intro f
  induction f with
  | zero =>
    intro I o h hR hE
    rw [s_X2_readWord_L0] at h
    cases h
  | succ f ih =>
    intro I o h hR hE
    rw [s_X2_readWord_L0] at h
    refine r_aload_n (pc' := 1) dX2_readWord_0 rfl 0 rfl rfl ?_
    refine r_getI (pc' := 4) dX2_readWord_1 fa_X2_22 ha.o rfl rfl ?_
    refine r_aload_n (pc' := 5) dX2_readWord_4 rfl 0 rfl rfl ?_
    refine r_getI (pc' := 8) dX2_readWord_5 fa_X2_19 ha.o rfl rfl ?_
    refine r_icmp_ge (tgt := 41) (pc' := 11) dX2_readWord_8 rfl rfl (fun h1 => ?_) (fun h1 => ?_)
    · have h := ifp h1 h
      cases h
      exact hE _ rfl
    · have h := ifn h1 h
      refine r_aload_n (pc' := 12) dX2_readWord_11 rfl 0 rfl rfl ?_
      refine r_getO (pc' := 15) dX2_readWord_12 fa_X2_9 ha.o rfl ha.r0 rfl ?_
      refine r_aload_n (pc' := 16) dX2_readWord_15 rfl 0 rfl rfl ?_
      refine r_getI (pc' := 19) dX2_readWord_16 fa_X2_22 ha.o rfl rfl ?_
      refine r_callSN2 (pc' := 22) (k' := 0) (n' := 0) dX2_readWord_19 mb_X8_at ms_X8_at ln_X2_47 rfl rfl rfl (Nat.le_of_ble_eq_true rfl) rfl (c_X8_at ha.c0 (by decide) (cpI ?_))
      refine r_callS1 (pc' := 25) (k' := 0) (n' := 0) dX2_readWord_22 mb_X2_isLetter ms_X2_isLetter lk_X2_51 rfl rfl rfl (Nat.le_of_ble_eq_true rfl) rfl (c_X2_isLetter rfl (cpI ?_))
      refine r_if_eq (tgt := 41) (pc' := 28) dX2_readWord_25 rfl rfl (fun h2 => ?_) (fun h2 => ?_)
      · have h := ifn (zb_n0 h2) h
        cases h
        exact hE _ rfl
      · have h := ifp (zb_p0 h2) h
        refine r_aload_n (pc' := 29) dX2_readWord_28 rfl 0 rfl rfl ?_
        refine r_dup (pc' := 30) dX2_readWord_29 rfl rfl ?_
        refine r_getI (pc' := 33) dX2_readWord_30 fa_X2_22 ha.o rfl rfl ?_
        refine r_iconst (pc' := 34) (v := 1) dX2_readWord_33 (by decide) rfl ?_
        refine r_iadd (pc' := 35) dX2_readWord_34 rfl ?_
        refine r_putI (pc' := 38) dX2_readWord_35 fa_X2_22 ha.o rfl rfl ?_
        have h := lx_e h
        refine r_goto (tgt := 0) dX2_readWord_38 rfl ?_
        exact ih  _ _ h hR hE
set_option maxHeartbeats 4000000 in
theorem c_X2_readWord {Ω : JO} {I : JI} {S : JS} {Q : JQ} {a : Nat} {J : JI} (ha : Is2 S a) (h : s_X2_readWord I a = some J) (hQ : Q (.inl none) J S) : Call Ω m_X2_readWord [.ref a] I S Q := by
  refine call_of (by decide +kernel) rfl (Nat.le_of_ble_eq_true rfl) ?_
  change AA Ω m_X2_readWord (FQ Ω m_X2_readWord Q) 0 0 0 [(0, .ref a)] [] I S
  unfold s_X2_readWord at h
  obtain ⟨o5, eo5, h⟩ := bd_e h
  refine l_X2_readWord_L0 (Ω := Ω) ha _ _ _ eo5 trivial (fun I4 q => ?_)
  subst q
  refine r_aload_n (pc' := 42) dX2_readWord_41 rfl 0 rfl rfl ?_
  refine r_aload_n (pc' := 43) dX2_readWord_42 rfl 0 rfl rfl ?_
  refine r_getI (pc' := 46) dX2_readWord_43 fa_X2_22 ha.o rfl rfl ?_
  refine r_aload_n (pc' := 47) dX2_readWord_46 rfl 0 rfl rfl ?_
  refine r_getI (pc' := 50) dX2_readWord_47 fa_X2_28 ha.o rfl rfl ?_
  refine r_isub (pc' := 51) dX2_readWord_50 rfl ?_
  refine r_bipush (pc' := 53) (v := 7) dX2_readWord_51 (by decide) rfl ?_
  refine r_icmp_le (tgt := 61) (pc' := 56) dX2_readWord_53 rfl rfl (fun h6 => ?_) (fun h6 => ?_)
  · have h := ifp h6 h
    refine r_iconst (pc' := 62) (v := 1) dX2_readWord_61 (by decide) rfl ?_
    refine r_putI (pc' := 65) dX2_readWord_62 fa_X2_25 ha.o rfl rfl ?_
    have h := lx_e h
    cases h
    exact r_ret dX2_readWord_65 rfl (by decide) (by decide) hQ
  · have h := ifn h6 h
    refine r_bipush (pc' := 58) (v := 6) dX2_readWord_56 (by decide) rfl ?_
    refine r_goto (tgt := 62) dX2_readWord_58 rfl ?_
    refine r_putI (pc' := 65) dX2_readWord_62 fa_X2_25 ha.o rfl rfl ?_
    have h := lx_e h
    cases h
    exact r_ret dX2_readWord_65 rfl (by decide) (by decide) hQ
theorem frl_X2_readWord_L0 {a : Nat} {z : Nat} (hza : z ≠ a) : ∀ (f : Nat) (I : JI) (o : (JI)), s_X2_readWord_L0 a f I = some o → (∀ (J : JI), o = (J) → J z = I z) := by
  intro f
  induction f with
  | zero =>
    intro I o h
    rw [s_X2_readWord_L0] at h
    cases h
  | succ f ih =>
    intro I o h
    rw [s_X2_readWord_L0] at h
    rcases if_e h with h | h
    · cases h
      intro _ q
      cases q
      exact rfl
    · rcases if_e h with h | h
      · have h := lx_e h
        intro _ q
        exact ((ih  _ _ h) _ q).trans ((fr_stI (by omega)).trans rfl)
      · cases h
        intro _ q
        cases q
        exact rfl
set_option maxHeartbeats 4000000 in
theorem fr_X2_readWord {I : JI} {a : Nat} {J : JI} {z : Nat} (h : s_X2_readWord I a = some J) (hza : z ≠ a) : J z = I z := by
  unfold s_X2_readWord at h
  obtain ⟨I4, e1, h⟩ := bd_e h
  rcases if_e h with h | h
  · have h := lx_e h
    cases h
    exact ((fr_stI (by omega)).trans (((frl_X2_readWord_L0 hza _  _ _ e1) _ rfl).trans rfl))
  · have h := lx_e h
    cases h
    exact ((fr_stI (by omega)).trans (((frl_X2_readWord_L0 hza _  _ _ e1) _ rfl).trans rfl))
noncomputable def s_X2_isDigit (x0 : Int32) : Bool :=
  if x0 < 48 then false else (if 57 < x0 then false else true)
set_option maxHeartbeats 4000000 in
theorem c_X2_isDigit {Ω : JO} {I : JI} {S : JS} {Q : JQ} {x0 : Int32} {r : Bool} (h : s_X2_isDigit x0 = r) (hQ : Q (.inl (some (.int (zb r)))) I S) : Call Ω m_X2_isDigit [.int x0] I S Q := by
  refine call_of (by decide +kernel) rfl (Nat.le_of_ble_eq_true rfl) ?_
  change AA Ω m_X2_isDigit (FQ Ω m_X2_isDigit Q) 0 0 0 [(0, .int x0)] [] I S
  unfold s_X2_isDigit at h
  refine r_iload_n (pc' := 1) dX2_isDigit_0 rfl 0 rfl rfl ?_
  refine r_bipush (pc' := 3) (v := 48) dX2_isDigit_1 (by decide) rfl ?_
  refine r_icmp_lt (tgt := 16) (pc' := 6) dX2_isDigit_3 rfl rfl (fun h1 => ?_) (fun h1 => ?_)
  · have h := ifp h1 h
    refine r_iconst (pc' := 17) (v := 0) dX2_isDigit_16 (by decide) rfl ?_
    subst h
    exact r_zret dX2_isDigit_17 rfl (by decide) (by decide) (by decide) hQ
  · have h := ifn h1 h
    refine r_iload_n (pc' := 7) dX2_isDigit_6 rfl 0 rfl rfl ?_
    refine r_bipush (pc' := 9) (v := 57) dX2_isDigit_7 (by decide) rfl ?_
    refine r_icmp_gt (tgt := 16) (pc' := 12) dX2_isDigit_9 rfl rfl (fun h2 => ?_) (fun h2 => ?_)
    · have h := ifp h2 h
      refine r_iconst (pc' := 17) (v := 0) dX2_isDigit_16 (by decide) rfl ?_
      subst h
      exact r_zret dX2_isDigit_17 rfl (by decide) (by decide) (by decide) hQ
    · have h := ifn h2 h
      refine r_iconst (pc' := 13) (v := 1) dX2_isDigit_12 (by decide) rfl ?_
      refine r_goto (tgt := 17) dX2_isDigit_13 rfl ?_
      subst h
      exact r_zret dX2_isDigit_17 rfl (by decide) (by decide) (by decide) hQ
noncomputable def s_X2_readNumber_L5 (a : Nat) : Nat → JI → Option (JI)
  | 0, _ => none
  | f + 1, I => if (I a 2) ≤ (I a 3) then (some (I)) else (if (s_X2_isDigit (atF (I (a + 1)) 500 (I a 3))) = true then (lx (stI I a 6 ((((I a 6) * 10) + (atF (I (a + 1)) 500 (I a 3))) - 48)) fun I4 => lx (stI I4 a 3 ((I4 a 3) + 1)) fun I5 => s_X2_readNumber_L5 a f  I5) else (some (I)))
noncomputable def s_X2_readNumber (I : JI) (a : Nat) : Option (JI) :=
  lx (stI I a 6 0) fun I1 => bd (s_X2_readNumber_L5 a lf  I1) fun I6 => if ((I6 a 3) - (I6 a 5)) ≤ 3 then (lx (stI I6 a 4 2) fun I9 => some I9) else (lx (stI I6 a 4 6) fun I10 => some I10)
set_option maxHeartbeats 4000000 in
theorem l_X2_readNumber_L5 {Ω : JO} {S : JS} {Q : JQ} {a : Nat} (ha : Is2 S a) : ∀ (f : Nat) (I : JI) (o : (JI)), s_X2_readNumber_L5 a f I = some o → True → (∀ (J : JI) , o = (J) → AA Ω m_X2_readNumber (FQ Ω m_X2_readNumber Q) 0 0 72 [(0, .ref a)] [] J S) → AA Ω m_X2_readNumber (FQ Ω m_X2_readNumber Q) 0 0 5 [(0, .ref a)] [] I S := by
  intro f
  induction f with
  | zero =>
    intro I o h hR hE
    rw [s_X2_readNumber_L5] at h
    cases h
  | succ f ih =>
    intro I o h hR hE
    rw [s_X2_readNumber_L5] at h
    refine r_aload_n (pc' := 6) dX2_readNumber_5 rfl 0 rfl rfl ?_
    refine r_getI (pc' := 9) dX2_readNumber_6 fa_X2_22 ha.o rfl rfl ?_
    refine r_aload_n (pc' := 10) dX2_readNumber_9 rfl 0 rfl rfl ?_
    refine r_getI (pc' := 13) dX2_readNumber_10 fa_X2_19 ha.o rfl rfl ?_
    refine r_icmp_ge (tgt := 72) (pc' := 16) dX2_readNumber_13 rfl rfl (fun h2 => ?_) (fun h2 => ?_)
    · have h := ifp h2 h
      cases h
      exact hE _ rfl
    · have h := ifn h2 h
      refine r_aload_n (pc' := 17) dX2_readNumber_16 rfl 0 rfl rfl ?_
      refine r_getO (pc' := 20) dX2_readNumber_17 fa_X2_9 ha.o rfl ha.r0 rfl ?_
      refine r_aload_n (pc' := 21) dX2_readNumber_20 rfl 0 rfl rfl ?_
      refine r_getI (pc' := 24) dX2_readNumber_21 fa_X2_22 ha.o rfl rfl ?_
      refine r_callSN2 (pc' := 27) (k' := 0) (n' := 0) dX2_readNumber_24 mb_X8_at ms_X8_at ln_X2_47 rfl rfl rfl (Nat.le_of_ble_eq_true rfl) rfl (c_X8_at ha.c0 (by decide) (cpI ?_))
      refine r_callS1 (pc' := 30) (k' := 0) (n' := 0) dX2_readNumber_27 mb_X2_isDigit ms_X2_isDigit lk_X2_58 rfl rfl rfl (Nat.le_of_ble_eq_true rfl) rfl (c_X2_isDigit rfl (cpI ?_))
      refine r_if_eq (tgt := 72) (pc' := 33) dX2_readNumber_30 rfl rfl (fun h3 => ?_) (fun h3 => ?_)
      · have h := ifn (zb_n0 h3) h
        cases h
        exact hE _ rfl
      · have h := ifp (zb_p0 h3) h
        refine r_aload_n (pc' := 34) dX2_readNumber_33 rfl 0 rfl rfl ?_
        refine r_aload_n (pc' := 35) dX2_readNumber_34 rfl 0 rfl rfl ?_
        refine r_getI (pc' := 38) dX2_readNumber_35 fa_X2_31 ha.o rfl rfl ?_
        refine r_bipush (pc' := 40) (v := 10) dX2_readNumber_38 (by decide) rfl ?_
        refine r_imul (pc' := 41) dX2_readNumber_40 rfl ?_
        refine r_aload_n (pc' := 42) dX2_readNumber_41 rfl 0 rfl rfl ?_
        refine r_getO (pc' := 45) dX2_readNumber_42 fa_X2_9 ha.o rfl ha.r0 rfl ?_
        refine r_aload_n (pc' := 46) dX2_readNumber_45 rfl 0 rfl rfl ?_
        refine r_getI (pc' := 49) dX2_readNumber_46 fa_X2_22 ha.o rfl rfl ?_
        refine r_callSN2 (pc' := 52) (k' := 0) (n' := 0) dX2_readNumber_49 mb_X8_at ms_X8_at ln_X2_47 rfl rfl rfl (Nat.le_of_ble_eq_true rfl) rfl (c_X8_at ha.c0 (by decide) (cpI ?_))
        refine r_iadd (pc' := 53) dX2_readNumber_52 rfl ?_
        refine r_bipush (pc' := 55) (v := 48) dX2_readNumber_53 (by decide) rfl ?_
        refine r_isub (pc' := 56) dX2_readNumber_55 rfl ?_
        refine r_putI (pc' := 59) dX2_readNumber_56 fa_X2_31 ha.o rfl rfl ?_
        have h := lx_e h
        refine r_aload_n (pc' := 60) dX2_readNumber_59 rfl 0 rfl rfl ?_
        refine r_dup (pc' := 61) dX2_readNumber_60 rfl rfl ?_
        refine r_getI (pc' := 64) dX2_readNumber_61 fa_X2_22 ha.o rfl rfl ?_
        refine r_iconst (pc' := 65) (v := 1) dX2_readNumber_64 (by decide) rfl ?_
        refine r_iadd (pc' := 66) dX2_readNumber_65 rfl ?_
        refine r_putI (pc' := 69) dX2_readNumber_66 fa_X2_22 ha.o rfl rfl ?_
        have h := lx_e h
        refine r_goto (tgt := 5) dX2_readNumber_69 rfl ?_
        exact ih  _ _ h hR hE
set_option maxHeartbeats 4000000 in
theorem c_X2_readNumber {Ω : JO} {I : JI} {S : JS} {Q : JQ} {a : Nat} {J : JI} (ha : Is2 S a) (h : s_X2_readNumber I a = some J) (hQ : Q (.inl none) J S) : Call Ω m_X2_readNumber [.ref a] I S Q := by
  refine call_of (by decide +kernel) rfl (Nat.le_of_ble_eq_true rfl) ?_
  change AA Ω m_X2_readNumber (FQ Ω m_X2_readNumber Q) 0 0 0 [(0, .ref a)] [] I S
  unfold s_X2_readNumber at h
  refine r_aload_n (pc' := 1) dX2_readNumber_0 rfl 0 rfl rfl ?_
  refine r_iconst (pc' := 2) (v := 0) dX2_readNumber_1 (by decide) rfl ?_
  refine r_putI (pc' := 5) dX2_readNumber_2 fa_X2_31 ha.o rfl rfl ?_
  have h := lx_e h
  obtain ⟨o7, eo7, h⟩ := bd_e h
  refine l_X2_readNumber_L5 (Ω := Ω) ha _ _ _ eo7 trivial (fun I6 q => ?_)
  subst q
  refine r_aload_n (pc' := 73) dX2_readNumber_72 rfl 0 rfl rfl ?_
  refine r_aload_n (pc' := 74) dX2_readNumber_73 rfl 0 rfl rfl ?_
  refine r_getI (pc' := 77) dX2_readNumber_74 fa_X2_22 ha.o rfl rfl ?_
  refine r_aload_n (pc' := 78) dX2_readNumber_77 rfl 0 rfl rfl ?_
  refine r_getI (pc' := 81) dX2_readNumber_78 fa_X2_28 ha.o rfl rfl ?_
  refine r_isub (pc' := 82) dX2_readNumber_81 rfl ?_
  refine r_iconst (pc' := 83) (v := 3) dX2_readNumber_82 (by decide) rfl ?_
  refine r_icmp_le (tgt := 91) (pc' := 86) dX2_readNumber_83 rfl rfl (fun h8 => ?_) (fun h8 => ?_)
  · have h := ifp h8 h
    refine r_iconst (pc' := 92) (v := 2) dX2_readNumber_91 (by decide) rfl ?_
    refine r_putI (pc' := 95) dX2_readNumber_92 fa_X2_25 ha.o rfl rfl ?_
    have h := lx_e h
    cases h
    exact r_ret dX2_readNumber_95 rfl (by decide) (by decide) hQ
  · have h := ifn h8 h
    refine r_bipush (pc' := 88) (v := 6) dX2_readNumber_86 (by decide) rfl ?_
    refine r_goto (tgt := 92) dX2_readNumber_88 rfl ?_
    refine r_putI (pc' := 95) dX2_readNumber_92 fa_X2_25 ha.o rfl rfl ?_
    have h := lx_e h
    cases h
    exact r_ret dX2_readNumber_95 rfl (by decide) (by decide) hQ
theorem frl_X2_readNumber_L5 {a : Nat} {z : Nat} (hza : z ≠ a) : ∀ (f : Nat) (I : JI) (o : (JI)), s_X2_readNumber_L5 a f I = some o → (∀ (J : JI), o = (J) → J z = I z) := by
  intro f
  induction f with
  | zero =>
    intro I o h
    rw [s_X2_readNumber_L5] at h
    cases h
  | succ f ih =>
    intro I o h
    rw [s_X2_readNumber_L5] at h
    rcases if_e h with h | h
    · cases h
      intro _ q
      cases q
      exact rfl
    · rcases if_e h with h | h
      · have h := lx_e h
        have h := lx_e h
        intro _ q
        exact ((ih  _ _ h) _ q).trans ((fr_stI (by omega)).trans ((fr_stI (by omega)).trans rfl))
      · cases h
        intro _ q
        cases q
        exact rfl
set_option maxHeartbeats 4000000 in
theorem fr_X2_readNumber {I : JI} {a : Nat} {J : JI} {z : Nat} (h : s_X2_readNumber I a = some J) (hza : z ≠ a) : J z = I z := by
  unfold s_X2_readNumber at h
  have h := lx_e h
  obtain ⟨I6, e1, h⟩ := bd_e h
  rcases if_e h with h | h
  · have h := lx_e h
    cases h
    exact ((fr_stI (by omega)).trans (((frl_X2_readNumber_L5 hza _  _ _ e1) _ rfl).trans ((fr_stI (by omega)).trans rfl)))
  · have h := lx_e h
    cases h
    exact ((fr_stI (by omega)).trans (((frl_X2_readNumber_L5 hza _  _ _ e1) _ rfl).trans ((fr_stI (by omega)).trans rfl)))
noncomputable def s_X2_kindOfSign (x0 : Int32) : Int32 :=
  if x0 = 40 then 4 else (if x0 = 41 then 5 else (if x0 = 59 then 3 else (6)))
set_option maxHeartbeats 4000000 in
theorem c_X2_kindOfSign {Ω : JO} {I : JI} {S : JS} {Q : JQ} {x0 : Int32} {r : Int32} (h : s_X2_kindOfSign x0 = r) (hQ : Q (.inl (some (.int r))) I S) : Call Ω m_X2_kindOfSign [.int x0] I S Q := by
  refine call_of (by decide +kernel) rfl (Nat.le_of_ble_eq_true rfl) ?_
  change AA Ω m_X2_kindOfSign (FQ Ω m_X2_kindOfSign Q) 0 0 0 [(0, .int x0)] [] I S
  unfold s_X2_kindOfSign at h
  refine r_iload_n (pc' := 1) dX2_kindOfSign_0 rfl 0 rfl rfl ?_
  by_cases h1 : x0 = 40
  · have h := ifp h1 h
    refine r_lookup (off := 37) (tgt := 38) dX2_kindOfSign_1 (by decide) (by rw [h1]; rfl) rfl ?_
    refine r_iconst (pc' := 39) (v := 4) dX2_kindOfSign_38 (by decide) rfl ?_
    subst h
    exact r_iret dX2_kindOfSign_39 rfl (by decide) (by decide) hQ
  have h := ifn h1 h
  by_cases h2 : x0 = 41
  · have h := ifp h2 h
    refine r_lookup (off := 39) (tgt := 40) dX2_kindOfSign_1 (by decide) (by rw [h2]; rfl) rfl ?_
    refine r_iconst (pc' := 41) (v := 5) dX2_kindOfSign_40 (by decide) rfl ?_
    subst h
    exact r_iret dX2_kindOfSign_41 rfl (by decide) (by decide) hQ
  have h := ifn h2 h
  by_cases h3 : x0 = 59
  · have h := ifp h3 h
    refine r_lookup (off := 35) (tgt := 36) dX2_kindOfSign_1 (by decide) (by rw [h3]; rfl) rfl ?_
    refine r_iconst (pc' := 37) (v := 3) dX2_kindOfSign_36 (by decide) rfl ?_
    subst h
    exact r_iret dX2_kindOfSign_37 rfl (by decide) (by decide) hQ
  have h := ifn h3 h
  refine r_lookup (off := 41) (tgt := 42) dX2_kindOfSign_1 (by decide) ((lv_osw (k := 40) (a := 40) h1 rfl).trans ((lv_osw (k := 41) (a := 41) h2 rfl).trans ((lv_osw (k := 59) (a := 59) h3 rfl).trans rfl))) rfl ?_
  refine r_bipush (pc' := 44) (v := 6) dX2_kindOfSign_42 (by decide) rfl ?_
  subst h
  exact r_iret dX2_kindOfSign_44 rfl (by decide) (by decide) hQ
noncomputable def s_X2_advance_L0 (a : Nat) : Nat → JI → Option (JI)
  | 0, _ => none
  | f + 1, I => if (I a 2) ≤ (I a 3) then (some (I)) else (if (atF (I (a + 1)) 500 (I a 3)) = 32 then (lx (stI I a 3 ((I a 3) + 1)) fun I3 => s_X2_advance_L0 a f  I3) else (some (I)))
noncomputable def s_X2_advance (I : JI) (a : Nat) : Option (JI) :=
  bd (s_X2_advance_L0 a lf  I) fun I4 => lx (stI I4 a 5 (I4 a 3)) fun I6 => if (I6 a 3) < (I6 a 2) then (if (s_X2_isLetter (atF (I6 (a + 1)) 500 (I6 a 3))) = true then (bd (s_X2_readWord I6 a) fun I13 => some I13) else (if (s_X2_isDigit (atF (I6 (a + 1)) 500 (I6 a 3))) = true then (bd (s_X2_readNumber I6 a) fun I12 => some I12) else (lx (stI I6 a 4 (s_X2_kindOfSign (atF (I6 (a + 1)) 500 (I6 a 3)))) fun I10 => lx (stI I10 a 3 ((I10 a 3) + 1)) fun I11 => some I11))) else (lx (stI I6 a 4 0) fun I14 => some I14)
set_option maxHeartbeats 4000000 in
theorem l_X2_advance_L0 {Ω : JO} {S : JS} {Q : JQ} {a : Nat} (ha : Is2 S a) : ∀ (f : Nat) (I : JI) (o : (JI)), s_X2_advance_L0 a f I = some o → True → (∀ (J : JI) , o = (J) → AA Ω m_X2_advance (FQ Ω m_X2_advance Q) 0 0 40 [(0, .ref a)] [] J S) → AA Ω m_X2_advance (FQ Ω m_X2_advance Q) 0 0 0 [(0, .ref a)] [] I S := by
  intro f
  induction f with
  | zero =>
    intro I o h hR hE
    rw [s_X2_advance_L0] at h
    cases h
  | succ f ih =>
    intro I o h hR hE
    rw [s_X2_advance_L0] at h
    refine r_aload_n (pc' := 1) dX2_advance_0 rfl 0 rfl rfl ?_
    refine r_getI (pc' := 4) dX2_advance_1 fa_X2_22 ha.o rfl rfl ?_
    refine r_aload_n (pc' := 5) dX2_advance_4 rfl 0 rfl rfl ?_
    refine r_getI (pc' := 8) dX2_advance_5 fa_X2_19 ha.o rfl rfl ?_
    refine r_icmp_ge (tgt := 40) (pc' := 11) dX2_advance_8 rfl rfl (fun h1 => ?_) (fun h1 => ?_)
    · have h := ifp h1 h
      cases h
      exact hE _ rfl
    · have h := ifn h1 h
      refine r_aload_n (pc' := 12) dX2_advance_11 rfl 0 rfl rfl ?_
      refine r_getO (pc' := 15) dX2_advance_12 fa_X2_9 ha.o rfl ha.r0 rfl ?_
      refine r_aload_n (pc' := 16) dX2_advance_15 rfl 0 rfl rfl ?_
      refine r_getI (pc' := 19) dX2_advance_16 fa_X2_22 ha.o rfl rfl ?_
      refine r_callSN2 (pc' := 22) (k' := 0) (n' := 0) dX2_advance_19 mb_X8_at ms_X8_at ln_X2_47 rfl rfl rfl (Nat.le_of_ble_eq_true rfl) rfl (c_X8_at ha.c0 (by decide) (cpI ?_))
      refine r_bipush (pc' := 24) (v := 32) dX2_advance_22 (by decide) rfl ?_
      refine r_icmp_ne (tgt := 40) (pc' := 27) dX2_advance_24 rfl rfl (fun h2 => ?_) (fun h2 => ?_)
      · have h := ifn h2 h
        cases h
        exact hE _ rfl
      · have h := ifp h2 h
        refine r_aload_n (pc' := 28) dX2_advance_27 rfl 0 rfl rfl ?_
        refine r_dup (pc' := 29) dX2_advance_28 rfl rfl ?_
        refine r_getI (pc' := 32) dX2_advance_29 fa_X2_22 ha.o rfl rfl ?_
        refine r_iconst (pc' := 33) (v := 1) dX2_advance_32 (by decide) rfl ?_
        refine r_iadd (pc' := 34) dX2_advance_33 rfl ?_
        refine r_putI (pc' := 37) dX2_advance_34 fa_X2_22 ha.o rfl rfl ?_
        have h := lx_e h
        refine r_goto (tgt := 0) dX2_advance_37 rfl ?_
        exact ih  _ _ h hR hE
set_option maxHeartbeats 4000000 in
theorem c_X2_advance {Ω : JO} {I : JI} {S : JS} {Q : JQ} {a : Nat} {J : JI} (ha : Is2 S a) (h : s_X2_advance I a = some J) (hQ : Q (.inl none) J S) : Call Ω m_X2_advance [.ref a] I S Q := by
  refine call_of (by decide +kernel) rfl (Nat.le_of_ble_eq_true rfl) ?_
  change AA Ω m_X2_advance (FQ Ω m_X2_advance Q) 0 0 0 [(0, .ref a)] [] I S
  unfold s_X2_advance at h
  obtain ⟨o5, eo5, h⟩ := bd_e h
  refine l_X2_advance_L0 (Ω := Ω) ha _ _ _ eo5 trivial (fun I4 q => ?_)
  subst q
  refine r_aload_n (pc' := 41) dX2_advance_40 rfl 0 rfl rfl ?_
  refine r_aload_n (pc' := 42) dX2_advance_41 rfl 0 rfl rfl ?_
  refine r_getI (pc' := 45) dX2_advance_42 fa_X2_22 ha.o rfl rfl ?_
  refine r_putI (pc' := 48) dX2_advance_45 fa_X2_28 ha.o rfl rfl ?_
  have h := lx_e h
  refine r_aload_n (pc' := 49) dX2_advance_48 rfl 0 rfl rfl ?_
  refine r_getI (pc' := 52) dX2_advance_49 fa_X2_22 ha.o rfl rfl ?_
  refine r_aload_n (pc' := 53) dX2_advance_52 rfl 0 rfl rfl ?_
  refine r_getI (pc' := 56) dX2_advance_53 fa_X2_19 ha.o rfl rfl ?_
  refine r_icmp_lt (tgt := 67) (pc' := 59) dX2_advance_56 rfl rfl (fun h7 => ?_) (fun h7 => ?_)
  · have h := ifp h7 h
    refine r_aload_n (pc' := 68) dX2_advance_67 rfl 0 rfl rfl ?_
    refine r_getO (pc' := 71) dX2_advance_68 fa_X2_9 ha.o rfl ha.r0 rfl ?_
    refine r_aload_n (pc' := 72) dX2_advance_71 rfl 0 rfl rfl ?_
    refine r_getI (pc' := 75) dX2_advance_72 fa_X2_22 ha.o rfl rfl ?_
    refine r_callSN2 (pc' := 78) (k' := 0) (n' := 0) dX2_advance_75 mb_X8_at ms_X8_at ln_X2_47 rfl rfl rfl (Nat.le_of_ble_eq_true rfl) rfl (c_X8_at ha.c0 (by decide) (cpI ?_))
    refine r_callS1 (pc' := 81) (k' := 0) (n' := 0) dX2_advance_78 mb_X2_isLetter ms_X2_isLetter lk_X2_51 rfl rfl rfl (Nat.le_of_ble_eq_true rfl) rfl (c_X2_isLetter rfl (cpI ?_))
    refine r_if_eq (tgt := 91) (pc' := 84) dX2_advance_81 rfl rfl (fun h8 => ?_) (fun h8 => ?_)
    · have h := ifn (zb_n0 h8) h
      refine r_aload_n (pc' := 92) dX2_advance_91 rfl 0 rfl rfl ?_
      refine r_getO (pc' := 95) dX2_advance_92 fa_X2_9 ha.o rfl ha.r0 rfl ?_
      refine r_aload_n (pc' := 96) dX2_advance_95 rfl 0 rfl rfl ?_
      refine r_getI (pc' := 99) dX2_advance_96 fa_X2_22 ha.o rfl rfl ?_
      refine r_callSN2 (pc' := 102) (k' := 0) (n' := 0) dX2_advance_99 mb_X8_at ms_X8_at ln_X2_47 rfl rfl rfl (Nat.le_of_ble_eq_true rfl) rfl (c_X8_at ha.c0 (by decide) (cpI ?_))
      refine r_callS1 (pc' := 105) (k' := 0) (n' := 0) dX2_advance_102 mb_X2_isDigit ms_X2_isDigit lk_X2_58 rfl rfl rfl (Nat.le_of_ble_eq_true rfl) rfl (c_X2_isDigit rfl (cpI ?_))
      refine r_if_eq (tgt := 115) (pc' := 108) dX2_advance_105 rfl rfl (fun h9 => ?_) (fun h9 => ?_)
      · have h := ifn (zb_n0 h9) h
        refine r_aload_n (pc' := 116) dX2_advance_115 rfl 0 rfl rfl ?_
        refine r_aload_n (pc' := 117) dX2_advance_116 rfl 0 rfl rfl ?_
        refine r_getO (pc' := 120) dX2_advance_117 fa_X2_9 ha.o rfl ha.r0 rfl ?_
        refine r_aload_n (pc' := 121) dX2_advance_120 rfl 0 rfl rfl ?_
        refine r_getI (pc' := 124) dX2_advance_121 fa_X2_22 ha.o rfl rfl ?_
        refine r_callSN2 (pc' := 127) (k' := 0) (n' := 0) dX2_advance_124 mb_X8_at ms_X8_at ln_X2_47 rfl rfl rfl (Nat.le_of_ble_eq_true rfl) rfl (c_X8_at ha.c0 (by decide) (cpI ?_))
        refine r_callS1 (pc' := 130) (k' := 0) (n' := 0) dX2_advance_127 mb_X2_kindOfSign ms_X2_kindOfSign lk_X2_64 rfl rfl rfl (Nat.le_of_ble_eq_true rfl) rfl (c_X2_kindOfSign rfl (cpI ?_))
        refine r_putI (pc' := 133) dX2_advance_130 fa_X2_25 ha.o rfl rfl ?_
        have h := lx_e h
        refine r_aload_n (pc' := 134) dX2_advance_133 rfl 0 rfl rfl ?_
        refine r_dup (pc' := 135) dX2_advance_134 rfl rfl ?_
        refine r_getI (pc' := 138) dX2_advance_135 fa_X2_22 ha.o rfl rfl ?_
        refine r_iconst (pc' := 139) (v := 1) dX2_advance_138 (by decide) rfl ?_
        refine r_iadd (pc' := 140) dX2_advance_139 rfl ?_
        refine r_putI (pc' := 143) dX2_advance_140 fa_X2_22 ha.o rfl rfl ?_
        have h := lx_e h
        cases h
        exact r_ret dX2_advance_143 rfl (by decide) (by decide) hQ
      · have h := ifp (zb_p0 h9) h
        refine r_aload_n (pc' := 109) dX2_advance_108 rfl 0 rfl rfl ?_
        obtain ⟨I12, eI12, h⟩ := bd_e h
        refine r_callV0 (pc' := 112) (k' := 0) (n' := 0) dX2_advance_109 mb_X2_readNumber mi_X2_readNumber ha.o (by decide) rfl lk_X2_61 rfl rfl rfl (Nat.le_of_ble_eq_true rfl) rfl (c_X2_readNumber ha eI12 (cpV ?_))
        refine r_goto (tgt := 143) dX2_advance_112 rfl ?_
        cases h
        exact r_ret dX2_advance_143 rfl (by decide) (by decide) hQ
    · have h := ifp (zb_p0 h8) h
      refine r_aload_n (pc' := 85) dX2_advance_84 rfl 0 rfl rfl ?_
      obtain ⟨I13, eI13, h⟩ := bd_e h
      refine r_callV0 (pc' := 88) (k' := 0) (n' := 0) dX2_advance_85 mb_X2_readWord mi_X2_readWord ha.o (by decide) rfl lk_X2_55 rfl rfl rfl (Nat.le_of_ble_eq_true rfl) rfl (c_X2_readWord ha eI13 (cpV ?_))
      refine r_goto (tgt := 143) dX2_advance_88 rfl ?_
      cases h
      exact r_ret dX2_advance_143 rfl (by decide) (by decide) hQ
  · have h := ifn h7 h
    refine r_aload_n (pc' := 60) dX2_advance_59 rfl 0 rfl rfl ?_
    refine r_iconst (pc' := 61) (v := 0) dX2_advance_60 (by decide) rfl ?_
    refine r_putI (pc' := 64) dX2_advance_61 fa_X2_25 ha.o rfl rfl ?_
    have h := lx_e h
    refine r_goto (tgt := 143) dX2_advance_64 rfl ?_
    cases h
    exact r_ret dX2_advance_143 rfl (by decide) (by decide) hQ
theorem frl_X2_advance_L0 {a : Nat} {z : Nat} (hza : z ≠ a) : ∀ (f : Nat) (I : JI) (o : (JI)), s_X2_advance_L0 a f I = some o → (∀ (J : JI), o = (J) → J z = I z) := by
  intro f
  induction f with
  | zero =>
    intro I o h
    rw [s_X2_advance_L0] at h
    cases h
  | succ f ih =>
    intro I o h
    rw [s_X2_advance_L0] at h
    rcases if_e h with h | h
    · cases h
      intro _ q
      cases q
      exact rfl
    · rcases if_e h with h | h
      · have h := lx_e h
        intro _ q
        exact ((ih  _ _ h) _ q).trans ((fr_stI (by omega)).trans rfl)
      · cases h
        intro _ q
        cases q
        exact rfl
set_option maxHeartbeats 4000000 in
theorem fr_X2_advance {I : JI} {a : Nat} {J : JI} {z : Nat} (h : s_X2_advance I a = some J) (hza : z ≠ a) : J z = I z := by
  unfold s_X2_advance at h
  obtain ⟨I4, e1, h⟩ := bd_e h
  have h := lx_e h
  rcases if_e h with h | h
  · rcases if_e h with h | h
    · obtain ⟨I13, e2, h⟩ := bd_e h
      cases h
      exact ((fr_X2_readWord e2 (by omega)).trans ((fr_stI (by omega)).trans (((frl_X2_advance_L0 hza _  _ _ e1) _ rfl).trans rfl)))
    · rcases if_e h with h | h
      · obtain ⟨I12, e3, h⟩ := bd_e h
        cases h
        exact ((fr_X2_readNumber e3 (by omega)).trans ((fr_stI (by omega)).trans (((frl_X2_advance_L0 hza _  _ _ e1) _ rfl).trans rfl)))
      · have h := lx_e h
        have h := lx_e h
        cases h
        exact ((fr_stI (by omega)).trans ((fr_stI (by omega)).trans ((fr_stI (by omega)).trans (((frl_X2_advance_L0 hza _  _ _ e1) _ rfl).trans rfl))))
  · have h := lx_e h
    cases h
    exact ((fr_stI (by omega)).trans ((fr_stI (by omega)).trans (((frl_X2_advance_L0 hza _  _ _ e1) _ rfl).trans rfl)))
noncomputable def s_X2_startReading (I : JI) (a : Nat) (x1 : Int32) : Option (JI) :=
  lx (stI I a 2 (mnF x1 (Int32.ofNat 500))) fun I1 => lx (stI I1 a 3 0) fun I2 => bd (s_X2_advance I2 a) fun I3 => some I3
set_option maxHeartbeats 4000000 in
theorem c_X2_startReading {Ω : JO} {I : JI} {S : JS} {Q : JQ} {a : Nat} {x1 : Int32} {J : JI} (ha : Is2 S a) (h : s_X2_startReading I a x1 = some J) (hQ : Q (.inl none) J S) : Call Ω m_X2_startReading [.ref a, .int x1] I S Q := by
  refine call_of (by decide +kernel) rfl (Nat.le_of_ble_eq_true rfl) ?_
  change AA Ω m_X2_startReading (FQ Ω m_X2_startReading Q) 0 0 0 [(0, .ref a), (1, .int x1)] [] I S
  unfold s_X2_startReading at h
  refine r_aload_n (pc' := 1) dX2_startReading_0 rfl 0 rfl rfl ?_
  refine r_iload_n (pc' := 2) dX2_startReading_1 rfl 1 rfl rfl ?_
  refine r_aload_n (pc' := 3) dX2_startReading_2 rfl 0 rfl rfl ?_
  refine r_getO (pc' := 6) dX2_startReading_3 fa_X2_9 ha.o rfl ha.r0 rfl ?_
  refine r_alen (pc' := 7) dX2_startReading_6 ha.c0 (by decide) rfl rfl ?_
  refine r_mmin (pc' := 10) dX2_startReading_7 mw_X2_38 (by decide) (Nat.le_of_ble_eq_true rfl) (by decide) (by decide) rfl ?_
  refine r_putI (pc' := 13) dX2_startReading_10 fa_X2_19 ha.o rfl rfl ?_
  have h := lx_e h
  refine r_aload_n (pc' := 14) dX2_startReading_13 rfl 0 rfl rfl ?_
  refine r_iconst (pc' := 15) (v := 0) dX2_startReading_14 (by decide) rfl ?_
  refine r_putI (pc' := 18) dX2_startReading_15 fa_X2_22 ha.o rfl rfl ?_
  have h := lx_e h
  refine r_aload_n (pc' := 19) dX2_startReading_18 rfl 0 rfl rfl ?_
  obtain ⟨I3, eI3, h⟩ := bd_e h
  refine r_callV0 (pc' := 22) (k' := 0) (n' := 0) dX2_startReading_19 mb_X2_advance mi_X2_advance ha.o (by decide) rfl lk_X2_44 rfl rfl rfl (Nat.le_of_ble_eq_true rfl) rfl (c_X2_advance ha eI3 (cpV ?_))
  cases h
  exact r_ret dX2_startReading_22 rfl (by decide) (by decide) hQ
set_option maxHeartbeats 4000000 in
theorem fr_X2_startReading {I : JI} {a : Nat} {x1 : Int32} {J : JI} {z : Nat} (h : s_X2_startReading I a x1 = some J) (hza : z ≠ a) : J z = I z := by
  unfold s_X2_startReading at h
  have h := lx_e h
  have h := lx_e h
  obtain ⟨I3, e1, h⟩ := bd_e h
  cases h
  exact ((fr_X2_advance e1 (by omega)).trans ((fr_stI (by omega)).trans ((fr_stI (by omega)).trans rfl)))
noncomputable def s_X2_isWord_L28 (I : JI) (a : Nat) (tx : String) : Nat → Int32 → Option ((Bool) ⊕ (Int32))
  | 0, _ => none
  | f + 1, w2 => if (Int32.ofNat (String.toList tx).length) ≤ w2 then (some (.inr (w2))) else (gd (asc tx ∧ vp_in w2 (String.toList tx).length ∧ (String.toList tx).length < 2 ^ 31) <| if (atF (I (a + 1)) 500 ((I a 5) + w2)) = (chE tx (Int32.toNatClampNeg w2)) then (s_X2_isWord_L28 I a tx f (w2 + 1)) else (some (.inl false)))
noncomputable def s_X2_isWord (I : JI) (a : Nat) (tx : String) : Option (Bool) :=
  if (I a 4) = 1 then (if ((I a 3) - (I a 5)) = (Int32.ofNat (String.toList tx).length) then (bl (s_X2_isWord_L28 I a tx lf 0) fun y6 => some true) else (some false)) else (some false)
set_option maxHeartbeats 4000000 in
theorem l_X2_isWord_L28 {Ω : JO} {S : JS} {Q : JQ} {own : String} {sk : Nat} {I : JI} {a : Nat} {tx : String} (ha : Is2 S a) (ht : Cond.stringRef own sk tx ∈ lw_tbl) : ∀ (f : Nat) (w2 : Int32) (o : ((Bool) ⊕ (Int32))), s_X2_isWord_L28 I a tx f w2 = some o → (∀ (r : Bool), o = .inl r → Q (.inl (some (.int (zb r)))) I S) → (∀ (y2 : Int32) , o = .inr (y2) → AA Ω m_X2_isWord (FQ Ω m_X2_isWord Q) 0 0 65 [(2, .int y2), (0, .ref a), (1, .ref (Ω.2.2.2.2.1 own sk).1)] [] I S) → AA Ω m_X2_isWord (FQ Ω m_X2_isWord Q) 0 0 28 [(2, .int w2), (0, .ref a), (1, .ref (Ω.2.2.2.2.1 own sk).1)] [] I S := by
  intro f
  induction f with
  | zero =>
    intro w2 o h hR hE
    rw [s_X2_isWord_L28] at h
    cases h
  | succ f ih =>
    intro w2 o h hR hE
    rw [s_X2_isWord_L28] at h
    refine r_iload_n (pc' := 29) dX2_isWord_28 rfl 0 rfl rfl ?_
    refine r_aload_n (pc' := 30) dX2_isWord_29 rfl 2 rfl rfl ?_
    refine r_callT0 (pc' := 33) (k' := 0) (n' := 0) dX2_isWord_30 mb_J0_length_8abf5 mi_J0_length_8abf5 rfl ht lk_X2_68 rfl rfl rfl (Nat.le_of_ble_eq_true rfl) rfl (c_J0_length_8abf5 ht (cpI ?_))
    refine r_icmp_ge (tgt := 65) (pc' := 36) dX2_isWord_33 rfl rfl (fun h3 => ?_) (fun h3 => ?_)
    · have h := ifp h3 h
      cases h
      exact hE _ rfl
    · have h := ifn h3 h
      refine r_aload_n (pc' := 37) dX2_isWord_36 rfl 1 rfl rfl ?_
      refine r_getO (pc' := 40) dX2_isWord_37 fa_X2_9 ha.o rfl ha.r0 rfl ?_
      refine r_aload_n (pc' := 41) dX2_isWord_40 rfl 1 rfl rfl ?_
      refine r_getI (pc' := 44) dX2_isWord_41 fa_X2_28 ha.o rfl rfl ?_
      refine r_iload_n (pc' := 45) dX2_isWord_44 rfl 0 rfl rfl ?_
      refine r_iadd (pc' := 46) dX2_isWord_45 rfl ?_
      refine r_callSN2 (pc' := 49) (k' := 0) (n' := 0) dX2_isWord_46 mb_X8_at ms_X8_at ln_X2_47 rfl rfl rfl (Nat.le_of_ble_eq_true rfl) rfl (c_X8_at ha.c0 (by decide) (cpI ?_))
      refine r_aload_n (pc' := 50) dX2_isWord_49 rfl 2 rfl rfl ?_
      refine r_iload_n (pc' := 51) dX2_isWord_50 rfl 0 rfl rfl ?_
      obtain ⟨g4, h⟩ := gd_e h
      refine r_callT1 (pc' := 54) (k' := 0) (n' := 0) dX2_isWord_51 mb_J0_charAt_5068e mi_J0_charAt_5068e rfl ht lk_X2_74 rfl rfl rfl (Nat.le_of_ble_eq_true rfl) rfl (c_J0_charAt_5068e ht g4.1 g4.2.1 g4.2.2 (cpI ?_))
      refine r_icmp_eq (tgt := 59) (pc' := 57) dX2_isWord_54 rfl rfl (fun h5 => ?_) (fun h5 => ?_)
      · have h := ifp h5 h
        refine r_iinc (pc' := 62) (v := _ + 1) (lv' := [(2, _), (0, _), (1, _)]) dX2_isWord_59 0 rfl rfl (by decide) rfl rfl ?_
        refine r_goto (tgt := 28) dX2_isWord_62 rfl ?_
        exact ih _ _ h hR hE
      · have h := ifn h5 h
        refine r_iconst (pc' := 58) (v := 0) dX2_isWord_57 (by decide) rfl ?_
        cases h
        exact r_zret dX2_isWord_58 rfl (by decide) (by decide) (by decide) (hR _ rfl)
set_option maxHeartbeats 4000000 in
theorem c_X2_isWord {Ω : JO} {I : JI} {S : JS} {Q : JQ} {own : String} {sk : Nat} {a : Nat} {tx : String} {r : Bool} (ha : Is2 S a) (ht : Cond.stringRef own sk tx ∈ lw_tbl) (h : s_X2_isWord I a tx = some r) (hQ : Q (.inl (some (.int (zb r)))) I S) : Call Ω m_X2_isWord [.ref a, .ref (Ω.2.2.2.2.1 own sk).1] I S Q := by
  refine call_of (by decide +kernel) rfl (Nat.le_of_ble_eq_true rfl) ?_
  change AA Ω m_X2_isWord (FQ Ω m_X2_isWord Q) 0 0 0 [(0, .ref a), (1, .ref (Ω.2.2.2.2.1 own sk).1)] [] I S
  unfold s_X2_isWord at h
  refine r_aload_n (pc' := 1) dX2_isWord_0 rfl 0 rfl rfl ?_
  refine r_getI (pc' := 4) dX2_isWord_1 fa_X2_25 ha.o rfl rfl ?_
  refine r_iconst (pc' := 5) (v := 1) dX2_isWord_4 (by decide) rfl ?_
  refine r_icmp_ne (tgt := 24) (pc' := 8) dX2_isWord_5 rfl rfl (fun h1 => ?_) (fun h1 => ?_)
  · have h := ifn h1 h
    refine r_iconst (pc' := 25) (v := 0) dX2_isWord_24 (by decide) rfl ?_
    cases h
    exact r_zret dX2_isWord_25 rfl (by decide) (by decide) (by decide) hQ
  · have h := ifp h1 h
    refine r_aload_n (pc' := 9) dX2_isWord_8 rfl 0 rfl rfl ?_
    refine r_getI (pc' := 12) dX2_isWord_9 fa_X2_22 ha.o rfl rfl ?_
    refine r_aload_n (pc' := 13) dX2_isWord_12 rfl 0 rfl rfl ?_
    refine r_getI (pc' := 16) dX2_isWord_13 fa_X2_28 ha.o rfl rfl ?_
    refine r_isub (pc' := 17) dX2_isWord_16 rfl ?_
    refine r_aload_n (pc' := 18) dX2_isWord_17 rfl 1 rfl rfl ?_
    refine r_callT0 (pc' := 21) (k' := 0) (n' := 0) dX2_isWord_18 mb_J0_length_8abf5 mi_J0_length_8abf5 rfl ht lk_X2_68 rfl rfl rfl (Nat.le_of_ble_eq_true rfl) rfl (c_J0_length_8abf5 ht (cpI ?_))
    refine r_icmp_eq (tgt := 26) (pc' := 24) dX2_isWord_21 rfl rfl (fun h2 => ?_) (fun h2 => ?_)
    · have h := ifp h2 h
      refine r_iconst (pc' := 27) (v := 0) dX2_isWord_26 (by decide) rfl ?_
      refine r_istore_n (pc' := 28) (lv' := [(2, _), (0, _), (1, _)]) dX2_isWord_27 rfl (by decide) rfl rfl ?_
      obtain ⟨o7, eo7, h1, h⟩ := bl_e h
      refine l_X2_isWord_L28 (Ω := Ω) ha ht _ _ _ eo7 (fun r q => ?_) (fun y6 q => ?_)
      · have h1 := h1 _ q
        cases h1
        exact hQ
      have h := h _ q
      refine r_iconst (pc' := 66) (v := 1) dX2_isWord_65 (by decide) rfl ?_
      cases h
      exact r_zret dX2_isWord_66 rfl (by decide) (by decide) (by decide) hQ
    · have h := ifn h2 h
      refine r_iconst (pc' := 25) (v := 0) dX2_isWord_24 (by decide) rfl ?_
      cases h
      exact r_zret dX2_isWord_25 rfl (by decide) (by decide) (by decide) hQ
noncomputable def s_X2_colour (I : JI) (a : Nat) : Int32 :=
  if (I a 4) = 1 then (if ((I a 3) - (I a 5)) = 1 then (lx ((atF (I (a + 1)) 500 (I a 5)) - 97) fun v3 => if 6 ≤ v3 then (-1) else v3) else (-1)) else (-1)
set_option maxHeartbeats 4000000 in
theorem c_X2_colour {Ω : JO} {I : JI} {S : JS} {Q : JQ} {a : Nat} {r : Int32} (ha : Is2 S a) (h : s_X2_colour I a = r) (hQ : Q (.inl (some (.int r))) I S) : Call Ω m_X2_colour [.ref a] I S Q := by
  refine call_of (by decide +kernel) rfl (Nat.le_of_ble_eq_true rfl) ?_
  change AA Ω m_X2_colour (FQ Ω m_X2_colour Q) 0 0 0 [(0, .ref a)] [] I S
  unfold s_X2_colour at h
  refine r_aload_n (pc' := 1) dX2_colour_0 rfl 0 rfl rfl ?_
  refine r_getI (pc' := 4) dX2_colour_1 fa_X2_25 ha.o rfl rfl ?_
  refine r_iconst (pc' := 5) (v := 1) dX2_colour_4 (by decide) rfl ?_
  refine r_icmp_ne (tgt := 21) (pc' := 8) dX2_colour_5 rfl rfl (fun h1 => ?_) (fun h1 => ?_)
  · have h := ifn h1 h
    refine r_iconst (pc' := 22) (v := -1) dX2_colour_21 (by decide) rfl ?_
    subst h
    exact r_iret dX2_colour_22 rfl (by decide) (by decide) hQ
  · have h := ifp h1 h
    refine r_aload_n (pc' := 9) dX2_colour_8 rfl 0 rfl rfl ?_
    refine r_getI (pc' := 12) dX2_colour_9 fa_X2_22 ha.o rfl rfl ?_
    refine r_aload_n (pc' := 13) dX2_colour_12 rfl 0 rfl rfl ?_
    refine r_getI (pc' := 16) dX2_colour_13 fa_X2_28 ha.o rfl rfl ?_
    refine r_isub (pc' := 17) dX2_colour_16 rfl ?_
    refine r_iconst (pc' := 18) (v := 1) dX2_colour_17 (by decide) rfl ?_
    refine r_icmp_eq (tgt := 23) (pc' := 21) dX2_colour_18 rfl rfl (fun h2 => ?_) (fun h2 => ?_)
    · have h := ifp h2 h
      refine r_aload_n (pc' := 24) dX2_colour_23 rfl 0 rfl rfl ?_
      refine r_getO (pc' := 27) dX2_colour_24 fa_X2_9 ha.o rfl ha.r0 rfl ?_
      refine r_aload_n (pc' := 28) dX2_colour_27 rfl 0 rfl rfl ?_
      refine r_getI (pc' := 31) dX2_colour_28 fa_X2_28 ha.o rfl rfl ?_
      refine r_callSN2 (pc' := 34) (k' := 0) (n' := 0) dX2_colour_31 mb_X8_at ms_X8_at ln_X2_47 rfl rfl rfl (Nat.le_of_ble_eq_true rfl) rfl (c_X8_at ha.c0 (by decide) (cpI ?_))
      refine r_bipush (pc' := 36) (v := 97) dX2_colour_34 (by decide) rfl ?_
      refine r_isub (pc' := 37) dX2_colour_36 rfl ?_
      refine r_istore_n (pc' := 38) (lv' := [(1, _), (0, _)]) dX2_colour_37 rfl (by decide) rfl rfl ?_
      have h := lx_e h
      refine r_iload_n (pc' := 39) dX2_colour_38 rfl 0 rfl rfl ?_
      refine r_bipush (pc' := 41) (v := 6) dX2_colour_39 (by decide) rfl ?_
      refine r_icmp_ge (tgt := 48) (pc' := 44) dX2_colour_41 rfl rfl (fun h4 => ?_) (fun h4 => ?_)
      · have h := ifp h4 h
        refine r_iconst (pc' := 49) (v := -1) dX2_colour_48 (by decide) rfl ?_
        subst h
        exact r_iret dX2_colour_49 rfl (by decide) (by decide) hQ
      · have h := ifn h4 h
        refine r_iload_n (pc' := 45) dX2_colour_44 rfl 0 rfl rfl ?_
        refine r_goto (tgt := 49) dX2_colour_45 rfl ?_
        subst h
        exact r_iret dX2_colour_49 rfl (by decide) (by decide) hQ
    · have h := ifn h2 h
      refine r_iconst (pc' := 22) (v := -1) dX2_colour_21 (by decide) rfl ?_
      subst h
      exact r_iret dX2_colour_22 rfl (by decide) (by decide) hQ
