noncomputable def s_X8_append (I : JI) (c L P : Nat) (x1 : Int32) (x2 : Int32) (x3 : Int32) (x4 : Int32) (x5 : Int32) : Option (Int32 × JI) :=
  if (I ((c + 1) + 1) 1) ≤ 480 then (bd (s_X2_addFourBytes I ((c + 1) + 1) x1) fun I2 => bd (s_X2_addFourBytes I2 ((c + 1) + 1) x2) fun I3 => bd (s_X2_addFourBytes I3 ((c + 1) + 1) x3) fun I4 => bd (s_X2_addFourBytes I4 ((c + 1) + 1) x4) fun I5 => bd (s_X2_addFourBytes I5 ((c + 1) + 1) x5) fun I6 => some ((I6 ((c + 1) + 1) 1), I6)) else (some ((-1), I))
set_option maxHeartbeats 4000000 in
theorem c_X8_append {Ω : JO} {I : JI} {S : JS} {Q : JQ} {c : Nat} {L : Nat} {P : Nat} {x1 : Int32} {x2 : Int32} {x3 : Int32} {x4 : Int32} {x5 : Int32} {r : Int32} {J : JI} (hc : Is8 S c L P) (h : s_X8_append I c L P x1 x2 x3 x4 x5 = some (r, J)) (hQ : Q (.inl (some (.int r))) J S) : Call Ω m_X8_append [.ref c, .int x1, .int x2, .int x3, .int x4, .int x5] I S Q := by
  refine call_of (by decide +kernel) rfl (Nat.le_of_ble_eq_true rfl) ?_
  change AA Ω m_X8_append (FQ Ω m_X8_append Q) 0 0 0 [(0, .ref c), (1, .int x1), (2, .int x2), (3, .int x3), (4, .int x4), (5, .int x5)] [] I S
  unfold s_X8_append at h
  refine r_aload_n (pc' := 1) dX8_append_0 rfl 0 rfl rfl ?_
  refine r_getO (pc' := 4) dX8_append_1 fa_X8_10 hc.o rfl hc.r0 rfl ?_
  refine r_getO (pc' := 7) dX8_append_4 fa_X8_51 hc.c0.o rfl hc.c0.r0 rfl ?_
  refine r_astore (pc' := 9) (lv' := [(6, _), (0, _), (1, _), (2, _), (3, _), (4, _), (5, _)]) dX8_append_7 (by decide) rfl rfl ?_
  refine r_aload (pc' := 11) dX8_append_9 0 rfl rfl ?_
  refine r_getI (pc' := 14) dX8_append_11 fa_X8_55 hc.c0.c0.o rfl rfl ?_
  refine r_sipush (pc' := 17) (v := 480) dX8_append_14 (by decide) rfl ?_
  refine r_icmp_le (tgt := 22) (pc' := 20) dX8_append_17 rfl rfl (fun h1 => ?_) (fun h1 => ?_)
  · have h := ifp h1 h
    refine r_aload (pc' := 24) dX8_append_22 0 rfl rfl ?_
    refine r_iload_n (pc' := 25) dX8_append_24 rfl 2 rfl rfl ?_
    obtain ⟨I2, eI2, h⟩ := bd_e h
    refine r_callV1 (pc' := 28) (k' := 0) (n' := 0) dX8_append_25 mb_X2_addFourBytes mi_X2_addFourBytes hc.c0.c0.o (by decide) rfl lk_X8_61 rfl rfl rfl (Nat.le_of_ble_eq_true rfl) rfl (c_X2_addFourBytes hc.c0.c0 eI2 (cpV ?_))
    refine r_aload (pc' := 30) dX8_append_28 0 rfl rfl ?_
    refine r_iload_n (pc' := 31) dX8_append_30 rfl 3 rfl rfl ?_
    obtain ⟨I3, eI3, h⟩ := bd_e h
    refine r_callV1 (pc' := 34) (k' := 0) (n' := 0) dX8_append_31 mb_X2_addFourBytes mi_X2_addFourBytes hc.c0.c0.o (by decide) rfl lk_X8_61 rfl rfl rfl (Nat.le_of_ble_eq_true rfl) rfl (c_X2_addFourBytes hc.c0.c0 eI3 (cpV ?_))
    refine r_aload (pc' := 36) dX8_append_34 0 rfl rfl ?_
    refine r_iload_n (pc' := 37) dX8_append_36 rfl 4 rfl rfl ?_
    obtain ⟨I4, eI4, h⟩ := bd_e h
    refine r_callV1 (pc' := 40) (k' := 0) (n' := 0) dX8_append_37 mb_X2_addFourBytes mi_X2_addFourBytes hc.c0.c0.o (by decide) rfl lk_X8_61 rfl rfl rfl (Nat.le_of_ble_eq_true rfl) rfl (c_X2_addFourBytes hc.c0.c0 eI4 (cpV ?_))
    refine r_aload (pc' := 42) dX8_append_40 0 rfl rfl ?_
    refine r_iload (pc' := 44) dX8_append_42 5 rfl rfl ?_
    obtain ⟨I5, eI5, h⟩ := bd_e h
    refine r_callV1 (pc' := 47) (k' := 0) (n' := 0) dX8_append_44 mb_X2_addFourBytes mi_X2_addFourBytes hc.c0.c0.o (by decide) rfl lk_X8_61 rfl rfl rfl (Nat.le_of_ble_eq_true rfl) rfl (c_X2_addFourBytes hc.c0.c0 eI5 (cpV ?_))
    refine r_aload (pc' := 49) dX8_append_47 0 rfl rfl ?_
    refine r_iload (pc' := 51) dX8_append_49 6 rfl rfl ?_
    obtain ⟨I6, eI6, h⟩ := bd_e h
    refine r_callV1 (pc' := 54) (k' := 0) (n' := 0) dX8_append_51 mb_X2_addFourBytes mi_X2_addFourBytes hc.c0.c0.o (by decide) rfl lk_X8_61 rfl rfl rfl (Nat.le_of_ble_eq_true rfl) rfl (c_X2_addFourBytes hc.c0.c0 eI6 (cpV ?_))
    refine r_aload (pc' := 56) dX8_append_54 0 rfl rfl ?_
    refine r_getI (pc' := 59) dX8_append_56 fa_X8_55 hc.c0.c0.o rfl rfl ?_
    cases h
    exact r_iret dX8_append_59 rfl (by decide) (by decide) hQ
  · have h := ifn h1 h
    refine r_iconst (pc' := 21) (v := -1) dX8_append_20 (by decide) rfl ?_
    cases h
    exact r_iret dX8_append_21 rfl (by decide) (by decide) hQ
set_option maxHeartbeats 4000000 in
theorem fr_X8_append {I : JI} {c : Nat} {L : Nat} {P : Nat} {x1 : Int32} {x2 : Int32} {x3 : Int32} {x4 : Int32} {x5 : Int32} {r : Int32} {J : JI} {z : Nat} (h : s_X8_append I c L P x1 x2 x3 x4 x5 = some (r, J)) (hzc : z < c ∨ c + 104 ≤ z) (hzL : z < L ∨ L + 24 ≤ z) (hzP : z < P ∨ P + 24 ≤ z) : J z = I z := by
  unfold s_X8_append at h
  rcases if_e h with h | h
  · obtain ⟨I2, e1, h⟩ := bd_e h
    obtain ⟨I3, e2, h⟩ := bd_e h
    obtain ⟨I4, e3, h⟩ := bd_e h
    obtain ⟨I5, e4, h⟩ := bd_e h
    obtain ⟨I6, e5, h⟩ := bd_e h
    cases h
    exact ((fr_X2_addFourBytes e5 (by omega)).trans ((fr_X2_addFourBytes e4 (by omega)).trans ((fr_X2_addFourBytes e3 (by omega)).trans ((fr_X2_addFourBytes e2 (by omega)).trans ((fr_X2_addFourBytes e1 (by omega)).trans rfl)))))
  · cases h
    exact rfl
noncomputable def s_X8_requireLoaded (I : JI) (c L P : Nat) : Option (((Unit) ⊕ String) × JI) :=
  gd ((I c 6) = 0 ∨ (I c 6) = 1) <| if (nz (I c 6)) = true then (some (.inl (), I)) else (some (.inr "java/lang/IllegalStateException", I))
set_option maxHeartbeats 4000000 in
theorem c_X8_requireLoaded {Ω : JO} {I : JI} {S : JS} {Q : JQ} {c : Nat} {L : Nat} {P : Nat} {r : (Unit) ⊕ String} {J : JI} (hc : Is8 S c L P) (hT : sT S = none) (h : s_X8_requireLoaded I c L P = some (r, J)) (hQ : Q (ttV r) J S) : Call Ω m_X8_requireLoaded [.ref c] I S Q := by
  refine call_of (by decide +kernel) rfl (Nat.le_of_ble_eq_true rfl) ?_
  change AA Ω m_X8_requireLoaded (FQ Ω m_X8_requireLoaded Q) 0 0 0 [(0, .ref c)] [] I S
  unfold s_X8_requireLoaded at h
  refine r_aload_n (pc' := 1) dX8_requireLoaded_0 rfl 0 rfl rfl ?_
  obtain ⟨g1, h⟩ := gd_e h
  refine r_getZ (pc' := 4) dX8_requireLoaded_1 fa_X8_47 hc.o rfl g1 rfl ?_
  refine r_if_ne (tgt := 18) (pc' := 7) dX8_requireLoaded_4 rfl rfl (fun h2 => ?_) (fun h2 => ?_)
  · have h := ifp (zb_p0 h2) h
    cases h
    exact r_ret dX8_requireLoaded_18 rfl (by decide) (by decide) hQ
  · have h := ifn (zb_n0 h2) h
    cases h
    exact r_throwW dX8_requireLoaded_7 dX8_requireLoaded_10 dX8_requireLoaded_11 dX8_requireLoaded_14 dX8_requireLoaded_17 th_X8_requireLoaded_7 rfl (by decide) (Nat.le_of_ble_eq_true rfl) (by decide) (by decide) hT hQ
set_option maxHeartbeats 4000000 in
theorem fr_X8_requireLoaded {I : JI} {c : Nat} {L : Nat} {P : Nat} {r : (Unit) ⊕ String} {J : JI} {z : Nat} (h : s_X8_requireLoaded I c L P = some (r, J)) (hzc : z < c ∨ c + 104 ≤ z) (hzL : z < L ∨ L + 24 ≤ z) (hzP : z < P ∨ P + 24 ≤ z) : J z = I z := by
  unfold s_X8_requireLoaded at h
  obtain ⟨g1, h⟩ := gd_e h
  rcases if_e h with h | h
  · cases h
    exact rfl
  · cases h
    exact rfl
noncomputable def s_X8_harnessCount (I : JI) (c L P : Nat) : Option (((Int32) ⊕ String) × JI) :=
  bx (s_X8_requireLoaded I c L P) fun v3 I1 => some (.inl (I1 L 0), I1)
set_option maxHeartbeats 4000000 in
theorem c_X8_harnessCount {Ω : JO} {I : JI} {S : JS} {Q : JQ} {c : Nat} {L : Nat} {P : Nat} {r : (Int32) ⊕ String} {J : JI} (hc : Is8 S c L P) (hT : sT S = none) (h : s_X8_harnessCount I c L P = some (r, J)) (hQ : Q (ttI r) J S) : Call Ω m_X8_harnessCount [.ref c] I S Q := by
  refine call_of (by decide +kernel) rfl (Nat.le_of_ble_eq_true rfl) ?_
  change AA Ω m_X8_harnessCount (FQ Ω m_X8_harnessCount Q) 0 0 0 [(0, .ref c)] [] I S
  unfold s_X8_harnessCount at h
  refine r_aload_n (pc' := 1) dX8_harnessCount_0 rfl 0 rfl rfl ?_
  obtain ⟨o2, I1, eo2, hx, h⟩ := bx_e h
  refine r_callV0 (pc' := 4) (k' := 1) (n' := 6) dX8_harnessCount_1 mb_X8_requireLoaded mi_X8_requireLoaded hc.o (by decide) rfl lk_X8_103 rfl rfl rfl (Nat.le_of_ble_eq_true rfl) rfl (c_X8_requireLoaded hc hT eo2 ?_)
  rcases o2 with v3 | v3
  rotate_left
  · have hx := hx v3 rfl
    cases hx
    exact cpX (ax_out rfl (by decide) (by decide) hQ)
  refine cpV ?_
  have h := h v3 rfl
  refine r_aload_n (pc' := 5) dX8_harnessCount_4 rfl 0 rfl rfl ?_
  refine r_getO (pc' := 8) dX8_harnessCount_5 fa_X8_43 hc.o rfl hc.r5 rfl ?_
  refine r_getI (pc' := 11) dX8_harnessCount_8 fa_X8_106 hc.c5.o rfl rfl ?_
  cases h
  exact r_iret dX8_harnessCount_11 rfl (by decide) (by decide) hQ
set_option maxHeartbeats 4000000 in
theorem fr_X8_harnessCount {I : JI} {c : Nat} {L : Nat} {P : Nat} {r : (Int32) ⊕ String} {J : JI} {z : Nat} (h : s_X8_harnessCount I c L P = some (r, J)) (hzc : z < c ∨ c + 104 ≤ z) (hzL : z < L ∨ L + 24 ≤ z) (hzP : z < P ∨ P + 24 ≤ z) : J z = I z := by
  unfold s_X8_harnessCount at h
  obtain ⟨o1, I1, e1, hx, h⟩ := bx_e h
  rcases o1 with y1 | y1
  rotate_left
  · have hx := hx _ rfl
    cases hx
    exact ((fr_X8_requireLoaded e1 (by omega) (by omega) (by omega)).trans rfl)
  have h := h _ rfl
  cases h
  exact ((fr_X8_requireLoaded e1 (by omega) (by omega) (by omega)).trans rfl)
noncomputable def s_X8_warpCount (I : JI) (c L P : Nat) : Option (((Int32) ⊕ String) × JI) :=
  bx (s_X8_requireLoaded I c L P) fun v3 I1 => some (.inl (I1 L 4), I1)
set_option maxHeartbeats 4000000 in
theorem c_X8_warpCount {Ω : JO} {I : JI} {S : JS} {Q : JQ} {c : Nat} {L : Nat} {P : Nat} {r : (Int32) ⊕ String} {J : JI} (hc : Is8 S c L P) (hT : sT S = none) (h : s_X8_warpCount I c L P = some (r, J)) (hQ : Q (ttI r) J S) : Call Ω m_X8_warpCount [.ref c] I S Q := by
  refine call_of (by decide +kernel) rfl (Nat.le_of_ble_eq_true rfl) ?_
  change AA Ω m_X8_warpCount (FQ Ω m_X8_warpCount Q) 0 0 0 [(0, .ref c)] [] I S
  unfold s_X8_warpCount at h
  refine r_aload_n (pc' := 1) dX8_warpCount_0 rfl 0 rfl rfl ?_
  obtain ⟨o2, I1, eo2, hx, h⟩ := bx_e h
  refine r_callV0 (pc' := 4) (k' := 1) (n' := 6) dX8_warpCount_1 mb_X8_requireLoaded mi_X8_requireLoaded hc.o (by decide) rfl lk_X8_103 rfl rfl rfl (Nat.le_of_ble_eq_true rfl) rfl (c_X8_requireLoaded hc hT eo2 ?_)
  rcases o2 with v3 | v3
  rotate_left
  · have hx := hx v3 rfl
    cases hx
    exact cpX (ax_out rfl (by decide) (by decide) hQ)
  refine cpV ?_
  have h := h v3 rfl
  refine r_aload_n (pc' := 5) dX8_warpCount_4 rfl 0 rfl rfl ?_
  refine r_getO (pc' := 8) dX8_warpCount_5 fa_X8_43 hc.o rfl hc.r5 rfl ?_
  refine r_getI (pc' := 11) dX8_warpCount_8 fa_X8_109 hc.c5.o rfl rfl ?_
  cases h
  exact r_iret dX8_warpCount_11 rfl (by decide) (by decide) hQ
set_option maxHeartbeats 4000000 in
theorem fr_X8_warpCount {I : JI} {c : Nat} {L : Nat} {P : Nat} {r : (Int32) ⊕ String} {J : JI} {z : Nat} (h : s_X8_warpCount I c L P = some (r, J)) (hzc : z < c ∨ c + 104 ≤ z) (hzL : z < L ∨ L + 24 ≤ z) (hzP : z < P ∨ P + 24 ≤ z) : J z = I z := by
  unfold s_X8_warpCount at h
  obtain ⟨o1, I1, e1, hx, h⟩ := bx_e h
  rcases o1 with y1 | y1
  rotate_left
  · have hx := hx _ rfl
    cases hx
    exact ((fr_X8_requireLoaded e1 (by omega) (by omega) (by omega)).trans rfl)
  have h := h _ rfl
  cases h
  exact ((fr_X8_requireLoaded e1 (by omega) (by omega) (by omega)).trans rfl)
noncomputable def s_X8_brokenCount (I : JI) (c L P : Nat) : Option (((Int32) ⊕ String) × JI) :=
  bx (s_X8_requireLoaded I c L P) fun v3 I1 => some (.inl (bcF (I1 (L + 10) 2)), I1)
set_option maxHeartbeats 4000000 in
theorem c_X8_brokenCount {Ω : JO} {I : JI} {S : JS} {Q : JQ} {c : Nat} {L : Nat} {P : Nat} {r : (Int32) ⊕ String} {J : JI} (hc : Is8 S c L P) (hT : sT S = none) (h : s_X8_brokenCount I c L P = some (r, J)) (hQ : Q (ttI r) J S) : Call Ω m_X8_brokenCount [.ref c] I S Q := by
  refine call_of (by decide +kernel) rfl (Nat.le_of_ble_eq_true rfl) ?_
  change AA Ω m_X8_brokenCount (FQ Ω m_X8_brokenCount Q) 0 0 0 [(0, .ref c)] [] I S
  unfold s_X8_brokenCount at h
  refine r_aload_n (pc' := 1) dX8_brokenCount_0 rfl 0 rfl rfl ?_
  obtain ⟨o2, I1, eo2, hx, h⟩ := bx_e h
  refine r_callV0 (pc' := 4) (k' := 1) (n' := 6) dX8_brokenCount_1 mb_X8_requireLoaded mi_X8_requireLoaded hc.o (by decide) rfl lk_X8_103 rfl rfl rfl (Nat.le_of_ble_eq_true rfl) rfl (c_X8_requireLoaded hc hT eo2 ?_)
  rcases o2 with v3 | v3
  rotate_left
  · have hx := hx v3 rfl
    cases hx
    exact cpX (ax_out rfl (by decide) (by decide) hQ)
  refine cpV ?_
  have h := h v3 rfl
  refine r_aload_n (pc' := 5) dX8_brokenCount_4 rfl 0 rfl rfl ?_
  refine r_getO (pc' := 8) dX8_brokenCount_5 fa_X8_43 hc.o rfl hc.r5 rfl ?_
  refine r_getO (pc' := 11) dX8_brokenCount_8 fa_X8_138 hc.c5.o rfl hc.c5.r11 rfl ?_
  refine r_getI (pc' := 14) dX8_brokenCount_11 fa_X8_142 hc.c5.c11.o rfl rfl ?_
  refine r_callS1 (pc' := 17) (k' := 1) (n' := 6) dX8_brokenCount_14 mb_J6_bitCount_0f7a4 ms_J6_bitCount_0f7a4 lk_X8_133 rfl rfl rfl (Nat.le_of_ble_eq_true rfl) rfl (c_J6_bitCount_0f7a4  (cpI ?_))
  cases h
  exact r_iret dX8_brokenCount_17 rfl (by decide) (by decide) hQ
set_option maxHeartbeats 4000000 in
theorem fr_X8_brokenCount {I : JI} {c : Nat} {L : Nat} {P : Nat} {r : (Int32) ⊕ String} {J : JI} {z : Nat} (h : s_X8_brokenCount I c L P = some (r, J)) (hzc : z < c ∨ c + 104 ≤ z) (hzL : z < L ∨ L + 24 ≤ z) (hzP : z < P ∨ P + 24 ≤ z) : J z = I z := by
  unfold s_X8_brokenCount at h
  obtain ⟨o1, I1, e1, hx, h⟩ := bx_e h
  rcases o1 with y1 | y1
  rotate_left
  · have hx := hx _ rfl
    cases hx
    exact ((fr_X8_requireLoaded e1 (by omega) (by omega) (by omega)).trans rfl)
  have h := h _ rfl
  cases h
  exact ((fr_X8_requireLoaded e1 (by omega) (by omega) (by omega)).trans rfl)
noncomputable def s_X8_requireIndex (I : JI) (x0 : Int32) (x1 : Int32) : Option (((Unit) ⊕ String) × JI) :=
  if x0 < 0 then (some (.inr "java/lang/IndexOutOfBoundsException", I)) else (if x0 < x1 then (some (.inl (), I)) else (some (.inr "java/lang/IndexOutOfBoundsException", I)))
set_option maxHeartbeats 4000000 in
theorem c_X8_requireIndex {Ω : JO} {I : JI} {S : JS} {Q : JQ} {x0 : Int32} {x1 : Int32} {r : (Unit) ⊕ String} {J : JI} (hT : sT S = none) (h : s_X8_requireIndex I x0 x1 = some (r, J)) (hQ : Q (ttV r) J S) : Call Ω m_X8_requireIndex [.int x0, .int x1] I S Q := by
  refine call_of (by decide +kernel) rfl (Nat.le_of_ble_eq_true rfl) ?_
  change AA Ω m_X8_requireIndex (FQ Ω m_X8_requireIndex Q) 0 0 0 [(0, .int x0), (1, .int x1)] [] I S
  unfold s_X8_requireIndex at h
  refine r_iload_n (pc' := 1) dX8_requireIndex_0 rfl 0 rfl rfl ?_
  refine r_if_lt (tgt := 9) (pc' := 4) dX8_requireIndex_1 rfl rfl (fun h1 => ?_) (fun h1 => ?_)
  · have h := ifp h1 h
    cases h
    exact r_throwW dX8_requireIndex_9 dX8_requireIndex_12 dX8_requireIndex_13 dX8_requireIndex_16 dX8_requireIndex_19 th_X8_requireIndex_9 rfl (by decide) (Nat.le_of_ble_eq_true rfl) (by decide) (by decide) hT hQ
  · have h := ifn h1 h
    refine r_iload_n (pc' := 5) dX8_requireIndex_4 rfl 0 rfl rfl ?_
    refine r_iload_n (pc' := 6) dX8_requireIndex_5 rfl 1 rfl rfl ?_
    refine r_icmp_lt (tgt := 20) (pc' := 9) dX8_requireIndex_6 rfl rfl (fun h2 => ?_) (fun h2 => ?_)
    · have h := ifp h2 h
      cases h
      exact r_ret dX8_requireIndex_20 rfl (by decide) (by decide) hQ
    · have h := ifn h2 h
      cases h
      exact r_throwW dX8_requireIndex_9 dX8_requireIndex_12 dX8_requireIndex_13 dX8_requireIndex_16 dX8_requireIndex_19 th_X8_requireIndex_9 rfl (by decide) (Nat.le_of_ble_eq_true rfl) (by decide) (by decide) hT hQ
set_option maxHeartbeats 4000000 in
theorem fr_X8_requireIndex {I : JI} {x0 : Int32} {x1 : Int32} {r : (Unit) ⊕ String} {J : JI} {z : Nat} (h : s_X8_requireIndex I x0 x1 = some (r, J)) : J z = I z := by
  unfold s_X8_requireIndex at h
  rcases if_e h with h | h
  · cases h
    exact rfl
  · rcases if_e h with h | h
    · cases h
      exact rfl
    · cases h
      exact rfl
noncomputable def s_X8_requireHarness (I : JI) (c L P : Nat) (x1 : Int32) : Option (((Unit) ⊕ String) × JI) :=
  bx (s_X8_requireLoaded I c L P) fun v3 I1 => bx (s_X8_requireIndex I1 x1 (I1 L 0)) fun v6 I4 => some (.inl (), I4)
set_option maxHeartbeats 4000000 in
theorem c_X8_requireHarness {Ω : JO} {I : JI} {S : JS} {Q : JQ} {c : Nat} {L : Nat} {P : Nat} {x1 : Int32} {r : (Unit) ⊕ String} {J : JI} (hc : Is8 S c L P) (hT : sT S = none) (h : s_X8_requireHarness I c L P x1 = some (r, J)) (hQ : Q (ttV r) J S) : Call Ω m_X8_requireHarness [.ref c, .int x1] I S Q := by
  refine call_of (by decide +kernel) rfl (Nat.le_of_ble_eq_true rfl) ?_
  change AA Ω m_X8_requireHarness (FQ Ω m_X8_requireHarness Q) 0 0 0 [(0, .ref c), (1, .int x1)] [] I S
  unfold s_X8_requireHarness at h
  refine r_aload_n (pc' := 1) dX8_requireHarness_0 rfl 0 rfl rfl ?_
  obtain ⟨o2, I1, eo2, hx, h⟩ := bx_e h
  refine r_callV0 (pc' := 4) (k' := 1) (n' := 6) dX8_requireHarness_1 mb_X8_requireLoaded mi_X8_requireLoaded hc.o (by decide) rfl lk_X8_103 rfl rfl rfl (Nat.le_of_ble_eq_true rfl) rfl (c_X8_requireLoaded hc hT eo2 ?_)
  rcases o2 with v3 | v3
  rotate_left
  · have hx := hx v3 rfl
    cases hx
    exact cpX (ax_out rfl (by decide) (by decide) hQ)
  refine cpV ?_
  have h := h v3 rfl
  refine r_iload_n (pc' := 5) dX8_requireHarness_4 rfl 1 rfl rfl ?_
  refine r_aload_n (pc' := 6) dX8_requireHarness_5 rfl 0 rfl rfl ?_
  refine r_getO (pc' := 9) dX8_requireHarness_6 fa_X8_43 hc.o rfl hc.r5 rfl ?_
  refine r_getI (pc' := 12) dX8_requireHarness_9 fa_X8_106 hc.c5.o rfl rfl ?_
  obtain ⟨o5, I4, eo5, hx, h⟩ := bx_e h
  refine r_callS2 (pc' := 15) (k' := 2) (n' := 12) dX8_requireHarness_12 mb_X8_requireIndex ms_X8_requireIndex lk_X8_175 rfl rfl rfl (Nat.le_of_ble_eq_true rfl) rfl (c_X8_requireIndex hT eo5 ?_)
  rcases o5 with v6 | v6
  rotate_left
  · have hx := hx v6 rfl
    cases hx
    exact cpX (ax_out rfl (by decide) (by decide) hQ)
  refine cpV ?_
  have h := h v6 rfl
  cases h
  exact r_ret dX8_requireHarness_15 rfl (by decide) (by decide) hQ
set_option maxHeartbeats 4000000 in
theorem fr_X8_requireHarness {I : JI} {c : Nat} {L : Nat} {P : Nat} {x1 : Int32} {r : (Unit) ⊕ String} {J : JI} {z : Nat} (h : s_X8_requireHarness I c L P x1 = some (r, J)) (hzc : z < c ∨ c + 104 ≤ z) (hzL : z < L ∨ L + 24 ≤ z) (hzP : z < P ∨ P + 24 ≤ z) : J z = I z := by
  unfold s_X8_requireHarness at h
  obtain ⟨o1, I1, e1, hx, h⟩ := bx_e h
  rcases o1 with y1 | y1
  rotate_left
  · have hx := hx _ rfl
    cases hx
    exact ((fr_X8_requireLoaded e1 (by omega) (by omega) (by omega)).trans rfl)
  have h := h _ rfl
  obtain ⟨o2, I4, e2, hx, h⟩ := bx_e h
  rcases o2 with y2 | y2
  rotate_left
  · have hx := hx _ rfl
    cases hx
    exact ((fr_X8_requireIndex e2 ).trans ((fr_X8_requireLoaded e1 (by omega) (by omega) (by omega)).trans rfl))
  have h := h _ rfl
  cases h
  exact ((fr_X8_requireIndex e2 ).trans ((fr_X8_requireLoaded e1 (by omega) (by omega) (by omega)).trans rfl))
noncomputable def s_X8_isLifted (I : JI) (c L P : Nat) (x1 : Int32) : Option (((Bool) ⊕ String) × JI) :=
  bx (s_X8_requireHarness I c L P x1) fun v3 I1 => some (.inl (hasB (I1 (L + 10) 0) x1), I1)
set_option maxHeartbeats 4000000 in
theorem c_X8_isLifted {Ω : JO} {I : JI} {S : JS} {Q : JQ} {c : Nat} {L : Nat} {P : Nat} {x1 : Int32} {r : (Bool) ⊕ String} {J : JI} (hc : Is8 S c L P) (hT : sT S = none) (h : s_X8_isLifted I c L P x1 = some (r, J)) (hQ : Q (ttZ r) J S) : Call Ω m_X8_isLifted [.ref c, .int x1] I S Q := by
  refine call_of (by decide +kernel) rfl (Nat.le_of_ble_eq_true rfl) ?_
  change AA Ω m_X8_isLifted (FQ Ω m_X8_isLifted Q) 0 0 0 [(0, .ref c), (1, .int x1)] [] I S
  unfold s_X8_isLifted at h
  refine r_aload_n (pc' := 1) dX8_isLifted_0 rfl 0 rfl rfl ?_
  refine r_iload_n (pc' := 2) dX8_isLifted_1 rfl 1 rfl rfl ?_
  obtain ⟨o2, I1, eo2, hx, h⟩ := bx_e h
  refine r_callV1 (pc' := 5) (k' := 2) (n' := 12) dX8_isLifted_2 mb_X8_requireHarness mi_X8_requireHarness hc.o (by decide) rfl lk_X8_126 rfl rfl rfl (Nat.le_of_ble_eq_true rfl) rfl (c_X8_requireHarness hc hT eo2 ?_)
  rcases o2 with v3 | v3
  rotate_left
  · have hx := hx v3 rfl
    cases hx
    exact cpX (ax_out rfl (by decide) (by decide) hQ)
  refine cpV ?_
  have h := h v3 rfl
  refine r_aload_n (pc' := 6) dX8_isLifted_5 rfl 0 rfl rfl ?_
  refine r_getO (pc' := 9) dX8_isLifted_6 fa_X8_43 hc.o rfl hc.r5 rfl ?_
  refine r_getO (pc' := 12) dX8_isLifted_9 fa_X8_138 hc.c5.o rfl hc.c5.r11 rfl ?_
  refine r_getI (pc' := 15) dX8_isLifted_12 fa_X8_151 hc.c5.c11.o rfl rfl ?_
  refine r_iload_n (pc' := 16) dX8_isLifted_15 rfl 1 rfl rfl ?_
  refine r_callS2 (pc' := 19) (k' := 2) (n' := 12) dX8_isLifted_16 mb_X8_has ms_X8_has lk_X8_147 rfl rfl rfl (Nat.le_of_ble_eq_true rfl) rfl (c_X8_has  (cpI ?_))
  cases h
  exact r_zret dX8_isLifted_19 rfl (zb01 _) (by decide) (by decide) hQ
set_option maxHeartbeats 4000000 in
theorem fr_X8_isLifted {I : JI} {c : Nat} {L : Nat} {P : Nat} {x1 : Int32} {r : (Bool) ⊕ String} {J : JI} {z : Nat} (h : s_X8_isLifted I c L P x1 = some (r, J)) (hzc : z < c ∨ c + 104 ≤ z) (hzL : z < L ∨ L + 24 ≤ z) (hzP : z < P ∨ P + 24 ≤ z) : J z = I z := by
  unfold s_X8_isLifted at h
  obtain ⟨o1, I1, e1, hx, h⟩ := bx_e h
  rcases o1 with y1 | y1
  rotate_left
  · have hx := hx _ rfl
    cases hx
    exact ((fr_X8_requireHarness e1 (by omega) (by omega) (by omega)).trans rfl)
  have h := h _ rfl
  cases h
  exact ((fr_X8_requireHarness e1 (by omega) (by omega) (by omega)).trans rfl)
noncomputable def s_X8_wear (I : JI) (c L P : Nat) (x1 : Int32) : Option (((Int32) ⊕ String) × JI) :=
  bx (s_X8_requireHarness I c L P x1) fun v3 I1 => some (.inl (atF (I1 ((L + 10) + 1)) 8 x1), I1)
set_option maxHeartbeats 4000000 in
theorem c_X8_wear {Ω : JO} {I : JI} {S : JS} {Q : JQ} {c : Nat} {L : Nat} {P : Nat} {x1 : Int32} {r : (Int32) ⊕ String} {J : JI} (hc : Is8 S c L P) (hT : sT S = none) (h : s_X8_wear I c L P x1 = some (r, J)) (hQ : Q (ttI r) J S) : Call Ω m_X8_wear [.ref c, .int x1] I S Q := by
  refine call_of (by decide +kernel) rfl (Nat.le_of_ble_eq_true rfl) ?_
  change AA Ω m_X8_wear (FQ Ω m_X8_wear Q) 0 0 0 [(0, .ref c), (1, .int x1)] [] I S
  unfold s_X8_wear at h
  refine r_aload_n (pc' := 1) dX8_wear_0 rfl 0 rfl rfl ?_
  refine r_iload_n (pc' := 2) dX8_wear_1 rfl 1 rfl rfl ?_
  obtain ⟨o2, I1, eo2, hx, h⟩ := bx_e h
  refine r_callV1 (pc' := 5) (k' := 2) (n' := 12) dX8_wear_2 mb_X8_requireHarness mi_X8_requireHarness hc.o (by decide) rfl lk_X8_126 rfl rfl rfl (Nat.le_of_ble_eq_true rfl) rfl (c_X8_requireHarness hc hT eo2 ?_)
  rcases o2 with v3 | v3
  rotate_left
  · have hx := hx v3 rfl
    cases hx
    exact cpX (ax_out rfl (by decide) (by decide) hQ)
  refine cpV ?_
  have h := h v3 rfl
  refine r_aload_n (pc' := 6) dX8_wear_5 rfl 0 rfl rfl ?_
  refine r_getO (pc' := 9) dX8_wear_6 fa_X8_43 hc.o rfl hc.r5 rfl ?_
  refine r_getO (pc' := 12) dX8_wear_9 fa_X8_138 hc.c5.o rfl hc.c5.r11 rfl ?_
  refine r_getO (pc' := 15) dX8_wear_12 fa_X8_154 hc.c5.c11.o rfl hc.c5.c11.r6 rfl ?_
  refine r_iload_n (pc' := 16) dX8_wear_15 rfl 1 rfl rfl ?_
  refine r_callS2 (pc' := 19) (k' := 2) (n' := 12) dX8_wear_16 mb_X8_at ms_X8_at lk_X8_119 rfl rfl rfl (Nat.le_of_ble_eq_true rfl) rfl (c_X8_at hc.c5.c11.c6 (by decide) (cpI ?_))
  cases h
  exact r_iret dX8_wear_19 rfl (by decide) (by decide) hQ
set_option maxHeartbeats 4000000 in
theorem fr_X8_wear {I : JI} {c : Nat} {L : Nat} {P : Nat} {x1 : Int32} {r : (Int32) ⊕ String} {J : JI} {z : Nat} (h : s_X8_wear I c L P x1 = some (r, J)) (hzc : z < c ∨ c + 104 ≤ z) (hzL : z < L ∨ L + 24 ≤ z) (hzP : z < P ∨ P + 24 ≤ z) : J z = I z := by
  unfold s_X8_wear at h
  obtain ⟨o1, I1, e1, hx, h⟩ := bx_e h
  rcases o1 with y1 | y1
  rotate_left
  · have hx := hx _ rfl
    cases hx
    exact ((fr_X8_requireHarness e1 (by omega) (by omega) (by omega)).trans rfl)
  have h := h _ rfl
  cases h
  exact ((fr_X8_requireHarness e1 (by omega) (by omega) (by omega)).trans rfl)
noncomputable def s_X8_isStuck (I : JI) (c L P : Nat) (x1 : Int32) : Option (((Bool) ⊕ String) × JI) :=
  bx (s_X8_requireHarness I c L P x1) fun v3 I1 => some (.inl (hasB (I1 (L + 10) 1) x1), I1)
set_option maxHeartbeats 4000000 in
theorem c_X8_isStuck {Ω : JO} {I : JI} {S : JS} {Q : JQ} {c : Nat} {L : Nat} {P : Nat} {x1 : Int32} {r : (Bool) ⊕ String} {J : JI} (hc : Is8 S c L P) (hT : sT S = none) (h : s_X8_isStuck I c L P x1 = some (r, J)) (hQ : Q (ttZ r) J S) : Call Ω m_X8_isStuck [.ref c, .int x1] I S Q := by
  refine call_of (by decide +kernel) rfl (Nat.le_of_ble_eq_true rfl) ?_
  change AA Ω m_X8_isStuck (FQ Ω m_X8_isStuck Q) 0 0 0 [(0, .ref c), (1, .int x1)] [] I S
  unfold s_X8_isStuck at h
  refine r_aload_n (pc' := 1) dX8_isStuck_0 rfl 0 rfl rfl ?_
  refine r_iload_n (pc' := 2) dX8_isStuck_1 rfl 1 rfl rfl ?_
  obtain ⟨o2, I1, eo2, hx, h⟩ := bx_e h
  refine r_callV1 (pc' := 5) (k' := 2) (n' := 12) dX8_isStuck_2 mb_X8_requireHarness mi_X8_requireHarness hc.o (by decide) rfl lk_X8_126 rfl rfl rfl (Nat.le_of_ble_eq_true rfl) rfl (c_X8_requireHarness hc hT eo2 ?_)
  rcases o2 with v3 | v3
  rotate_left
  · have hx := hx v3 rfl
    cases hx
    exact cpX (ax_out rfl (by decide) (by decide) hQ)
  refine cpV ?_
  have h := h v3 rfl
  refine r_aload_n (pc' := 6) dX8_isStuck_5 rfl 0 rfl rfl ?_
  refine r_getO (pc' := 9) dX8_isStuck_6 fa_X8_43 hc.o rfl hc.r5 rfl ?_
  refine r_getO (pc' := 12) dX8_isStuck_9 fa_X8_138 hc.c5.o rfl hc.c5.r11 rfl ?_
  refine r_getI (pc' := 15) dX8_isStuck_12 fa_X8_157 hc.c5.c11.o rfl rfl ?_
  refine r_iload_n (pc' := 16) dX8_isStuck_15 rfl 1 rfl rfl ?_
  refine r_callS2 (pc' := 19) (k' := 2) (n' := 12) dX8_isStuck_16 mb_X8_has ms_X8_has lk_X8_147 rfl rfl rfl (Nat.le_of_ble_eq_true rfl) rfl (c_X8_has  (cpI ?_))
  cases h
  exact r_zret dX8_isStuck_19 rfl (zb01 _) (by decide) (by decide) hQ
set_option maxHeartbeats 4000000 in
theorem fr_X8_isStuck {I : JI} {c : Nat} {L : Nat} {P : Nat} {x1 : Int32} {r : (Bool) ⊕ String} {J : JI} {z : Nat} (h : s_X8_isStuck I c L P x1 = some (r, J)) (hzc : z < c ∨ c + 104 ≤ z) (hzL : z < L ∨ L + 24 ≤ z) (hzP : z < P ∨ P + 24 ≤ z) : J z = I z := by
  unfold s_X8_isStuck at h
  obtain ⟨o1, I1, e1, hx, h⟩ := bx_e h
  rcases o1 with y1 | y1
  rotate_left
  · have hx := hx _ rfl
    cases hx
    exact ((fr_X8_requireHarness e1 (by omega) (by omega) (by omega)).trans rfl)
  have h := h _ rfl
  cases h
  exact ((fr_X8_requireHarness e1 (by omega) (by omega) (by omega)).trans rfl)
noncomputable def s_X8_cardCount (I : JI) (c L P : Nat) : Option (((Int32) ⊕ String) × JI) :=
  bx (s_X8_requireLoaded I c L P) fun v3 I1 => some (.inl (I1 L 7), I1)
set_option maxHeartbeats 4000000 in
theorem c_X8_cardCount {Ω : JO} {I : JI} {S : JS} {Q : JQ} {c : Nat} {L : Nat} {P : Nat} {r : (Int32) ⊕ String} {J : JI} (hc : Is8 S c L P) (hT : sT S = none) (h : s_X8_cardCount I c L P = some (r, J)) (hQ : Q (ttI r) J S) : Call Ω m_X8_cardCount [.ref c] I S Q := by
  refine call_of (by decide +kernel) rfl (Nat.le_of_ble_eq_true rfl) ?_
  change AA Ω m_X8_cardCount (FQ Ω m_X8_cardCount Q) 0 0 0 [(0, .ref c)] [] I S
  unfold s_X8_cardCount at h
  refine r_aload_n (pc' := 1) dX8_cardCount_0 rfl 0 rfl rfl ?_
  obtain ⟨o2, I1, eo2, hx, h⟩ := bx_e h
  refine r_callV0 (pc' := 4) (k' := 1) (n' := 6) dX8_cardCount_1 mb_X8_requireLoaded mi_X8_requireLoaded hc.o (by decide) rfl lk_X8_103 rfl rfl rfl (Nat.le_of_ble_eq_true rfl) rfl (c_X8_requireLoaded hc hT eo2 ?_)
  rcases o2 with v3 | v3
  rotate_left
  · have hx := hx v3 rfl
    cases hx
    exact cpX (ax_out rfl (by decide) (by decide) hQ)
  refine cpV ?_
  have h := h v3 rfl
  refine r_aload_n (pc' := 5) dX8_cardCount_4 rfl 0 rfl rfl ?_
  refine r_getO (pc' := 8) dX8_cardCount_5 fa_X8_43 hc.o rfl hc.r5 rfl ?_
  refine r_getI (pc' := 11) dX8_cardCount_8 fa_X8_160 hc.c5.o rfl rfl ?_
  cases h
  exact r_iret dX8_cardCount_11 rfl (by decide) (by decide) hQ
set_option maxHeartbeats 4000000 in
theorem fr_X8_cardCount {I : JI} {c : Nat} {L : Nat} {P : Nat} {r : (Int32) ⊕ String} {J : JI} {z : Nat} (h : s_X8_cardCount I c L P = some (r, J)) (hzc : z < c ∨ c + 104 ≤ z) (hzL : z < L ∨ L + 24 ≤ z) (hzP : z < P ∨ P + 24 ≤ z) : J z = I z := by
  unfold s_X8_cardCount at h
  obtain ⟨o1, I1, e1, hx, h⟩ := bx_e h
  rcases o1 with y1 | y1
  rotate_left
  · have hx := hx _ rfl
    cases hx
    exact ((fr_X8_requireLoaded e1 (by omega) (by omega) (by omega)).trans rfl)
  have h := h _ rfl
  cases h
  exact ((fr_X8_requireLoaded e1 (by omega) (by omega) (by omega)).trans rfl)
noncomputable def s_X8_requireCard (I : JI) (c L P : Nat) (x1 : Int32) : Option (((Unit) ⊕ String) × JI) :=
  bx (s_X8_requireLoaded I c L P) fun v3 I1 => bx (s_X8_requireIndex I1 x1 (I1 L 7)) fun v6 I4 => some (.inl (), I4)
set_option maxHeartbeats 4000000 in
theorem c_X8_requireCard {Ω : JO} {I : JI} {S : JS} {Q : JQ} {c : Nat} {L : Nat} {P : Nat} {x1 : Int32} {r : (Unit) ⊕ String} {J : JI} (hc : Is8 S c L P) (hT : sT S = none) (h : s_X8_requireCard I c L P x1 = some (r, J)) (hQ : Q (ttV r) J S) : Call Ω m_X8_requireCard [.ref c, .int x1] I S Q := by
  refine call_of (by decide +kernel) rfl (Nat.le_of_ble_eq_true rfl) ?_
  change AA Ω m_X8_requireCard (FQ Ω m_X8_requireCard Q) 0 0 0 [(0, .ref c), (1, .int x1)] [] I S
  unfold s_X8_requireCard at h
  refine r_aload_n (pc' := 1) dX8_requireCard_0 rfl 0 rfl rfl ?_
  obtain ⟨o2, I1, eo2, hx, h⟩ := bx_e h
  refine r_callV0 (pc' := 4) (k' := 1) (n' := 6) dX8_requireCard_1 mb_X8_requireLoaded mi_X8_requireLoaded hc.o (by decide) rfl lk_X8_103 rfl rfl rfl (Nat.le_of_ble_eq_true rfl) rfl (c_X8_requireLoaded hc hT eo2 ?_)
  rcases o2 with v3 | v3
  rotate_left
  · have hx := hx v3 rfl
    cases hx
    exact cpX (ax_out rfl (by decide) (by decide) hQ)
  refine cpV ?_
  have h := h v3 rfl
  refine r_iload_n (pc' := 5) dX8_requireCard_4 rfl 1 rfl rfl ?_
  refine r_aload_n (pc' := 6) dX8_requireCard_5 rfl 0 rfl rfl ?_
  refine r_getO (pc' := 9) dX8_requireCard_6 fa_X8_43 hc.o rfl hc.r5 rfl ?_
  refine r_getI (pc' := 12) dX8_requireCard_9 fa_X8_160 hc.c5.o rfl rfl ?_
  obtain ⟨o5, I4, eo5, hx, h⟩ := bx_e h
  refine r_callS2 (pc' := 15) (k' := 2) (n' := 12) dX8_requireCard_12 mb_X8_requireIndex ms_X8_requireIndex lk_X8_175 rfl rfl rfl (Nat.le_of_ble_eq_true rfl) rfl (c_X8_requireIndex hT eo5 ?_)
  rcases o5 with v6 | v6
  rotate_left
  · have hx := hx v6 rfl
    cases hx
    exact cpX (ax_out rfl (by decide) (by decide) hQ)
  refine cpV ?_
  have h := h v6 rfl
  cases h
  exact r_ret dX8_requireCard_15 rfl (by decide) (by decide) hQ
set_option maxHeartbeats 4000000 in
theorem fr_X8_requireCard {I : JI} {c : Nat} {L : Nat} {P : Nat} {x1 : Int32} {r : (Unit) ⊕ String} {J : JI} {z : Nat} (h : s_X8_requireCard I c L P x1 = some (r, J)) (hzc : z < c ∨ c + 104 ≤ z) (hzL : z < L ∨ L + 24 ≤ z) (hzP : z < P ∨ P + 24 ≤ z) : J z = I z := by
  unfold s_X8_requireCard at h
  obtain ⟨o1, I1, e1, hx, h⟩ := bx_e h
  rcases o1 with y1 | y1
  rotate_left
  · have hx := hx _ rfl
    cases hx
    exact ((fr_X8_requireLoaded e1 (by omega) (by omega) (by omega)).trans rfl)
  have h := h _ rfl
  obtain ⟨o2, I4, e2, hx, h⟩ := bx_e h
  rcases o2 with y2 | y2
  rotate_left
  · have hx := hx _ rfl
    cases hx
    exact ((fr_X8_requireIndex e2 ).trans ((fr_X8_requireLoaded e1 (by omega) (by omega) (by omega)).trans rfl))
  have h := h _ rfl
  cases h
  exact ((fr_X8_requireIndex e2 ).trans ((fr_X8_requireLoaded e1 (by omega) (by omega) (by omega)).trans rfl))
noncomputable def s_X8_lifts (I : JI) (c L P : Nat) (x1 : Int32) (x2 : Int32) : Option (((Bool) ⊕ String) × JI) :=
  bx (s_X8_requireCard I c L P x1) fun v3 I1 => bx (s_X8_requireHarness I1 c L P x2) fun v6 I4 => some (.inl (hasB (atF (I4 ((L + 10) + 3)) 12 x1) x2), I4)
set_option maxHeartbeats 4000000 in
theorem c_X8_lifts {Ω : JO} {I : JI} {S : JS} {Q : JQ} {c : Nat} {L : Nat} {P : Nat} {x1 : Int32} {x2 : Int32} {r : (Bool) ⊕ String} {J : JI} (hc : Is8 S c L P) (hT : sT S = none) (h : s_X8_lifts I c L P x1 x2 = some (r, J)) (hQ : Q (ttZ r) J S) : Call Ω m_X8_lifts [.ref c, .int x1, .int x2] I S Q := by
  refine call_of (by decide +kernel) rfl (Nat.le_of_ble_eq_true rfl) ?_
  change AA Ω m_X8_lifts (FQ Ω m_X8_lifts Q) 0 0 0 [(0, .ref c), (1, .int x1), (2, .int x2)] [] I S
  unfold s_X8_lifts at h
  refine r_aload_n (pc' := 1) dX8_lifts_0 rfl 0 rfl rfl ?_
  refine r_iload_n (pc' := 2) dX8_lifts_1 rfl 1 rfl rfl ?_
  obtain ⟨o2, I1, eo2, hx, h⟩ := bx_e h
  refine r_callV1 (pc' := 5) (k' := 2) (n' := 12) dX8_lifts_2 mb_X8_requireCard mi_X8_requireCard hc.o (by decide) rfl lk_X8_163 rfl rfl rfl (Nat.le_of_ble_eq_true rfl) rfl (c_X8_requireCard hc hT eo2 ?_)
  rcases o2 with v3 | v3
  rotate_left
  · have hx := hx v3 rfl
    cases hx
    exact cpX (ax_out rfl (by decide) (by decide) hQ)
  refine cpV ?_
  have h := h v3 rfl
  refine r_aload_n (pc' := 6) dX8_lifts_5 rfl 0 rfl rfl ?_
  refine r_iload_n (pc' := 7) dX8_lifts_6 rfl 2 rfl rfl ?_
  obtain ⟨o5, I4, eo5, hx, h⟩ := bx_e h
  refine r_callV1 (pc' := 10) (k' := 4) (n' := 24) dX8_lifts_7 mb_X8_requireHarness mi_X8_requireHarness hc.o (by decide) rfl lk_X8_126 rfl rfl rfl (Nat.le_of_ble_eq_true rfl) rfl (c_X8_requireHarness hc hT eo5 ?_)
  rcases o5 with v6 | v6
  rotate_left
  · have hx := hx v6 rfl
    cases hx
    exact cpX (ax_out rfl (by decide) (by decide) hQ)
  refine cpV ?_
  have h := h v6 rfl
  refine r_aload_n (pc' := 11) dX8_lifts_10 rfl 0 rfl rfl ?_
  refine r_getO (pc' := 14) dX8_lifts_11 fa_X8_43 hc.o rfl hc.r5 rfl ?_
  refine r_getO (pc' := 17) dX8_lifts_14 fa_X8_138 hc.c5.o rfl hc.c5.r11 rfl ?_
  refine r_getO (pc' := 20) dX8_lifts_17 fa_X8_166 hc.c5.c11.o rfl hc.c5.c11.r8 rfl ?_
  refine r_iload_n (pc' := 21) dX8_lifts_20 rfl 1 rfl rfl ?_
  refine r_callS2 (pc' := 24) (k' := 4) (n' := 24) dX8_lifts_21 mb_X8_at ms_X8_at lk_X8_119 rfl rfl rfl (Nat.le_of_ble_eq_true rfl) rfl (c_X8_at hc.c5.c11.c8 (by decide) (cpI ?_))
  refine r_iload_n (pc' := 25) dX8_lifts_24 rfl 2 rfl rfl ?_
  refine r_callS2 (pc' := 28) (k' := 4) (n' := 24) dX8_lifts_25 mb_X8_has ms_X8_has lk_X8_147 rfl rfl rfl (Nat.le_of_ble_eq_true rfl) rfl (c_X8_has  (cpI ?_))
  cases h
  exact r_zret dX8_lifts_28 rfl (zb01 _) (by decide) (by decide) hQ
set_option maxHeartbeats 4000000 in
theorem fr_X8_lifts {I : JI} {c : Nat} {L : Nat} {P : Nat} {x1 : Int32} {x2 : Int32} {r : (Bool) ⊕ String} {J : JI} {z : Nat} (h : s_X8_lifts I c L P x1 x2 = some (r, J)) (hzc : z < c ∨ c + 104 ≤ z) (hzL : z < L ∨ L + 24 ≤ z) (hzP : z < P ∨ P + 24 ≤ z) : J z = I z := by
  unfold s_X8_lifts at h
  obtain ⟨o1, I1, e1, hx, h⟩ := bx_e h
  rcases o1 with y1 | y1
  rotate_left
  · have hx := hx _ rfl
    cases hx
    exact ((fr_X8_requireCard e1 (by omega) (by omega) (by omega)).trans rfl)
  have h := h _ rfl
  obtain ⟨o2, I4, e2, hx, h⟩ := bx_e h
  rcases o2 with y2 | y2
  rotate_left
  · have hx := hx _ rfl
    cases hx
    exact ((fr_X8_requireHarness e2 (by omega) (by omega) (by omega)).trans ((fr_X8_requireCard e1 (by omega) (by omega) (by omega)).trans rfl))
  have h := h _ rfl
  cases h
  exact ((fr_X8_requireHarness e2 (by omega) (by omega) (by omega)).trans ((fr_X8_requireCard e1 (by omega) (by omega) (by omega)).trans rfl))
noncomputable def s_X8_cardColour (I : JI) (c L P : Nat) (x1 : Int32) : Option (((Int32) ⊕ String) × JI) :=
  bx (s_X8_requireCard I c L P x1) fun v3 I1 => some (.inl (atF (I1 ((L + 10) + 4)) 12 x1), I1)
set_option maxHeartbeats 4000000 in
theorem c_X8_cardColour {Ω : JO} {I : JI} {S : JS} {Q : JQ} {c : Nat} {L : Nat} {P : Nat} {x1 : Int32} {r : (Int32) ⊕ String} {J : JI} (hc : Is8 S c L P) (hT : sT S = none) (h : s_X8_cardColour I c L P x1 = some (r, J)) (hQ : Q (ttI r) J S) : Call Ω m_X8_cardColour [.ref c, .int x1] I S Q := by
  refine call_of (by decide +kernel) rfl (Nat.le_of_ble_eq_true rfl) ?_
  change AA Ω m_X8_cardColour (FQ Ω m_X8_cardColour Q) 0 0 0 [(0, .ref c), (1, .int x1)] [] I S
  unfold s_X8_cardColour at h
  refine r_aload_n (pc' := 1) dX8_cardColour_0 rfl 0 rfl rfl ?_
  refine r_iload_n (pc' := 2) dX8_cardColour_1 rfl 1 rfl rfl ?_
  obtain ⟨o2, I1, eo2, hx, h⟩ := bx_e h
  refine r_callV1 (pc' := 5) (k' := 2) (n' := 12) dX8_cardColour_2 mb_X8_requireCard mi_X8_requireCard hc.o (by decide) rfl lk_X8_163 rfl rfl rfl (Nat.le_of_ble_eq_true rfl) rfl (c_X8_requireCard hc hT eo2 ?_)
  rcases o2 with v3 | v3
  rotate_left
  · have hx := hx v3 rfl
    cases hx
    exact cpX (ax_out rfl (by decide) (by decide) hQ)
  refine cpV ?_
  have h := h v3 rfl
  refine r_aload_n (pc' := 6) dX8_cardColour_5 rfl 0 rfl rfl ?_
  refine r_getO (pc' := 9) dX8_cardColour_6 fa_X8_43 hc.o rfl hc.r5 rfl ?_
  refine r_getO (pc' := 12) dX8_cardColour_9 fa_X8_138 hc.c5.o rfl hc.c5.r11 rfl ?_
  refine r_getO (pc' := 15) dX8_cardColour_12 fa_X8_169 hc.c5.c11.o rfl hc.c5.c11.r9 rfl ?_
  refine r_iload_n (pc' := 16) dX8_cardColour_15 rfl 1 rfl rfl ?_
  refine r_callS2 (pc' := 19) (k' := 2) (n' := 12) dX8_cardColour_16 mb_X8_at ms_X8_at lk_X8_119 rfl rfl rfl (Nat.le_of_ble_eq_true rfl) rfl (c_X8_at hc.c5.c11.c9 (by decide) (cpI ?_))
  cases h
  exact r_iret dX8_cardColour_19 rfl (by decide) (by decide) hQ
set_option maxHeartbeats 4000000 in
theorem fr_X8_cardColour {I : JI} {c : Nat} {L : Nat} {P : Nat} {x1 : Int32} {r : (Int32) ⊕ String} {J : JI} {z : Nat} (h : s_X8_cardColour I c L P x1 = some (r, J)) (hzc : z < c ∨ c + 104 ≤ z) (hzL : z < L ∨ L + 24 ≤ z) (hzP : z < P ∨ P + 24 ≤ z) : J z = I z := by
  unfold s_X8_cardColour at h
  obtain ⟨o1, I1, e1, hx, h⟩ := bx_e h
  rcases o1 with y1 | y1
  rotate_left
  · have hx := hx _ rfl
    cases hx
    exact ((fr_X8_requireCard e1 (by omega) (by omega) (by omega)).trans rfl)
  have h := h _ rfl
  cases h
  exact ((fr_X8_requireCard e1 (by omega) (by omega) (by omega)).trans rfl)
noncomputable def s_X8_liftedWarps (I : JI) (c L P : Nat) (x1 : Int32) : Option (((Int32) ⊕ String) × JI) :=
  bx (s_X8_requireCard I c L P x1) fun v3 I1 => some (.inl (bcF (x3_mask I1 L (atF (I1 ((L + 10) + 3)) 12 x1))), I1)
set_option maxHeartbeats 4000000 in
theorem c_X8_liftedWarps {Ω : JO} {I : JI} {S : JS} {Q : JQ} {c : Nat} {L : Nat} {P : Nat} {x1 : Int32} {r : (Int32) ⊕ String} {J : JI} (hc : Is8 S c L P) (hT : sT S = none) (h : s_X8_liftedWarps I c L P x1 = some (r, J)) (hQ : Q (ttI r) J S) : Call Ω m_X8_liftedWarps [.ref c, .int x1] I S Q := by
  refine call_of (by decide +kernel) rfl (Nat.le_of_ble_eq_true rfl) ?_
  change AA Ω m_X8_liftedWarps (FQ Ω m_X8_liftedWarps Q) 0 0 0 [(0, .ref c), (1, .int x1)] [] I S
  unfold s_X8_liftedWarps at h
  refine r_aload_n (pc' := 1) dX8_liftedWarps_0 rfl 0 rfl rfl ?_
  refine r_iload_n (pc' := 2) dX8_liftedWarps_1 rfl 1 rfl rfl ?_
  obtain ⟨o2, I1, eo2, hx, h⟩ := bx_e h
  refine r_callV1 (pc' := 5) (k' := 2) (n' := 12) dX8_liftedWarps_2 mb_X8_requireCard mi_X8_requireCard hc.o (by decide) rfl lk_X8_163 rfl rfl rfl (Nat.le_of_ble_eq_true rfl) rfl (c_X8_requireCard hc hT eo2 ?_)
  rcases o2 with v3 | v3
  rotate_left
  · have hx := hx v3 rfl
    cases hx
    exact cpX (ax_out rfl (by decide) (by decide) hQ)
  refine cpV ?_
  have h := h v3 rfl
  refine r_aload_n (pc' := 6) dX8_liftedWarps_5 rfl 0 rfl rfl ?_
  refine r_getO (pc' := 9) dX8_liftedWarps_6 fa_X8_43 hc.o rfl hc.r5 rfl ?_
  refine r_aload_n (pc' := 10) dX8_liftedWarps_9 rfl 0 rfl rfl ?_
  refine r_getO (pc' := 13) dX8_liftedWarps_10 fa_X8_43 hc.o rfl hc.r5 rfl ?_
  refine r_getO (pc' := 16) dX8_liftedWarps_13 fa_X8_138 hc.c5.o rfl hc.c5.r11 rfl ?_
  refine r_getO (pc' := 19) dX8_liftedWarps_16 fa_X8_166 hc.c5.c11.o rfl hc.c5.c11.r8 rfl ?_
  refine r_iload_n (pc' := 20) dX8_liftedWarps_19 rfl 1 rfl rfl ?_
  refine r_callS2 (pc' := 23) (k' := 2) (n' := 12) dX8_liftedWarps_20 mb_X8_at ms_X8_at lk_X8_119 rfl rfl rfl (Nat.le_of_ble_eq_true rfl) rfl (c_X8_at hc.c5.c11.c8 (by decide) (cpI ?_))
  refine r_callV1 (pc' := 26) (k' := 2) (n' := 12) dX8_liftedWarps_23 mb_X3_warpsOfHarnesses mi_X3_warpsOfHarnesses hc.c5.o (by decide) rfl lk_X8_129 rfl rfl rfl (Nat.le_of_ble_eq_true rfl) rfl (c_X3_warpsOfHarnesses hc.c5 (cpI ?_))
  refine r_callS1 (pc' := 29) (k' := 2) (n' := 12) dX8_liftedWarps_26 mb_J6_bitCount_0f7a4 ms_J6_bitCount_0f7a4 lk_X8_133 rfl rfl rfl (Nat.le_of_ble_eq_true rfl) rfl (c_J6_bitCount_0f7a4  (cpI ?_))
  cases h
  exact r_iret dX8_liftedWarps_29 rfl (by decide) (by decide) hQ
set_option maxHeartbeats 4000000 in
theorem fr_X8_liftedWarps {I : JI} {c : Nat} {L : Nat} {P : Nat} {x1 : Int32} {r : (Int32) ⊕ String} {J : JI} {z : Nat} (h : s_X8_liftedWarps I c L P x1 = some (r, J)) (hzc : z < c ∨ c + 104 ≤ z) (hzL : z < L ∨ L + 24 ≤ z) (hzP : z < P ∨ P + 24 ≤ z) : J z = I z := by
  unfold s_X8_liftedWarps at h
  obtain ⟨o1, I1, e1, hx, h⟩ := bx_e h
  rcases o1 with y1 | y1
  rotate_left
  · have hx := hx _ rfl
    cases hx
    exact ((fr_X8_requireCard e1 (by omega) (by omega) (by omega)).trans rfl)
  have h := h _ rfl
  cases h
  exact ((fr_X8_requireCard e1 (by omega) (by omega) (by omega)).trans rfl)
noncomputable def s_X8_cardUses (I : JI) (c L P : Nat) (x1 : Int32) : Option (((Int32) ⊕ String) × JI) :=
  bx (s_X8_requireCard I c L P x1) fun v3 I1 => some (.inl (cpF (I1 ((L + 5) + 2)) x1 (I1 (L + 5) 3).toNatClampNeg), I1)
set_option maxHeartbeats 4000000 in
theorem c_X8_cardUses {Ω : JO} {I : JI} {S : JS} {Q : JQ} {c : Nat} {L : Nat} {P : Nat} {x1 : Int32} {r : (Int32) ⊕ String} {J : JI} (hc : Is8 S c L P) (hT : sT S = none) (h : s_X8_cardUses I c L P x1 = some (r, J)) (hQ : Q (ttI r) J S) : Call Ω m_X8_cardUses [.ref c, .int x1] I S Q := by
  refine call_of (by decide +kernel) rfl (Nat.le_of_ble_eq_true rfl) ?_
  change AA Ω m_X8_cardUses (FQ Ω m_X8_cardUses Q) 0 0 0 [(0, .ref c), (1, .int x1)] [] I S
  unfold s_X8_cardUses at h
  refine r_aload_n (pc' := 1) dX8_cardUses_0 rfl 0 rfl rfl ?_
  refine r_iload_n (pc' := 2) dX8_cardUses_1 rfl 1 rfl rfl ?_
  obtain ⟨o2, I1, eo2, hx, h⟩ := bx_e h
  refine r_callV1 (pc' := 5) (k' := 2) (n' := 12) dX8_cardUses_2 mb_X8_requireCard mi_X8_requireCard hc.o (by decide) rfl lk_X8_163 rfl rfl rfl (Nat.le_of_ble_eq_true rfl) rfl (c_X8_requireCard hc hT eo2 ?_)
  rcases o2 with v3 | v3
  rotate_left
  · have hx := hx v3 rfl
    cases hx
    exact cpX (ax_out rfl (by decide) (by decide) hQ)
  refine cpV ?_
  have h := h v3 rfl
  refine r_aload_n (pc' := 6) dX8_cardUses_5 rfl 0 rfl rfl ?_
  refine r_getO (pc' := 9) dX8_cardUses_6 fa_X8_43 hc.o rfl hc.r5 rfl ?_
  refine r_getO (pc' := 12) dX8_cardUses_9 fa_X8_88 hc.c5.o rfl hc.c5.r10 rfl ?_
  refine r_iload_n (pc' := 13) dX8_cardUses_12 rfl 1 rfl rfl ?_
  refine r_callV1 (pc' := 16) (k' := 2) (n' := 12) dX8_cardUses_13 mb_X0_countPicks mi_X0_countPicks hc.c5.c10.o (by decide) rfl lk_X8_182 rfl rfl rfl (Nat.le_of_ble_eq_true rfl) rfl (c_X0_countPicks hc.c5.c10 (cpI ?_))
  cases h
  exact r_iret dX8_cardUses_16 rfl (by decide) (by decide) hQ
set_option maxHeartbeats 4000000 in
theorem fr_X8_cardUses {I : JI} {c : Nat} {L : Nat} {P : Nat} {x1 : Int32} {r : (Int32) ⊕ String} {J : JI} {z : Nat} (h : s_X8_cardUses I c L P x1 = some (r, J)) (hzc : z < c ∨ c + 104 ≤ z) (hzL : z < L ∨ L + 24 ≤ z) (hzP : z < P ∨ P + 24 ≤ z) : J z = I z := by
  unfold s_X8_cardUses at h
  obtain ⟨o1, I1, e1, hx, h⟩ := bx_e h
  rcases o1 with y1 | y1
  rotate_left
  · have hx := hx _ rfl
    cases hx
    exact ((fr_X8_requireCard e1 (by omega) (by omega) (by omega)).trans rfl)
  have h := h _ rfl
  cases h
  exact ((fr_X8_requireCard e1 (by omega) (by omega) (by omega)).trans rfl)
noncomputable def s_X8_rowCount (I : JI) (c L P : Nat) : Option (((Int32) ⊕ String) × JI) :=
  bx (s_X8_requireLoaded I c L P) fun v3 I1 => some (.inl (I1 (L + 10) 3), I1)
set_option maxHeartbeats 4000000 in
theorem c_X8_rowCount {Ω : JO} {I : JI} {S : JS} {Q : JQ} {c : Nat} {L : Nat} {P : Nat} {r : (Int32) ⊕ String} {J : JI} (hc : Is8 S c L P) (hT : sT S = none) (h : s_X8_rowCount I c L P = some (r, J)) (hQ : Q (ttI r) J S) : Call Ω m_X8_rowCount [.ref c] I S Q := by
  refine call_of (by decide +kernel) rfl (Nat.le_of_ble_eq_true rfl) ?_
  change AA Ω m_X8_rowCount (FQ Ω m_X8_rowCount Q) 0 0 0 [(0, .ref c)] [] I S
  unfold s_X8_rowCount at h
  refine r_aload_n (pc' := 1) dX8_rowCount_0 rfl 0 rfl rfl ?_
  obtain ⟨o2, I1, eo2, hx, h⟩ := bx_e h
  refine r_callV0 (pc' := 4) (k' := 1) (n' := 6) dX8_rowCount_1 mb_X8_requireLoaded mi_X8_requireLoaded hc.o (by decide) rfl lk_X8_103 rfl rfl rfl (Nat.le_of_ble_eq_true rfl) rfl (c_X8_requireLoaded hc hT eo2 ?_)
  rcases o2 with v3 | v3
  rotate_left
  · have hx := hx v3 rfl
    cases hx
    exact cpX (ax_out rfl (by decide) (by decide) hQ)
  refine cpV ?_
  have h := h v3 rfl
  refine r_aload_n (pc' := 5) dX8_rowCount_4 rfl 0 rfl rfl ?_
  refine r_getO (pc' := 8) dX8_rowCount_5 fa_X8_43 hc.o rfl hc.r5 rfl ?_
  refine r_getO (pc' := 11) dX8_rowCount_8 fa_X8_138 hc.c5.o rfl hc.c5.r11 rfl ?_
  refine r_getI (pc' := 14) dX8_rowCount_11 fa_X8_196 hc.c5.c11.o rfl rfl ?_
  cases h
  exact r_iret dX8_rowCount_14 rfl (by decide) (by decide) hQ
set_option maxHeartbeats 4000000 in
theorem fr_X8_rowCount {I : JI} {c : Nat} {L : Nat} {P : Nat} {r : (Int32) ⊕ String} {J : JI} {z : Nat} (h : s_X8_rowCount I c L P = some (r, J)) (hzc : z < c ∨ c + 104 ≤ z) (hzL : z < L ∨ L + 24 ≤ z) (hzP : z < P ∨ P + 24 ≤ z) : J z = I z := by
  unfold s_X8_rowCount at h
  obtain ⟨o1, I1, e1, hx, h⟩ := bx_e h
  rcases o1 with y1 | y1
  rotate_left
  · have hx := hx _ rfl
    cases hx
    exact ((fr_X8_requireLoaded e1 (by omega) (by omega) (by omega)).trans rfl)
  have h := h _ rfl
  cases h
  exact ((fr_X8_requireLoaded e1 (by omega) (by omega) (by omega)).trans rfl)
noncomputable def s_X8_requireRow (I : JI) (c L P : Nat) (x1 : Int32) : Option (((Unit) ⊕ String) × JI) :=
  bx (s_X8_requireLoaded I c L P) fun v3 I1 => bx (s_X8_requireIndex I1 x1 (I1 (L + 10) 3)) fun v6 I4 => some (.inl (), I4)
set_option maxHeartbeats 4000000 in
theorem c_X8_requireRow {Ω : JO} {I : JI} {S : JS} {Q : JQ} {c : Nat} {L : Nat} {P : Nat} {x1 : Int32} {r : (Unit) ⊕ String} {J : JI} (hc : Is8 S c L P) (hT : sT S = none) (h : s_X8_requireRow I c L P x1 = some (r, J)) (hQ : Q (ttV r) J S) : Call Ω m_X8_requireRow [.ref c, .int x1] I S Q := by
  refine call_of (by decide +kernel) rfl (Nat.le_of_ble_eq_true rfl) ?_
  change AA Ω m_X8_requireRow (FQ Ω m_X8_requireRow Q) 0 0 0 [(0, .ref c), (1, .int x1)] [] I S
  unfold s_X8_requireRow at h
  refine r_aload_n (pc' := 1) dX8_requireRow_0 rfl 0 rfl rfl ?_
  obtain ⟨o2, I1, eo2, hx, h⟩ := bx_e h
  refine r_callV0 (pc' := 4) (k' := 1) (n' := 6) dX8_requireRow_1 mb_X8_requireLoaded mi_X8_requireLoaded hc.o (by decide) rfl lk_X8_103 rfl rfl rfl (Nat.le_of_ble_eq_true rfl) rfl (c_X8_requireLoaded hc hT eo2 ?_)
  rcases o2 with v3 | v3
  rotate_left
  · have hx := hx v3 rfl
    cases hx
    exact cpX (ax_out rfl (by decide) (by decide) hQ)
  refine cpV ?_
  have h := h v3 rfl
  refine r_iload_n (pc' := 5) dX8_requireRow_4 rfl 1 rfl rfl ?_
  refine r_aload_n (pc' := 6) dX8_requireRow_5 rfl 0 rfl rfl ?_
  refine r_getO (pc' := 9) dX8_requireRow_6 fa_X8_43 hc.o rfl hc.r5 rfl ?_
  refine r_getO (pc' := 12) dX8_requireRow_9 fa_X8_138 hc.c5.o rfl hc.c5.r11 rfl ?_
  refine r_getI (pc' := 15) dX8_requireRow_12 fa_X8_196 hc.c5.c11.o rfl rfl ?_
  obtain ⟨o5, I4, eo5, hx, h⟩ := bx_e h
  refine r_callS2 (pc' := 18) (k' := 2) (n' := 12) dX8_requireRow_15 mb_X8_requireIndex ms_X8_requireIndex lk_X8_175 rfl rfl rfl (Nat.le_of_ble_eq_true rfl) rfl (c_X8_requireIndex hT eo5 ?_)
  rcases o5 with v6 | v6
  rotate_left
  · have hx := hx v6 rfl
    cases hx
    exact cpX (ax_out rfl (by decide) (by decide) hQ)
  refine cpV ?_
  have h := h v6 rfl
  cases h
  exact r_ret dX8_requireRow_18 rfl (by decide) (by decide) hQ
set_option maxHeartbeats 4000000 in
theorem fr_X8_requireRow {I : JI} {c : Nat} {L : Nat} {P : Nat} {x1 : Int32} {r : (Unit) ⊕ String} {J : JI} {z : Nat} (h : s_X8_requireRow I c L P x1 = some (r, J)) (hzc : z < c ∨ c + 104 ≤ z) (hzL : z < L ∨ L + 24 ≤ z) (hzP : z < P ∨ P + 24 ≤ z) : J z = I z := by
  unfold s_X8_requireRow at h
  obtain ⟨o1, I1, e1, hx, h⟩ := bx_e h
  rcases o1 with y1 | y1
  rotate_left
  · have hx := hx _ rfl
    cases hx
    exact ((fr_X8_requireLoaded e1 (by omega) (by omega) (by omega)).trans rfl)
  have h := h _ rfl
  obtain ⟨o2, I4, e2, hx, h⟩ := bx_e h
  rcases o2 with y2 | y2
  rotate_left
  · have hx := hx _ rfl
    cases hx
    exact ((fr_X8_requireIndex e2 ).trans ((fr_X8_requireLoaded e1 (by omega) (by omega) (by omega)).trans rfl))
  have h := h _ rfl
  cases h
  exact ((fr_X8_requireIndex e2 ).trans ((fr_X8_requireLoaded e1 (by omega) (by omega) (by omega)).trans rfl))
noncomputable def s_X8_requireWarp (I : JI) (c L P : Nat) (x1 : Int32) : Option (((Unit) ⊕ String) × JI) :=
  bx (s_X8_requireLoaded I c L P) fun v3 I1 => bx (s_X8_requireIndex I1 x1 (I1 L 4)) fun v6 I4 => some (.inl (), I4)
set_option maxHeartbeats 4000000 in
theorem c_X8_requireWarp {Ω : JO} {I : JI} {S : JS} {Q : JQ} {c : Nat} {L : Nat} {P : Nat} {x1 : Int32} {r : (Unit) ⊕ String} {J : JI} (hc : Is8 S c L P) (hT : sT S = none) (h : s_X8_requireWarp I c L P x1 = some (r, J)) (hQ : Q (ttV r) J S) : Call Ω m_X8_requireWarp [.ref c, .int x1] I S Q := by
  refine call_of (by decide +kernel) rfl (Nat.le_of_ble_eq_true rfl) ?_
  change AA Ω m_X8_requireWarp (FQ Ω m_X8_requireWarp Q) 0 0 0 [(0, .ref c), (1, .int x1)] [] I S
  unfold s_X8_requireWarp at h
  refine r_aload_n (pc' := 1) dX8_requireWarp_0 rfl 0 rfl rfl ?_
  obtain ⟨o2, I1, eo2, hx, h⟩ := bx_e h
  refine r_callV0 (pc' := 4) (k' := 1) (n' := 6) dX8_requireWarp_1 mb_X8_requireLoaded mi_X8_requireLoaded hc.o (by decide) rfl lk_X8_103 rfl rfl rfl (Nat.le_of_ble_eq_true rfl) rfl (c_X8_requireLoaded hc hT eo2 ?_)
  rcases o2 with v3 | v3
  rotate_left
  · have hx := hx v3 rfl
    cases hx
    exact cpX (ax_out rfl (by decide) (by decide) hQ)
  refine cpV ?_
  have h := h v3 rfl
  refine r_iload_n (pc' := 5) dX8_requireWarp_4 rfl 1 rfl rfl ?_
  refine r_aload_n (pc' := 6) dX8_requireWarp_5 rfl 0 rfl rfl ?_
  refine r_getO (pc' := 9) dX8_requireWarp_6 fa_X8_43 hc.o rfl hc.r5 rfl ?_
  refine r_getI (pc' := 12) dX8_requireWarp_9 fa_X8_109 hc.c5.o rfl rfl ?_
  obtain ⟨o5, I4, eo5, hx, h⟩ := bx_e h
  refine r_callS2 (pc' := 15) (k' := 2) (n' := 12) dX8_requireWarp_12 mb_X8_requireIndex ms_X8_requireIndex lk_X8_175 rfl rfl rfl (Nat.le_of_ble_eq_true rfl) rfl (c_X8_requireIndex hT eo5 ?_)
  rcases o5 with v6 | v6
  rotate_left
  · have hx := hx v6 rfl
    cases hx
    exact cpX (ax_out rfl (by decide) (by decide) hQ)
  refine cpV ?_
  have h := h v6 rfl
  cases h
  exact r_ret dX8_requireWarp_15 rfl (by decide) (by decide) hQ
set_option maxHeartbeats 4000000 in
theorem fr_X8_requireWarp {I : JI} {c : Nat} {L : Nat} {P : Nat} {x1 : Int32} {r : (Unit) ⊕ String} {J : JI} {z : Nat} (h : s_X8_requireWarp I c L P x1 = some (r, J)) (hzc : z < c ∨ c + 104 ≤ z) (hzL : z < L ∨ L + 24 ≤ z) (hzP : z < P ∨ P + 24 ≤ z) : J z = I z := by
  unfold s_X8_requireWarp at h
  obtain ⟨o1, I1, e1, hx, h⟩ := bx_e h
  rcases o1 with y1 | y1
  rotate_left
  · have hx := hx _ rfl
    cases hx
    exact ((fr_X8_requireLoaded e1 (by omega) (by omega) (by omega)).trans rfl)
  have h := h _ rfl
  obtain ⟨o2, I4, e2, hx, h⟩ := bx_e h
  rcases o2 with y2 | y2
  rotate_left
  · have hx := hx _ rfl
    cases hx
    exact ((fr_X8_requireIndex e2 ).trans ((fr_X8_requireLoaded e1 (by omega) (by omega) (by omega)).trans rfl))
  have h := h _ rfl
  cases h
  exact ((fr_X8_requireIndex e2 ).trans ((fr_X8_requireLoaded e1 (by omega) (by omega) (by omega)).trans rfl))
noncomputable def s_X8_cellColour (I : JI) (c L P : Nat) (x1 : Int32) (x2 : Int32) : Option (((Int32) ⊕ String) × JI) :=
  bx (s_X8_requireRow I c L P x1) fun v3 I1 => bx (s_X8_requireWarp I1 c L P x2) fun v6 I4 => some (.inl (x3_cell I4 L x1 x2), I4)
set_option maxHeartbeats 4000000 in
theorem c_X8_cellColour {Ω : JO} {I : JI} {S : JS} {Q : JQ} {c : Nat} {L : Nat} {P : Nat} {x1 : Int32} {x2 : Int32} {r : (Int32) ⊕ String} {J : JI} (hc : Is8 S c L P) (hT : sT S = none) (h : s_X8_cellColour I c L P x1 x2 = some (r, J)) (hQ : Q (ttI r) J S) : Call Ω m_X8_cellColour [.ref c, .int x1, .int x2] I S Q := by
  refine call_of (by decide +kernel) rfl (Nat.le_of_ble_eq_true rfl) ?_
  change AA Ω m_X8_cellColour (FQ Ω m_X8_cellColour Q) 0 0 0 [(0, .ref c), (1, .int x1), (2, .int x2)] [] I S
  unfold s_X8_cellColour at h
  refine r_aload_n (pc' := 1) dX8_cellColour_0 rfl 0 rfl rfl ?_
  refine r_iload_n (pc' := 2) dX8_cellColour_1 rfl 1 rfl rfl ?_
  obtain ⟨o2, I1, eo2, hx, h⟩ := bx_e h
  refine r_callV1 (pc' := 5) (k' := 2) (n' := 12) dX8_cellColour_2 mb_X8_requireRow mi_X8_requireRow hc.o (by decide) rfl lk_X8_199 rfl rfl rfl (Nat.le_of_ble_eq_true rfl) rfl (c_X8_requireRow hc hT eo2 ?_)
  rcases o2 with v3 | v3
  rotate_left
  · have hx := hx v3 rfl
    cases hx
    exact cpX (ax_out rfl (by decide) (by decide) hQ)
  refine cpV ?_
  have h := h v3 rfl
  refine r_aload_n (pc' := 6) dX8_cellColour_5 rfl 0 rfl rfl ?_
  refine r_iload_n (pc' := 7) dX8_cellColour_6 rfl 2 rfl rfl ?_
  obtain ⟨o5, I4, eo5, hx, h⟩ := bx_e h
  refine r_callV1 (pc' := 10) (k' := 4) (n' := 24) dX8_cellColour_7 mb_X8_requireWarp mi_X8_requireWarp hc.o (by decide) rfl lk_X8_112 rfl rfl rfl (Nat.le_of_ble_eq_true rfl) rfl (c_X8_requireWarp hc hT eo5 ?_)
  rcases o5 with v6 | v6
  rotate_left
  · have hx := hx v6 rfl
    cases hx
    exact cpX (ax_out rfl (by decide) (by decide) hQ)
  refine cpV ?_
  have h := h v6 rfl
  refine r_aload_n (pc' := 11) dX8_cellColour_10 rfl 0 rfl rfl ?_
  refine r_getO (pc' := 14) dX8_cellColour_11 fa_X8_43 hc.o rfl hc.r5 rfl ?_
  refine r_iload_n (pc' := 15) dX8_cellColour_14 rfl 1 rfl rfl ?_
  refine r_iload_n (pc' := 16) dX8_cellColour_15 rfl 2 rfl rfl ?_
  refine r_callV2 (pc' := 19) (k' := 4) (n' := 24) dX8_cellColour_16 mb_X3_colourOfCell mi_X3_colourOfCell hc.c5.o (by decide) rfl lk_X8_202 rfl rfl rfl (Nat.le_of_ble_eq_true rfl) rfl (c_X3_colourOfCell hc.c5 (cpI ?_))
  cases h
  exact r_iret dX8_cellColour_19 rfl (by decide) (by decide) hQ
set_option maxHeartbeats 4000000 in
theorem fr_X8_cellColour {I : JI} {c : Nat} {L : Nat} {P : Nat} {x1 : Int32} {x2 : Int32} {r : (Int32) ⊕ String} {J : JI} {z : Nat} (h : s_X8_cellColour I c L P x1 x2 = some (r, J)) (hzc : z < c ∨ c + 104 ≤ z) (hzL : z < L ∨ L + 24 ≤ z) (hzP : z < P ∨ P + 24 ≤ z) : J z = I z := by
  unfold s_X8_cellColour at h
  obtain ⟨o1, I1, e1, hx, h⟩ := bx_e h
  rcases o1 with y1 | y1
  rotate_left
  · have hx := hx _ rfl
    cases hx
    exact ((fr_X8_requireRow e1 (by omega) (by omega) (by omega)).trans rfl)
  have h := h _ rfl
  obtain ⟨o2, I4, e2, hx, h⟩ := bx_e h
  rcases o2 with y2 | y2
  rotate_left
  · have hx := hx _ rfl
    cases hx
    exact ((fr_X8_requireWarp e2 (by omega) (by omega) (by omega)).trans ((fr_X8_requireRow e1 (by omega) (by omega) (by omega)).trans rfl))
  have h := h _ rfl
  cases h
  exact ((fr_X8_requireWarp e2 (by omega) (by omega) (by omega)).trans ((fr_X8_requireRow e1 (by omega) (by omega) (by omega)).trans rfl))
noncomputable def s_X8_showsWarp (I : JI) (c L P : Nat) (x1 : Int32) (x2 : Int32) : Option (((Bool) ⊕ String) × JI) :=
  bx (s_X8_requireRow I c L P x1) fun v3 I1 => bx (s_X8_requireWarp I1 c L P x2) fun v6 I4 => some (.inl (hasB (atF (I4 ((L + 10) + 5)) 60 x1) x2), I4)
set_option maxHeartbeats 4000000 in
theorem c_X8_showsWarp {Ω : JO} {I : JI} {S : JS} {Q : JQ} {c : Nat} {L : Nat} {P : Nat} {x1 : Int32} {x2 : Int32} {r : (Bool) ⊕ String} {J : JI} (hc : Is8 S c L P) (hT : sT S = none) (h : s_X8_showsWarp I c L P x1 x2 = some (r, J)) (hQ : Q (ttZ r) J S) : Call Ω m_X8_showsWarp [.ref c, .int x1, .int x2] I S Q := by
  refine call_of (by decide +kernel) rfl (Nat.le_of_ble_eq_true rfl) ?_
  change AA Ω m_X8_showsWarp (FQ Ω m_X8_showsWarp Q) 0 0 0 [(0, .ref c), (1, .int x1), (2, .int x2)] [] I S
  unfold s_X8_showsWarp at h
  refine r_aload_n (pc' := 1) dX8_showsWarp_0 rfl 0 rfl rfl ?_
  refine r_iload_n (pc' := 2) dX8_showsWarp_1 rfl 1 rfl rfl ?_
  obtain ⟨o2, I1, eo2, hx, h⟩ := bx_e h
  refine r_callV1 (pc' := 5) (k' := 2) (n' := 12) dX8_showsWarp_2 mb_X8_requireRow mi_X8_requireRow hc.o (by decide) rfl lk_X8_199 rfl rfl rfl (Nat.le_of_ble_eq_true rfl) rfl (c_X8_requireRow hc hT eo2 ?_)
  rcases o2 with v3 | v3
  rotate_left
  · have hx := hx v3 rfl
    cases hx
    exact cpX (ax_out rfl (by decide) (by decide) hQ)
  refine cpV ?_
  have h := h v3 rfl
  refine r_aload_n (pc' := 6) dX8_showsWarp_5 rfl 0 rfl rfl ?_
  refine r_iload_n (pc' := 7) dX8_showsWarp_6 rfl 2 rfl rfl ?_
  obtain ⟨o5, I4, eo5, hx, h⟩ := bx_e h
  refine r_callV1 (pc' := 10) (k' := 4) (n' := 24) dX8_showsWarp_7 mb_X8_requireWarp mi_X8_requireWarp hc.o (by decide) rfl lk_X8_112 rfl rfl rfl (Nat.le_of_ble_eq_true rfl) rfl (c_X8_requireWarp hc hT eo5 ?_)
  rcases o5 with v6 | v6
  rotate_left
  · have hx := hx v6 rfl
    cases hx
    exact cpX (ax_out rfl (by decide) (by decide) hQ)
  refine cpV ?_
  have h := h v6 rfl
  refine r_aload_n (pc' := 11) dX8_showsWarp_10 rfl 0 rfl rfl ?_
  refine r_getO (pc' := 14) dX8_showsWarp_11 fa_X8_43 hc.o rfl hc.r5 rfl ?_
  refine r_getO (pc' := 17) dX8_showsWarp_14 fa_X8_138 hc.c5.o rfl hc.c5.r11 rfl ?_
  refine r_getO (pc' := 20) dX8_showsWarp_17 fa_X8_206 hc.c5.c11.o rfl hc.c5.c11.r10 rfl ?_
  refine r_iload_n (pc' := 21) dX8_showsWarp_20 rfl 1 rfl rfl ?_
  refine r_callS2 (pc' := 24) (k' := 4) (n' := 24) dX8_showsWarp_21 mb_X8_at ms_X8_at lk_X8_119 rfl rfl rfl (Nat.le_of_ble_eq_true rfl) rfl (c_X8_at hc.c5.c11.c10 (by decide) (cpI ?_))
  refine r_iload_n (pc' := 25) dX8_showsWarp_24 rfl 2 rfl rfl ?_
  refine r_callS2 (pc' := 28) (k' := 4) (n' := 24) dX8_showsWarp_25 mb_X8_has ms_X8_has lk_X8_147 rfl rfl rfl (Nat.le_of_ble_eq_true rfl) rfl (c_X8_has  (cpI ?_))
  cases h
  exact r_zret dX8_showsWarp_28 rfl (zb01 _) (by decide) (by decide) hQ
set_option maxHeartbeats 4000000 in
theorem fr_X8_showsWarp {I : JI} {c : Nat} {L : Nat} {P : Nat} {x1 : Int32} {x2 : Int32} {r : (Bool) ⊕ String} {J : JI} {z : Nat} (h : s_X8_showsWarp I c L P x1 x2 = some (r, J)) (hzc : z < c ∨ c + 104 ≤ z) (hzL : z < L ∨ L + 24 ≤ z) (hzP : z < P ∨ P + 24 ≤ z) : J z = I z := by
  unfold s_X8_showsWarp at h
  obtain ⟨o1, I1, e1, hx, h⟩ := bx_e h
  rcases o1 with y1 | y1
  rotate_left
  · have hx := hx _ rfl
    cases hx
    exact ((fr_X8_requireRow e1 (by omega) (by omega) (by omega)).trans rfl)
  have h := h _ rfl
  obtain ⟨o2, I4, e2, hx, h⟩ := bx_e h
  rcases o2 with y2 | y2
  rotate_left
  · have hx := hx _ rfl
    cases hx
    exact ((fr_X8_requireWarp e2 (by omega) (by omega) (by omega)).trans ((fr_X8_requireRow e1 (by omega) (by omega) (by omega)).trans rfl))
  have h := h _ rfl
  cases h
  exact ((fr_X8_requireWarp e2 (by omega) (by omega) (by omega)).trans ((fr_X8_requireRow e1 (by omega) (by omega) (by omega)).trans rfl))
noncomputable def s_X8_requireRange (I : JI) (x0 : Int32) (x1 : Int32) (x2 : Int32) : Option (((Unit) ⊕ String) × JI) :=
  if x0 < x1 then (some (.inr "java/lang/IllegalArgumentException", I)) else (if x0 ≤ x2 then (some (.inl (), I)) else (some (.inr "java/lang/IllegalArgumentException", I)))
set_option maxHeartbeats 4000000 in
theorem c_X8_requireRange {Ω : JO} {I : JI} {S : JS} {Q : JQ} {x0 : Int32} {x1 : Int32} {x2 : Int32} {r : (Unit) ⊕ String} {J : JI} (hT : sT S = none) (h : s_X8_requireRange I x0 x1 x2 = some (r, J)) (hQ : Q (ttV r) J S) : Call Ω m_X8_requireRange [.int x0, .int x1, .int x2] I S Q := by
  refine call_of (by decide +kernel) rfl (Nat.le_of_ble_eq_true rfl) ?_
  change AA Ω m_X8_requireRange (FQ Ω m_X8_requireRange Q) 0 0 0 [(0, .int x0), (1, .int x1), (2, .int x2)] [] I S
  unfold s_X8_requireRange at h
  refine r_iload_n (pc' := 1) dX8_requireRange_0 rfl 0 rfl rfl ?_
  refine r_iload_n (pc' := 2) dX8_requireRange_1 rfl 1 rfl rfl ?_
  refine r_icmp_lt (tgt := 10) (pc' := 5) dX8_requireRange_2 rfl rfl (fun h1 => ?_) (fun h1 => ?_)
  · have h := ifp h1 h
    cases h
    exact r_throwW dX8_requireRange_10 dX8_requireRange_13 dX8_requireRange_14 dX8_requireRange_17 dX8_requireRange_20 th_X8_requireRange_10 rfl (by decide) (Nat.le_of_ble_eq_true rfl) (by decide) (by decide) hT hQ
  · have h := ifn h1 h
    refine r_iload_n (pc' := 6) dX8_requireRange_5 rfl 0 rfl rfl ?_
    refine r_iload_n (pc' := 7) dX8_requireRange_6 rfl 2 rfl rfl ?_
    refine r_icmp_le (tgt := 21) (pc' := 10) dX8_requireRange_7 rfl rfl (fun h2 => ?_) (fun h2 => ?_)
    · have h := ifp h2 h
      cases h
      exact r_ret dX8_requireRange_21 rfl (by decide) (by decide) hQ
    · have h := ifn h2 h
      cases h
      exact r_throwW dX8_requireRange_10 dX8_requireRange_13 dX8_requireRange_14 dX8_requireRange_17 dX8_requireRange_20 th_X8_requireRange_10 rfl (by decide) (Nat.le_of_ble_eq_true rfl) (by decide) (by decide) hT hQ
set_option maxHeartbeats 4000000 in
theorem fr_X8_requireRange {I : JI} {x0 : Int32} {x1 : Int32} {x2 : Int32} {r : (Unit) ⊕ String} {J : JI} {z : Nat} (h : s_X8_requireRange I x0 x1 x2 = some (r, J)) : J z = I z := by
  unfold s_X8_requireRange at h
  rcases if_e h with h | h
  · cases h
    exact rfl
  · rcases if_e h with h | h
    · cases h
      exact rfl
    · cases h
      exact rfl
noncomputable def s_X8_requireColour (I : JI) (c L P : Nat) (x1 : Int32) : Option (((Unit) ⊕ String) × JI) :=
  bx (s_X8_requireLoaded I c L P) fun v3 I1 => bx (s_X8_requireRange I1 x1 0 5) fun v6 I4 => some (.inl (), I4)
set_option maxHeartbeats 4000000 in
theorem c_X8_requireColour {Ω : JO} {I : JI} {S : JS} {Q : JQ} {c : Nat} {L : Nat} {P : Nat} {x1 : Int32} {r : (Unit) ⊕ String} {J : JI} (hc : Is8 S c L P) (hT : sT S = none) (h : s_X8_requireColour I c L P x1 = some (r, J)) (hQ : Q (ttV r) J S) : Call Ω m_X8_requireColour [.ref c, .int x1] I S Q := by
  refine call_of (by decide +kernel) rfl (Nat.le_of_ble_eq_true rfl) ?_
  change AA Ω m_X8_requireColour (FQ Ω m_X8_requireColour Q) 0 0 0 [(0, .ref c), (1, .int x1)] [] I S
  unfold s_X8_requireColour at h
  refine r_aload_n (pc' := 1) dX8_requireColour_0 rfl 0 rfl rfl ?_
  obtain ⟨o2, I1, eo2, hx, h⟩ := bx_e h
  refine r_callV0 (pc' := 4) (k' := 1) (n' := 6) dX8_requireColour_1 mb_X8_requireLoaded mi_X8_requireLoaded hc.o (by decide) rfl lk_X8_103 rfl rfl rfl (Nat.le_of_ble_eq_true rfl) rfl (c_X8_requireLoaded hc hT eo2 ?_)
  rcases o2 with v3 | v3
  rotate_left
  · have hx := hx v3 rfl
    cases hx
    exact cpX (ax_out rfl (by decide) (by decide) hQ)
  refine cpV ?_
  have h := h v3 rfl
  refine r_iload_n (pc' := 5) dX8_requireColour_4 rfl 1 rfl rfl ?_
  refine r_iconst (pc' := 6) (v := 0) dX8_requireColour_5 (by decide) rfl ?_
  refine r_iconst (pc' := 7) (v := 5) dX8_requireColour_6 (by decide) rfl ?_
  obtain ⟨o5, I4, eo5, hx, h⟩ := bx_e h
  refine r_callS3 (pc' := 10) (k' := 2) (n' := 12) dX8_requireColour_7 mb_X8_requireRange ms_X8_requireRange lk_X8_291 rfl rfl rfl (Nat.le_of_ble_eq_true rfl) rfl (c_X8_requireRange hT eo5 ?_)
  rcases o5 with v6 | v6
  rotate_left
  · have hx := hx v6 rfl
    cases hx
    exact cpX (ax_out rfl (by decide) (by decide) hQ)
  refine cpV ?_
  have h := h v6 rfl
  cases h
  exact r_ret dX8_requireColour_10 rfl (by decide) (by decide) hQ
set_option maxHeartbeats 4000000 in
theorem fr_X8_requireColour {I : JI} {c : Nat} {L : Nat} {P : Nat} {x1 : Int32} {r : (Unit) ⊕ String} {J : JI} {z : Nat} (h : s_X8_requireColour I c L P x1 = some (r, J)) (hzc : z < c ∨ c + 104 ≤ z) (hzL : z < L ∨ L + 24 ≤ z) (hzP : z < P ∨ P + 24 ≤ z) : J z = I z := by
  unfold s_X8_requireColour at h
  obtain ⟨o1, I1, e1, hx, h⟩ := bx_e h
  rcases o1 with y1 | y1
  rotate_left
  · have hx := hx _ rfl
    cases hx
    exact ((fr_X8_requireLoaded e1 (by omega) (by omega) (by omega)).trans rfl)
  have h := h _ rfl
  obtain ⟨o2, I4, e2, hx, h⟩ := bx_e h
  rcases o2 with y2 | y2
  rotate_left
  · have hx := hx _ rfl
    cases hx
    exact ((fr_X8_requireRange e2 ).trans ((fr_X8_requireLoaded e1 (by omega) (by omega) (by omega)).trans rfl))
  have h := h _ rfl
  cases h
  exact ((fr_X8_requireRange e2 ).trans ((fr_X8_requireLoaded e1 (by omega) (by omega) (by omega)).trans rfl))
noncomputable def s_X8_cellsOfColour (I : JI) (c L P : Nat) (x1 : Int32) : Option (((Int32) ⊕ String) × JI) :=
  bx (s_X8_requireColour I c L P x1) fun v3 I1 => some (.inl (ccR I1 L x1 (I1 (L + 10) 3).toNatClampNeg), I1)
set_option maxHeartbeats 4000000 in
theorem c_X8_cellsOfColour {Ω : JO} {I : JI} {S : JS} {Q : JQ} {c : Nat} {L : Nat} {P : Nat} {x1 : Int32} {r : (Int32) ⊕ String} {J : JI} (hc : Is8 S c L P) (hT : sT S = none) (h : s_X8_cellsOfColour I c L P x1 = some (r, J)) (hQ : Q (ttI r) J S) : Call Ω m_X8_cellsOfColour [.ref c, .int x1] I S Q := by
  refine call_of (by decide +kernel) rfl (Nat.le_of_ble_eq_true rfl) ?_
  change AA Ω m_X8_cellsOfColour (FQ Ω m_X8_cellsOfColour Q) 0 0 0 [(0, .ref c), (1, .int x1)] [] I S
  unfold s_X8_cellsOfColour at h
  refine r_aload_n (pc' := 1) dX8_cellsOfColour_0 rfl 0 rfl rfl ?_
  refine r_iload_n (pc' := 2) dX8_cellsOfColour_1 rfl 1 rfl rfl ?_
  obtain ⟨o2, I1, eo2, hx, h⟩ := bx_e h
  refine r_callV1 (pc' := 5) (k' := 2) (n' := 12) dX8_cellsOfColour_2 mb_X8_requireColour mi_X8_requireColour hc.o (by decide) rfl lk_X8_215 rfl rfl rfl (Nat.le_of_ble_eq_true rfl) rfl (c_X8_requireColour hc hT eo2 ?_)
  rcases o2 with v3 | v3
  rotate_left
  · have hx := hx v3 rfl
    cases hx
    exact cpX (ax_out rfl (by decide) (by decide) hQ)
  refine cpV ?_
  have h := h v3 rfl
  refine r_aload_n (pc' := 6) dX8_cellsOfColour_5 rfl 0 rfl rfl ?_
  refine r_getO (pc' := 9) dX8_cellsOfColour_6 fa_X8_43 hc.o rfl hc.r5 rfl ?_
  refine r_iload_n (pc' := 10) dX8_cellsOfColour_9 rfl 1 rfl rfl ?_
  refine r_callV1 (pc' := 13) (k' := 2) (n' := 12) dX8_cellsOfColour_10 mb_X3_countCells mi_X3_countCells hc.c5.o (by decide) rfl lk_X8_218 rfl rfl rfl (Nat.le_of_ble_eq_true rfl) rfl (c_X3_countCells hc.c5 (cpI ?_))
  cases h
  exact r_iret dX8_cellsOfColour_13 rfl (by decide) (by decide) hQ
set_option maxHeartbeats 4000000 in
theorem fr_X8_cellsOfColour {I : JI} {c : Nat} {L : Nat} {P : Nat} {x1 : Int32} {r : (Int32) ⊕ String} {J : JI} {z : Nat} (h : s_X8_cellsOfColour I c L P x1 = some (r, J)) (hzc : z < c ∨ c + 104 ≤ z) (hzL : z < L ∨ L + 24 ≤ z) (hzP : z < P ∨ P + 24 ≤ z) : J z = I z := by
  unfold s_X8_cellsOfColour at h
  obtain ⟨o1, I1, e1, hx, h⟩ := bx_e h
  rcases o1 with y1 | y1
  rotate_left
  · have hx := hx _ rfl
    cases hx
    exact ((fr_X8_requireColour e1 (by omega) (by omega) (by omega)).trans rfl)
  have h := h _ rfl
  cases h
  exact ((fr_X8_requireColour e1 (by omega) (by omega) (by omega)).trans rfl)
noncomputable def s_X8_rowPeriod (I : JI) (c L P : Nat) : Option (((Int32) ⊕ String) × JI) :=
  bx (s_X8_requireLoaded I c L P) fun v3 I1 => some (.inl (lrdF I1 L ((I1 (L + 10) 3).toNatClampNeg - 1) 1), I1)
set_option maxHeartbeats 4000000 in
theorem c_X8_rowPeriod {Ω : JO} {I : JI} {S : JS} {Q : JQ} {c : Nat} {L : Nat} {P : Nat} {r : (Int32) ⊕ String} {J : JI} (hc : Is8 S c L P) (hT : sT S = none) (h : s_X8_rowPeriod I c L P = some (r, J)) (hQ : Q (ttI r) J S) : Call Ω m_X8_rowPeriod [.ref c] I S Q := by
  refine call_of (by decide +kernel) rfl (Nat.le_of_ble_eq_true rfl) ?_
  change AA Ω m_X8_rowPeriod (FQ Ω m_X8_rowPeriod Q) 0 0 0 [(0, .ref c)] [] I S
  unfold s_X8_rowPeriod at h
  refine r_aload_n (pc' := 1) dX8_rowPeriod_0 rfl 0 rfl rfl ?_
  obtain ⟨o2, I1, eo2, hx, h⟩ := bx_e h
  refine r_callV0 (pc' := 4) (k' := 1) (n' := 6) dX8_rowPeriod_1 mb_X8_requireLoaded mi_X8_requireLoaded hc.o (by decide) rfl lk_X8_103 rfl rfl rfl (Nat.le_of_ble_eq_true rfl) rfl (c_X8_requireLoaded hc hT eo2 ?_)
  rcases o2 with v3 | v3
  rotate_left
  · have hx := hx v3 rfl
    cases hx
    exact cpX (ax_out rfl (by decide) (by decide) hQ)
  refine cpV ?_
  have h := h v3 rfl
  refine r_aload_n (pc' := 5) dX8_rowPeriod_4 rfl 0 rfl rfl ?_
  refine r_getO (pc' := 8) dX8_rowPeriod_5 fa_X8_43 hc.o rfl hc.r5 rfl ?_
  refine r_callV0 (pc' := 11) (k' := 1) (n' := 6) dX8_rowPeriod_8 mb_X3_leastRowDistance mi_X3_leastRowDistance hc.c5.o (by decide) rfl lk_X8_221 rfl rfl rfl (Nat.le_of_ble_eq_true rfl) rfl (c_X3_leastRowDistance hc.c5 (cpI ?_))
  cases h
  exact r_iret dX8_rowPeriod_11 rfl (by decide) (by decide) hQ
set_option maxHeartbeats 4000000 in
theorem fr_X8_rowPeriod {I : JI} {c : Nat} {L : Nat} {P : Nat} {r : (Int32) ⊕ String} {J : JI} {z : Nat} (h : s_X8_rowPeriod I c L P = some (r, J)) (hzc : z < c ∨ c + 104 ≤ z) (hzL : z < L ∨ L + 24 ≤ z) (hzP : z < P ∨ P + 24 ≤ z) : J z = I z := by
  unfold s_X8_rowPeriod at h
  obtain ⟨o1, I1, e1, hx, h⟩ := bx_e h
  rcases o1 with y1 | y1
  rotate_left
  · have hx := hx _ rfl
    cases hx
    exact ((fr_X8_requireLoaded e1 (by omega) (by omega) (by omega)).trans rfl)
  have h := h _ rfl
  cases h
  exact ((fr_X8_requireLoaded e1 (by omega) (by omega) (by omega)).trans rfl)
noncomputable def s_X8_wrongCount (I : JI) (c L P : Nat) : Option (((Int32) ⊕ String) × JI) :=
  bx (s_X8_requireLoaded I c L P) fun v3 I1 => some (.inl (cwF I1 L (I1 (L + 10) 3).toNatClampNeg), I1)
set_option maxHeartbeats 4000000 in
theorem c_X8_wrongCount {Ω : JO} {I : JI} {S : JS} {Q : JQ} {c : Nat} {L : Nat} {P : Nat} {r : (Int32) ⊕ String} {J : JI} (hc : Is8 S c L P) (hT : sT S = none) (h : s_X8_wrongCount I c L P = some (r, J)) (hQ : Q (ttI r) J S) : Call Ω m_X8_wrongCount [.ref c] I S Q := by
  refine call_of (by decide +kernel) rfl (Nat.le_of_ble_eq_true rfl) ?_
  change AA Ω m_X8_wrongCount (FQ Ω m_X8_wrongCount Q) 0 0 0 [(0, .ref c)] [] I S
  unfold s_X8_wrongCount at h
  refine r_aload_n (pc' := 1) dX8_wrongCount_0 rfl 0 rfl rfl ?_
  obtain ⟨o2, I1, eo2, hx, h⟩ := bx_e h
  refine r_callV0 (pc' := 4) (k' := 1) (n' := 6) dX8_wrongCount_1 mb_X8_requireLoaded mi_X8_requireLoaded hc.o (by decide) rfl lk_X8_103 rfl rfl rfl (Nat.le_of_ble_eq_true rfl) rfl (c_X8_requireLoaded hc hT eo2 ?_)
  rcases o2 with v3 | v3
  rotate_left
  · have hx := hx v3 rfl
    cases hx
    exact cpX (ax_out rfl (by decide) (by decide) hQ)
  refine cpV ?_
  have h := h v3 rfl
  refine r_aload_n (pc' := 5) dX8_wrongCount_4 rfl 0 rfl rfl ?_
  refine r_getO (pc' := 8) dX8_wrongCount_5 fa_X8_43 hc.o rfl hc.r5 rfl ?_
  refine r_callV0 (pc' := 11) (k' := 1) (n' := 6) dX8_wrongCount_8 mb_X3_countWrong mi_X3_countWrong hc.c5.o (by decide) rfl lk_X8_233 rfl rfl rfl (Nat.le_of_ble_eq_true rfl) rfl (c_X3_countWrong hc.c5 (cpI ?_))
  cases h
  exact r_iret dX8_wrongCount_11 rfl (by decide) (by decide) hQ
set_option maxHeartbeats 4000000 in
theorem fr_X8_wrongCount {I : JI} {c : Nat} {L : Nat} {P : Nat} {r : (Int32) ⊕ String} {J : JI} {z : Nat} (h : s_X8_wrongCount I c L P = some (r, J)) (hzc : z < c ∨ c + 104 ≤ z) (hzL : z < L ∨ L + 24 ≤ z) (hzP : z < P ∨ P + 24 ≤ z) : J z = I z := by
  unfold s_X8_wrongCount at h
  obtain ⟨o1, I1, e1, hx, h⟩ := bx_e h
  rcases o1 with y1 | y1
  rotate_left
  · have hx := hx _ rfl
    cases hx
    exact ((fr_X8_requireLoaded e1 (by omega) (by omega) (by omega)).trans rfl)
  have h := h _ rfl
  cases h
  exact ((fr_X8_requireLoaded e1 (by omega) (by omega) (by omega)).trans rfl)
noncomputable def s_X8_firstWrongRow (I : JI) (c L P : Nat) : Option (((Int32) ⊕ String) × JI) :=
  bx (s_X8_requireLoaded I c L P) fun v3 I1 => some (.inl (fwF I1 L (I1 (L + 10) 3).toNatClampNeg 0), I1)
set_option maxHeartbeats 4000000 in
theorem c_X8_firstWrongRow {Ω : JO} {I : JI} {S : JS} {Q : JQ} {c : Nat} {L : Nat} {P : Nat} {r : (Int32) ⊕ String} {J : JI} (hc : Is8 S c L P) (hT : sT S = none) (h : s_X8_firstWrongRow I c L P = some (r, J)) (hQ : Q (ttI r) J S) : Call Ω m_X8_firstWrongRow [.ref c] I S Q := by
  refine call_of (by decide +kernel) rfl (Nat.le_of_ble_eq_true rfl) ?_
  change AA Ω m_X8_firstWrongRow (FQ Ω m_X8_firstWrongRow Q) 0 0 0 [(0, .ref c)] [] I S
  unfold s_X8_firstWrongRow at h
  refine r_aload_n (pc' := 1) dX8_firstWrongRow_0 rfl 0 rfl rfl ?_
  obtain ⟨o2, I1, eo2, hx, h⟩ := bx_e h
  refine r_callV0 (pc' := 4) (k' := 1) (n' := 6) dX8_firstWrongRow_1 mb_X8_requireLoaded mi_X8_requireLoaded hc.o (by decide) rfl lk_X8_103 rfl rfl rfl (Nat.le_of_ble_eq_true rfl) rfl (c_X8_requireLoaded hc hT eo2 ?_)
  rcases o2 with v3 | v3
  rotate_left
  · have hx := hx v3 rfl
    cases hx
    exact cpX (ax_out rfl (by decide) (by decide) hQ)
  refine cpV ?_
  have h := h v3 rfl
  refine r_aload_n (pc' := 5) dX8_firstWrongRow_4 rfl 0 rfl rfl ?_
  refine r_getO (pc' := 8) dX8_firstWrongRow_5 fa_X8_43 hc.o rfl hc.r5 rfl ?_
  refine r_callV0 (pc' := 11) (k' := 1) (n' := 6) dX8_firstWrongRow_8 mb_X3_firstWrong mi_X3_firstWrong hc.c5.o (by decide) rfl lk_X8_236 rfl rfl rfl (Nat.le_of_ble_eq_true rfl) rfl (c_X3_firstWrong hc.c5 (cpI ?_))
  cases h
  exact r_iret dX8_firstWrongRow_11 rfl (by decide) (by decide) hQ
set_option maxHeartbeats 4000000 in
theorem fr_X8_firstWrongRow {I : JI} {c : Nat} {L : Nat} {P : Nat} {r : (Int32) ⊕ String} {J : JI} {z : Nat} (h : s_X8_firstWrongRow I c L P = some (r, J)) (hzc : z < c ∨ c + 104 ≤ z) (hzL : z < L ∨ L + 24 ≤ z) (hzP : z < P ∨ P + 24 ≤ z) : J z = I z := by
  unfold s_X8_firstWrongRow at h
  obtain ⟨o1, I1, e1, hx, h⟩ := bx_e h
  rcases o1 with y1 | y1
  rotate_left
  · have hx := hx _ rfl
    cases hx
    exact ((fr_X8_requireLoaded e1 (by omega) (by omega) (by omega)).trans rfl)
  have h := h _ rfl
  cases h
  exact ((fr_X8_requireLoaded e1 (by omega) (by omega) (by omega)).trans rfl)
noncomputable def s_X8_swapFirst (I : JI) (c L P : Nat) : Option (((Int32) ⊕ String) × JI) :=
  bx (s_X8_requireLoaded I c L P) fun v3 I1 => if (x3_pair I1 L) = (-1) then (some (.inl (-1), I1)) else (some (.inl ((x3_pair I1 L) / 12), I1))
set_option maxHeartbeats 4000000 in
theorem c_X8_swapFirst {Ω : JO} {I : JI} {S : JS} {Q : JQ} {c : Nat} {L : Nat} {P : Nat} {r : (Int32) ⊕ String} {J : JI} (hc : Is8 S c L P) (hT : sT S = none) (h : s_X8_swapFirst I c L P = some (r, J)) (hQ : Q (ttI r) J S) : Call Ω m_X8_swapFirst [.ref c] I S Q := by
  refine call_of (by decide +kernel) rfl (Nat.le_of_ble_eq_true rfl) ?_
  change AA Ω m_X8_swapFirst (FQ Ω m_X8_swapFirst Q) 0 0 0 [(0, .ref c)] [] I S
  unfold s_X8_swapFirst at h
  refine r_aload_n (pc' := 1) dX8_swapFirst_0 rfl 0 rfl rfl ?_
  obtain ⟨o2, I1, eo2, hx, h⟩ := bx_e h
  refine r_callV0 (pc' := 4) (k' := 1) (n' := 6) dX8_swapFirst_1 mb_X8_requireLoaded mi_X8_requireLoaded hc.o (by decide) rfl lk_X8_103 rfl rfl rfl (Nat.le_of_ble_eq_true rfl) rfl (c_X8_requireLoaded hc hT eo2 ?_)
  rcases o2 with v3 | v3
  rotate_left
  · have hx := hx v3 rfl
    cases hx
    exact cpX (ax_out rfl (by decide) (by decide) hQ)
  refine cpV ?_
  have h := h v3 rfl
  refine r_aload_n (pc' := 5) dX8_swapFirst_4 rfl 0 rfl rfl ?_
  refine r_getO (pc' := 8) dX8_swapFirst_5 fa_X8_43 hc.o rfl hc.r5 rfl ?_
  refine r_callV0 (pc' := 11) (k' := 1) (n' := 6) dX8_swapFirst_8 mb_X3_suspectedPair mi_X3_suspectedPair hc.c5.o (by decide) rfl lk_X8_239 rfl rfl rfl (Nat.le_of_ble_eq_true rfl) rfl (c_X3_suspectedPair hc.c5 (cpI ?_))
  refine r_istore_n (pc' := 12) (lv' := [(1, _), (0, _)]) dX8_swapFirst_11 rfl (by decide) rfl rfl ?_
  refine r_iload_n (pc' := 13) dX8_swapFirst_12 rfl 0 rfl rfl ?_
  refine r_iconst (pc' := 14) (v := -1) dX8_swapFirst_13 (by decide) rfl ?_
  refine r_icmp_ne (tgt := 21) (pc' := 17) dX8_swapFirst_14 rfl rfl (fun h4 => ?_) (fun h4 => ?_)
  · have h := ifn h4 h
    refine r_iload_n (pc' := 22) dX8_swapFirst_21 rfl 0 rfl rfl ?_
    refine r_bipush (pc' := 24) (v := 12) dX8_swapFirst_22 (by decide) rfl ?_
    refine r_idiv (pc' := 25) dX8_swapFirst_24 (by decide) rfl ?_
    cases h
    exact r_iret dX8_swapFirst_25 rfl (by decide) (by decide) hQ
  · have h := ifp h4 h
    refine r_iconst (pc' := 18) (v := -1) dX8_swapFirst_17 (by decide) rfl ?_
    refine r_goto (tgt := 25) dX8_swapFirst_18 rfl ?_
    cases h
    exact r_iret dX8_swapFirst_25 rfl (by decide) (by decide) hQ
set_option maxHeartbeats 4000000 in
theorem fr_X8_swapFirst {I : JI} {c : Nat} {L : Nat} {P : Nat} {r : (Int32) ⊕ String} {J : JI} {z : Nat} (h : s_X8_swapFirst I c L P = some (r, J)) (hzc : z < c ∨ c + 104 ≤ z) (hzL : z < L ∨ L + 24 ≤ z) (hzP : z < P ∨ P + 24 ≤ z) : J z = I z := by
  unfold s_X8_swapFirst at h
  obtain ⟨o1, I1, e1, hx, h⟩ := bx_e h
  rcases o1 with y1 | y1
  rotate_left
  · have hx := hx _ rfl
    cases hx
    exact ((fr_X8_requireLoaded e1 (by omega) (by omega) (by omega)).trans rfl)
  have h := h _ rfl
  rcases if_e h with h | h
  · cases h
    exact ((fr_X8_requireLoaded e1 (by omega) (by omega) (by omega)).trans rfl)
  · cases h
    exact ((fr_X8_requireLoaded e1 (by omega) (by omega) (by omega)).trans rfl)
noncomputable def s_X8_swapSecond (I : JI) (c L P : Nat) : Option (((Int32) ⊕ String) × JI) :=
  bx (s_X8_requireLoaded I c L P) fun v3 I1 => if (x3_pair I1 L) = (-1) then (some (.inl (-1), I1)) else (some (.inl ((x3_pair I1 L) - (x3_pair I1 L) / 12 * 12), I1))
set_option maxHeartbeats 4000000 in
theorem c_X8_swapSecond {Ω : JO} {I : JI} {S : JS} {Q : JQ} {c : Nat} {L : Nat} {P : Nat} {r : (Int32) ⊕ String} {J : JI} (hc : Is8 S c L P) (hT : sT S = none) (h : s_X8_swapSecond I c L P = some (r, J)) (hQ : Q (ttI r) J S) : Call Ω m_X8_swapSecond [.ref c] I S Q := by
  refine call_of (by decide +kernel) rfl (Nat.le_of_ble_eq_true rfl) ?_
  change AA Ω m_X8_swapSecond (FQ Ω m_X8_swapSecond Q) 0 0 0 [(0, .ref c)] [] I S
  unfold s_X8_swapSecond at h
  refine r_aload_n (pc' := 1) dX8_swapSecond_0 rfl 0 rfl rfl ?_
  obtain ⟨o2, I1, eo2, hx, h⟩ := bx_e h
  refine r_callV0 (pc' := 4) (k' := 1) (n' := 6) dX8_swapSecond_1 mb_X8_requireLoaded mi_X8_requireLoaded hc.o (by decide) rfl lk_X8_103 rfl rfl rfl (Nat.le_of_ble_eq_true rfl) rfl (c_X8_requireLoaded hc hT eo2 ?_)
  rcases o2 with v3 | v3
  rotate_left
  · have hx := hx v3 rfl
    cases hx
    exact cpX (ax_out rfl (by decide) (by decide) hQ)
  refine cpV ?_
  have h := h v3 rfl
  refine r_aload_n (pc' := 5) dX8_swapSecond_4 rfl 0 rfl rfl ?_
  refine r_getO (pc' := 8) dX8_swapSecond_5 fa_X8_43 hc.o rfl hc.r5 rfl ?_
  refine r_callV0 (pc' := 11) (k' := 1) (n' := 6) dX8_swapSecond_8 mb_X3_suspectedPair mi_X3_suspectedPair hc.c5.o (by decide) rfl lk_X8_239 rfl rfl rfl (Nat.le_of_ble_eq_true rfl) rfl (c_X3_suspectedPair hc.c5 (cpI ?_))
  refine r_istore_n (pc' := 12) (lv' := [(1, _), (0, _)]) dX8_swapSecond_11 rfl (by decide) rfl rfl ?_
  refine r_iload_n (pc' := 13) dX8_swapSecond_12 rfl 0 rfl rfl ?_
  refine r_iconst (pc' := 14) (v := -1) dX8_swapSecond_13 (by decide) rfl ?_
  refine r_icmp_ne (tgt := 21) (pc' := 17) dX8_swapSecond_14 rfl rfl (fun h4 => ?_) (fun h4 => ?_)
  · have h := ifn h4 h
    refine r_iload_n (pc' := 22) dX8_swapSecond_21 rfl 0 rfl rfl ?_
    refine r_bipush (pc' := 24) (v := 12) dX8_swapSecond_22 (by decide) rfl ?_
    refine r_irem (pc' := 25) dX8_swapSecond_24 (by decide) rfl ?_
    cases h
    exact r_iret dX8_swapSecond_25 rfl (by decide) (by decide) hQ
  · have h := ifp h4 h
    refine r_iconst (pc' := 18) (v := -1) dX8_swapSecond_17 (by decide) rfl ?_
    refine r_goto (tgt := 25) dX8_swapSecond_18 rfl ?_
    cases h
    exact r_iret dX8_swapSecond_25 rfl (by decide) (by decide) hQ
set_option maxHeartbeats 4000000 in
theorem fr_X8_swapSecond {I : JI} {c : Nat} {L : Nat} {P : Nat} {r : (Int32) ⊕ String} {J : JI} {z : Nat} (h : s_X8_swapSecond I c L P = some (r, J)) (hzc : z < c ∨ c + 104 ≤ z) (hzL : z < L ∨ L + 24 ≤ z) (hzP : z < P ∨ P + 24 ≤ z) : J z = I z := by
  unfold s_X8_swapSecond at h
  obtain ⟨o1, I1, e1, hx, h⟩ := bx_e h
  rcases o1 with y1 | y1
  rotate_left
  · have hx := hx _ rfl
    cases hx
    exact ((fr_X8_requireLoaded e1 (by omega) (by omega) (by omega)).trans rfl)
  have h := h _ rfl
  rcases if_e h with h | h
  · cases h
    exact ((fr_X8_requireLoaded e1 (by omega) (by omega) (by omega)).trans rfl)
  · cases h
    exact ((fr_X8_requireLoaded e1 (by omega) (by omega) (by omega)).trans rfl)
noncomputable def s_X8_yarn (I : JI) (c L P : Nat) (x1 : Int32) : Option (((Int32) ⊕ String) × JI) :=
  bx (s_X8_requireColour I c L P x1) fun v3 I1 => some (.inl (atF (I1 ((L + 10) + 2)) 6 x1), I1)
set_option maxHeartbeats 4000000 in
theorem c_X8_yarn {Ω : JO} {I : JI} {S : JS} {Q : JQ} {c : Nat} {L : Nat} {P : Nat} {x1 : Int32} {r : (Int32) ⊕ String} {J : JI} (hc : Is8 S c L P) (hT : sT S = none) (h : s_X8_yarn I c L P x1 = some (r, J)) (hQ : Q (ttI r) J S) : Call Ω m_X8_yarn [.ref c, .int x1] I S Q := by
  refine call_of (by decide +kernel) rfl (Nat.le_of_ble_eq_true rfl) ?_
  change AA Ω m_X8_yarn (FQ Ω m_X8_yarn Q) 0 0 0 [(0, .ref c), (1, .int x1)] [] I S
  unfold s_X8_yarn at h
  refine r_aload_n (pc' := 1) dX8_yarn_0 rfl 0 rfl rfl ?_
  refine r_iload_n (pc' := 2) dX8_yarn_1 rfl 1 rfl rfl ?_
  obtain ⟨o2, I1, eo2, hx, h⟩ := bx_e h
  refine r_callV1 (pc' := 5) (k' := 2) (n' := 12) dX8_yarn_2 mb_X8_requireColour mi_X8_requireColour hc.o (by decide) rfl lk_X8_215 rfl rfl rfl (Nat.le_of_ble_eq_true rfl) rfl (c_X8_requireColour hc hT eo2 ?_)
  rcases o2 with v3 | v3
  rotate_left
  · have hx := hx v3 rfl
    cases hx
    exact cpX (ax_out rfl (by decide) (by decide) hQ)
  refine cpV ?_
  have h := h v3 rfl
  refine r_aload_n (pc' := 6) dX8_yarn_5 rfl 0 rfl rfl ?_
  refine r_getO (pc' := 9) dX8_yarn_6 fa_X8_43 hc.o rfl hc.r5 rfl ?_
  refine r_getO (pc' := 12) dX8_yarn_9 fa_X8_138 hc.c5.o rfl hc.c5.r11 rfl ?_
  refine r_getO (pc' := 15) dX8_yarn_12 fa_X8_242 hc.c5.c11.o rfl hc.c5.c11.r7 rfl ?_
  refine r_iload_n (pc' := 16) dX8_yarn_15 rfl 1 rfl rfl ?_
  refine r_callS2 (pc' := 19) (k' := 2) (n' := 12) dX8_yarn_16 mb_X8_at ms_X8_at lk_X8_119 rfl rfl rfl (Nat.le_of_ble_eq_true rfl) rfl (c_X8_at hc.c5.c11.c7 (by decide) (cpI ?_))
  cases h
  exact r_iret dX8_yarn_19 rfl (by decide) (by decide) hQ
set_option maxHeartbeats 4000000 in
theorem fr_X8_yarn {I : JI} {c : Nat} {L : Nat} {P : Nat} {x1 : Int32} {r : (Int32) ⊕ String} {J : JI} {z : Nat} (h : s_X8_yarn I c L P x1 = some (r, J)) (hzc : z < c ∨ c + 104 ≤ z) (hzL : z < L ∨ L + 24 ≤ z) (hzP : z < P ∨ P + 24 ≤ z) : J z = I z := by
  unfold s_X8_yarn at h
  obtain ⟨o1, I1, e1, hx, h⟩ := bx_e h
  rcases o1 with y1 | y1
  rotate_left
  · have hx := hx _ rfl
    cases hx
    exact ((fr_X8_requireColour e1 (by omega) (by omega) (by omega)).trans rfl)
  have h := h _ rfl
  cases h
  exact ((fr_X8_requireColour e1 (by omega) (by omega) (by omega)).trans rfl)
noncomputable def s_X8_nextCard (I : JI) (c L P : Nat) : Option (((Int32) ⊕ String) × JI) :=
  bx (s_X8_requireLoaded I c L P) fun v3 I1 => some (.inl (x0_cfr I1 (L + 5) (I1 (L + 10) 3)), I1)
set_option maxHeartbeats 4000000 in
theorem c_X8_nextCard {Ω : JO} {I : JI} {S : JS} {Q : JQ} {c : Nat} {L : Nat} {P : Nat} {r : (Int32) ⊕ String} {J : JI} (hc : Is8 S c L P) (hT : sT S = none) (h : s_X8_nextCard I c L P = some (r, J)) (hQ : Q (ttI r) J S) : Call Ω m_X8_nextCard [.ref c] I S Q := by
  refine call_of (by decide +kernel) rfl (Nat.le_of_ble_eq_true rfl) ?_
  change AA Ω m_X8_nextCard (FQ Ω m_X8_nextCard Q) 0 0 0 [(0, .ref c)] [] I S
  unfold s_X8_nextCard at h
  refine r_aload_n (pc' := 1) dX8_nextCard_0 rfl 0 rfl rfl ?_
  obtain ⟨o2, I1, eo2, hx, h⟩ := bx_e h
  refine r_callV0 (pc' := 4) (k' := 1) (n' := 6) dX8_nextCard_1 mb_X8_requireLoaded mi_X8_requireLoaded hc.o (by decide) rfl lk_X8_103 rfl rfl rfl (Nat.le_of_ble_eq_true rfl) rfl (c_X8_requireLoaded hc hT eo2 ?_)
  rcases o2 with v3 | v3
  rotate_left
  · have hx := hx v3 rfl
    cases hx
    exact cpX (ax_out rfl (by decide) (by decide) hQ)
  refine cpV ?_
  have h := h v3 rfl
  refine r_aload_n (pc' := 5) dX8_nextCard_4 rfl 0 rfl rfl ?_
  refine r_getO (pc' := 8) dX8_nextCard_5 fa_X8_43 hc.o rfl hc.r5 rfl ?_
  refine r_getO (pc' := 11) dX8_nextCard_8 fa_X8_88 hc.c5.o rfl hc.c5.r10 rfl ?_
  refine r_aload_n (pc' := 12) dX8_nextCard_11 rfl 0 rfl rfl ?_
  refine r_getO (pc' := 15) dX8_nextCard_12 fa_X8_43 hc.o rfl hc.r5 rfl ?_
  refine r_getO (pc' := 18) dX8_nextCard_15 fa_X8_138 hc.c5.o rfl hc.c5.r11 rfl ?_
  refine r_getI (pc' := 21) dX8_nextCard_18 fa_X8_196 hc.c5.c11.o rfl rfl ?_
  refine r_callV1 (pc' := 24) (k' := 1) (n' := 6) dX8_nextCard_21 mb_X0_cardForRow mi_X0_cardForRow hc.c5.c10.o (by decide) rfl lk_X8_248 rfl rfl rfl (Nat.le_of_ble_eq_true rfl) rfl (c_X0_cardForRow hc.c5.c10 (cpI ?_))
  cases h
  exact r_iret dX8_nextCard_24 rfl (by decide) (by decide) hQ
set_option maxHeartbeats 4000000 in
theorem fr_X8_nextCard {I : JI} {c : Nat} {L : Nat} {P : Nat} {r : (Int32) ⊕ String} {J : JI} {z : Nat} (h : s_X8_nextCard I c L P = some (r, J)) (hzc : z < c ∨ c + 104 ≤ z) (hzL : z < L ∨ L + 24 ≤ z) (hzP : z < P ∨ P + 24 ≤ z) : J z = I z := by
  unfold s_X8_nextCard at h
  obtain ⟨o1, I1, e1, hx, h⟩ := bx_e h
  rcases o1 with y1 | y1
  rotate_left
  · have hx := hx _ rfl
    cases hx
    exact ((fr_X8_requireLoaded e1 (by omega) (by omega) (by omega)).trans rfl)
  have h := h _ rfl
  cases h
  exact ((fr_X8_requireLoaded e1 (by omega) (by omega) (by omega)).trans rfl)
noncomputable def s_X8_weaveObstacle (I : JI) (c L P : Nat) : Option (((Int32) ⊕ String) × JI) :=
  bx (s_X8_requireLoaded I c L P) fun v3 I1 => some (.inl (x3_obst I1 L (L + 10)), I1)
set_option maxHeartbeats 4000000 in
theorem c_X8_weaveObstacle {Ω : JO} {I : JI} {S : JS} {Q : JQ} {c : Nat} {L : Nat} {P : Nat} {r : (Int32) ⊕ String} {J : JI} (hc : Is8 S c L P) (hT : sT S = none) (h : s_X8_weaveObstacle I c L P = some (r, J)) (hQ : Q (ttI r) J S) : Call Ω m_X8_weaveObstacle [.ref c] I S Q := by
  refine call_of (by decide +kernel) rfl (Nat.le_of_ble_eq_true rfl) ?_
  change AA Ω m_X8_weaveObstacle (FQ Ω m_X8_weaveObstacle Q) 0 0 0 [(0, .ref c)] [] I S
  unfold s_X8_weaveObstacle at h
  refine r_aload_n (pc' := 1) dX8_weaveObstacle_0 rfl 0 rfl rfl ?_
  obtain ⟨o2, I1, eo2, hx, h⟩ := bx_e h
  refine r_callV0 (pc' := 4) (k' := 1) (n' := 6) dX8_weaveObstacle_1 mb_X8_requireLoaded mi_X8_requireLoaded hc.o (by decide) rfl lk_X8_103 rfl rfl rfl (Nat.le_of_ble_eq_true rfl) rfl (c_X8_requireLoaded hc hT eo2 ?_)
  rcases o2 with v3 | v3
  rotate_left
  · have hx := hx v3 rfl
    cases hx
    exact cpX (ax_out rfl (by decide) (by decide) hQ)
  refine cpV ?_
  have h := h v3 rfl
  refine r_aload_n (pc' := 5) dX8_weaveObstacle_4 rfl 0 rfl rfl ?_
  refine r_getO (pc' := 8) dX8_weaveObstacle_5 fa_X8_43 hc.o rfl hc.r5 rfl ?_
  refine r_aload_n (pc' := 9) dX8_weaveObstacle_8 rfl 0 rfl rfl ?_
  refine r_getO (pc' := 12) dX8_weaveObstacle_9 fa_X8_43 hc.o rfl hc.r5 rfl ?_
  refine r_getO (pc' := 15) dX8_weaveObstacle_12 fa_X8_138 hc.c5.o rfl hc.c5.r11 rfl ?_
  refine r_callV1 (pc' := 18) (k' := 1) (n' := 6) dX8_weaveObstacle_15 mb_X3_obstacle mi_X3_obstacle hc.c5.o (by decide) rfl lk_X8_251 rfl rfl rfl (Nat.le_of_ble_eq_true rfl) rfl (c_X3_obstacle hc.c5 hc.c5.c11 (cpI ?_))
  cases h
  exact r_iret dX8_weaveObstacle_18 rfl (by decide) (by decide) hQ
set_option maxHeartbeats 4000000 in
theorem fr_X8_weaveObstacle {I : JI} {c : Nat} {L : Nat} {P : Nat} {r : (Int32) ⊕ String} {J : JI} {z : Nat} (h : s_X8_weaveObstacle I c L P = some (r, J)) (hzc : z < c ∨ c + 104 ≤ z) (hzL : z < L ∨ L + 24 ≤ z) (hzP : z < P ∨ P + 24 ≤ z) : J z = I z := by
  unfold s_X8_weaveObstacle at h
  obtain ⟨o1, I1, e1, hx, h⟩ := bx_e h
  rcases o1 with y1 | y1
  rotate_left
  · have hx := hx _ rfl
    cases hx
    exact ((fr_X8_requireLoaded e1 (by omega) (by omega) (by omega)).trans rfl)
  have h := h _ rfl
  cases h
  exact ((fr_X8_requireLoaded e1 (by omega) (by omega) (by omega)).trans rfl)
noncomputable def s_X8_picksPossible (I : JI) (c L P : Nat) : Option (((Int32) ⊕ String) × JI) :=
  bx (s_X8_requireLoaded I c L P) fun v3 I1 => gd (I1 (L + 10) 5 = 0 ∨ I1 (L + 10) 5 = 1) <| lx (x7_copyFrom I1 (L + 17) (L + 10)) fun I5 => gd (WvOk I5 L (L + 17)) <| lx (nI (wuN L (L + 17) (Int32.toNatClampNeg 60) I5)) fun v8 => lx (wuI L (L + 17) (Int32.toNatClampNeg 60) I5) fun I7 => some (.inl v8, I7)
set_option maxHeartbeats 4000000 in
theorem c_X8_picksPossible {Ω : JO} {I : JI} {S : JS} {Q : JQ} {c : Nat} {L : Nat} {P : Nat} {r : (Int32) ⊕ String} {J : JI} (hc : Is8 S c L P) (hT : sT S = none) (h : s_X8_picksPossible I c L P = some (r, J)) (hQ : Q (ttI r) J S) : Call Ω m_X8_picksPossible [.ref c] I S Q := by
  refine call_of (by decide +kernel) rfl (Nat.le_of_ble_eq_true rfl) ?_
  change AA Ω m_X8_picksPossible (FQ Ω m_X8_picksPossible Q) 0 0 0 [(0, .ref c)] [] I S
  unfold s_X8_picksPossible at h
  refine r_aload_n (pc' := 1) dX8_picksPossible_0 rfl 0 rfl rfl ?_
  obtain ⟨o2, I1, eo2, hx, h⟩ := bx_e h
  refine r_callV0 (pc' := 4) (k' := 1) (n' := 6) dX8_picksPossible_1 mb_X8_requireLoaded mi_X8_requireLoaded hc.o (by decide) rfl lk_X8_103 rfl rfl rfl (Nat.le_of_ble_eq_true rfl) rfl (c_X8_requireLoaded hc hT eo2 ?_)
  rcases o2 with v3 | v3
  rotate_left
  · have hx := hx v3 rfl
    cases hx
    exact cpX (ax_out rfl (by decide) (by decide) hQ)
  refine cpV ?_
  have h := h v3 rfl
  refine r_aload_n (pc' := 5) dX8_picksPossible_4 rfl 0 rfl rfl ?_
  refine r_getO (pc' := 8) dX8_picksPossible_5 fa_X8_43 hc.o rfl hc.r5 rfl ?_
  refine r_getO (pc' := 11) dX8_picksPossible_8 fa_X8_255 hc.c5.o rfl hc.c5.r12 rfl ?_
  refine r_aload_n (pc' := 12) dX8_picksPossible_11 rfl 0 rfl rfl ?_
  refine r_getO (pc' := 15) dX8_picksPossible_12 fa_X8_43 hc.o rfl hc.r5 rfl ?_
  refine r_getO (pc' := 18) dX8_picksPossible_15 fa_X8_138 hc.c5.o rfl hc.c5.r11 rfl ?_
  obtain ⟨g4, h⟩ := gd_e h
  refine r_callV1 (pc' := 21) (k' := 1) (n' := 6) dX8_picksPossible_18 mb_X7_copyFrom mi_X7_copyFrom hc.c5.c12.o (by decide) rfl lk_X8_258 rfl rfl rfl (Nat.le_of_ble_eq_true rfl) rfl (c_X7_copyFrom g4 hc.c5.c12 hc.c5.c11 (cpV ?_))
  have h := lx_e h
  refine r_aload_n (pc' := 22) dX8_picksPossible_21 rfl 0 rfl rfl ?_
  refine r_getO (pc' := 25) dX8_picksPossible_22 fa_X8_43 hc.o rfl hc.r5 rfl ?_
  refine r_aload_n (pc' := 26) dX8_picksPossible_25 rfl 0 rfl rfl ?_
  refine r_getO (pc' := 29) dX8_picksPossible_26 fa_X8_43 hc.o rfl hc.r5 rfl ?_
  refine r_getO (pc' := 32) dX8_picksPossible_29 fa_X8_255 hc.c5.o rfl hc.c5.r12 rfl ?_
  refine r_bipush (pc' := 34) (v := 60) dX8_picksPossible_32 (by decide) rfl ?_
  obtain ⟨g6, h⟩ := gd_e h
  refine r_callV2 (pc' := 37) (k' := 1) (n' := 6) dX8_picksPossible_34 mb_X3_weaveUpTo mi_X3_weaveUpTo hc.c5.o (by decide) rfl lk_X8_262 rfl rfl rfl (Nat.le_of_ble_eq_true rfl) rfl (c_X3_weaveUpTo hc.c5 hc.c5.c12 (by omega) g6 (cpI ?_))
  have h := lx_e h
  have h := lx_e h
  cases h
  exact r_iret dX8_picksPossible_37 rfl (by decide) (by decide) hQ
set_option maxHeartbeats 4000000 in
theorem fr_X8_picksPossible {I : JI} {c : Nat} {L : Nat} {P : Nat} {r : (Int32) ⊕ String} {J : JI} {z : Nat} (h : s_X8_picksPossible I c L P = some (r, J)) (hzc : z < c ∨ c + 104 ≤ z) (hzL : z < L ∨ L + 24 ≤ z) (hzP : z < P ∨ P + 24 ≤ z) : J z = I z := by
  unfold s_X8_picksPossible at h
  obtain ⟨o1, I1, e1, hx, h⟩ := bx_e h
  rcases o1 with y1 | y1
  rotate_left
  · have hx := hx _ rfl
    cases hx
    exact ((fr_X8_requireLoaded e1 (by omega) (by omega) (by omega)).trans rfl)
  have h := h _ rfl
  obtain ⟨g2, h⟩ := gd_e h
  have h := lx_e h
  obtain ⟨g3, h⟩ := gd_e h
  have h := lx_e h
  have h := lx_e h
  cases h
  exact ((fr_wuI (by omega)).trans ((fr_x7_copyFrom (by omega)).trans ((fr_X8_requireLoaded e1 (by omega) (by omega) (by omega)).trans rfl)))
noncomputable def s_X8_picksUntilStuck_L23 (c L P : Nat) : Nat → Int32 → JI → Option ((((Int32) ⊕ String) × JI) ⊕ (Int32 × JI))
  | 0, _, _ => none
  | f + 1, w1, I => if 60 < w1 then (some (.inr (w1, I))) else (gd (WvOk I L (L + 17)) <| lx (nI (wuN L (L + 17) (Int32.toNatClampNeg 1) I)) fun v9 => lx (wuI L (L + 17) (Int32.toNatClampNeg 1) I) fun I8 => if v9 = 0 then (some (.inl (.inl (-1), I8))) else (if (I8 (L + 17) 1) = (I8 (L + 10) 1) then (s_X8_picksUntilStuck_L23 c L P f (w1 + 1) I8) else (some (.inl (.inl w1, I8)))))
noncomputable def s_X8_picksUntilStuck (I : JI) (c L P : Nat) : Option (((Int32) ⊕ String) × JI) :=
  bx (s_X8_requireLoaded I c L P) fun v3 I1 => gd (I1 (L + 10) 5 = 0 ∨ I1 (L + 10) 5 = 1) <| lx (x7_copyFrom I1 (L + 17) (L + 10)) fun I5 => bl (s_X8_picksUntilStuck_L23 c L P lf 1 I5) fun (y12, I13) => some (.inl (-1), I13)
set_option maxHeartbeats 4000000 in
theorem l_X8_picksUntilStuck_L23 {Ω : JO} {S : JS} {Q : JQ} {c : Nat} {L : Nat} {P : Nat} (hc : Is8 S c L P) (hT : sT S = none) : ∀ (f : Nat) (w1 : Int32) (I : JI) (o : ((((Int32) ⊕ String) × JI) ⊕ (Int32 × JI))), s_X8_picksUntilStuck_L23 c L P f w1 I = some o → (∀ (r : ((Int32) ⊕ String)) (J : JI), o = .inl (r, J) → Q (ttI r) J S) → (∀ (y1 : Int32) (J : JI) , o = .inr (y1, J) → AA Ω m_X8_picksUntilStuck (FQ Ω m_X8_picksUntilStuck Q) 1 6 80 [(1, .int y1), (0, .ref c)] [] J S) → AA Ω m_X8_picksUntilStuck (FQ Ω m_X8_picksUntilStuck Q) 1 6 23 [(1, .int w1), (0, .ref c)] [] I S := by
  intro f
  induction f with
  | zero =>
    intro w1 I o h hR hE
    rw [s_X8_picksUntilStuck_L23] at h
    cases h
  | succ f ih =>
    intro w1 I o h hR hE
    rw [s_X8_picksUntilStuck_L23] at h
    refine r_iload_n (pc' := 24) dX8_picksUntilStuck_23 rfl 0 rfl rfl ?_
    refine r_bipush (pc' := 26) (v := 60) dX8_picksUntilStuck_24 (by decide) rfl ?_
    refine r_icmp_gt (tgt := 80) (pc' := 29) dX8_picksUntilStuck_26 rfl rfl (fun h6 => ?_) (fun h6 => ?_)
    · have h := ifp h6 h
      cases h
      exact hE _ _ rfl
    · have h := ifn h6 h
      refine r_aload_n (pc' := 30) dX8_picksUntilStuck_29 rfl 1 rfl rfl ?_
      refine r_getO (pc' := 33) dX8_picksUntilStuck_30 fa_X8_43 hc.o rfl hc.r5 rfl ?_
      refine r_aload_n (pc' := 34) dX8_picksUntilStuck_33 rfl 1 rfl rfl ?_
      refine r_getO (pc' := 37) dX8_picksUntilStuck_34 fa_X8_43 hc.o rfl hc.r5 rfl ?_
      refine r_getO (pc' := 40) dX8_picksUntilStuck_37 fa_X8_255 hc.c5.o rfl hc.c5.r12 rfl ?_
      refine r_iconst (pc' := 41) (v := 1) dX8_picksUntilStuck_40 (by decide) rfl ?_
      obtain ⟨g7, h⟩ := gd_e h
      refine r_callV2 (pc' := 44) (k' := 1) (n' := 6) dX8_picksUntilStuck_41 mb_X3_weaveUpTo mi_X3_weaveUpTo hc.c5.o (by decide) rfl lk_X8_262 rfl rfl rfl (Nat.le_of_ble_eq_true rfl) rfl (c_X3_weaveUpTo hc.c5 hc.c5.c12 (by omega) g7 (cpI ?_))
      have h := lx_e h
      have h := lx_e h
      refine r_if_ne (tgt := 49) (pc' := 47) dX8_picksUntilStuck_44 rfl rfl (fun h10 => ?_) (fun h10 => ?_)
      · have h := ifn h10 h
        refine r_aload_n (pc' := 50) dX8_picksUntilStuck_49 rfl 1 rfl rfl ?_
        refine r_getO (pc' := 53) dX8_picksUntilStuck_50 fa_X8_43 hc.o rfl hc.r5 rfl ?_
        refine r_getO (pc' := 56) dX8_picksUntilStuck_53 fa_X8_255 hc.c5.o rfl hc.c5.r12 rfl ?_
        refine r_getI (pc' := 59) dX8_picksUntilStuck_56 fa_X8_157 hc.c5.c12.o rfl rfl ?_
        refine r_aload_n (pc' := 60) dX8_picksUntilStuck_59 rfl 1 rfl rfl ?_
        refine r_getO (pc' := 63) dX8_picksUntilStuck_60 fa_X8_43 hc.o rfl hc.r5 rfl ?_
        refine r_getO (pc' := 66) dX8_picksUntilStuck_63 fa_X8_138 hc.c5.o rfl hc.c5.r11 rfl ?_
        refine r_getI (pc' := 69) dX8_picksUntilStuck_66 fa_X8_157 hc.c5.c11.o rfl rfl ?_
        refine r_icmp_eq (tgt := 74) (pc' := 72) dX8_picksUntilStuck_69 rfl rfl (fun h11 => ?_) (fun h11 => ?_)
        · have h := ifp h11 h
          refine r_iinc (pc' := 77) (v := _ + 1) (lv' := [(1, _), (0, _)]) dX8_picksUntilStuck_74 0 rfl rfl (by decide) rfl rfl ?_
          refine r_goto (tgt := 23) dX8_picksUntilStuck_77 rfl ?_
          exact ih _ _ _ h hR hE
        · have h := ifn h11 h
          refine r_iload_n (pc' := 73) dX8_picksUntilStuck_72 rfl 0 rfl rfl ?_
          cases h
          exact r_iret dX8_picksUntilStuck_73 rfl (by decide) (by decide) (hR _ _ rfl)
      · have h := ifp h10 h
        refine r_iconst (pc' := 48) (v := -1) dX8_picksUntilStuck_47 (by decide) rfl ?_
        cases h
        exact r_iret dX8_picksUntilStuck_48 rfl (by decide) (by decide) (hR _ _ rfl)
set_option maxHeartbeats 4000000 in
theorem c_X8_picksUntilStuck {Ω : JO} {I : JI} {S : JS} {Q : JQ} {c : Nat} {L : Nat} {P : Nat} {r : (Int32) ⊕ String} {J : JI} (hc : Is8 S c L P) (hT : sT S = none) (h : s_X8_picksUntilStuck I c L P = some (r, J)) (hQ : Q (ttI r) J S) : Call Ω m_X8_picksUntilStuck [.ref c] I S Q := by
  refine call_of (by decide +kernel) rfl (Nat.le_of_ble_eq_true rfl) ?_
  change AA Ω m_X8_picksUntilStuck (FQ Ω m_X8_picksUntilStuck Q) 0 0 0 [(0, .ref c)] [] I S
  unfold s_X8_picksUntilStuck at h
  refine r_aload_n (pc' := 1) dX8_picksUntilStuck_0 rfl 0 rfl rfl ?_
  obtain ⟨o2, I1, eo2, hx, h⟩ := bx_e h
  refine r_callV0 (pc' := 4) (k' := 1) (n' := 6) dX8_picksUntilStuck_1 mb_X8_requireLoaded mi_X8_requireLoaded hc.o (by decide) rfl lk_X8_103 rfl rfl rfl (Nat.le_of_ble_eq_true rfl) rfl (c_X8_requireLoaded hc hT eo2 ?_)
  rcases o2 with v3 | v3
  rotate_left
  · have hx := hx v3 rfl
    cases hx
    exact cpX (ax_out rfl (by decide) (by decide) hQ)
  refine cpV ?_
  have h := h v3 rfl
  refine r_aload_n (pc' := 5) dX8_picksUntilStuck_4 rfl 0 rfl rfl ?_
  refine r_getO (pc' := 8) dX8_picksUntilStuck_5 fa_X8_43 hc.o rfl hc.r5 rfl ?_
  refine r_getO (pc' := 11) dX8_picksUntilStuck_8 fa_X8_255 hc.c5.o rfl hc.c5.r12 rfl ?_
  refine r_aload_n (pc' := 12) dX8_picksUntilStuck_11 rfl 0 rfl rfl ?_
  refine r_getO (pc' := 15) dX8_picksUntilStuck_12 fa_X8_43 hc.o rfl hc.r5 rfl ?_
  refine r_getO (pc' := 18) dX8_picksUntilStuck_15 fa_X8_138 hc.c5.o rfl hc.c5.r11 rfl ?_
  obtain ⟨g4, h⟩ := gd_e h
  refine r_callV1 (pc' := 21) (k' := 1) (n' := 6) dX8_picksUntilStuck_18 mb_X7_copyFrom mi_X7_copyFrom hc.c5.c12.o (by decide) rfl lk_X8_258 rfl rfl rfl (Nat.le_of_ble_eq_true rfl) rfl (c_X7_copyFrom g4 hc.c5.c12 hc.c5.c11 (cpV ?_))
  have h := lx_e h
  refine r_iconst (pc' := 22) (v := 1) dX8_picksUntilStuck_21 (by decide) rfl ?_
  refine r_istore_n (pc' := 23) (lv' := [(1, _), (0, _)]) dX8_picksUntilStuck_22 rfl (by decide) rfl rfl ?_
  obtain ⟨o14, eo14, h1, h⟩ := bl_e h
  refine l_X8_picksUntilStuck_L23 (Ω := Ω) hc hT _ _ _ _ eo14 (fun r J q => ?_) (fun y12 I13 q => ?_)
  · have h1 := h1 _ q
    cases h1
    exact hQ
  have h := h _ q
  refine r_iconst (pc' := 81) (v := -1) dX8_picksUntilStuck_80 (by decide) rfl ?_
  cases h
  exact r_iret dX8_picksUntilStuck_81 rfl (by decide) (by decide) hQ
theorem frl_X8_picksUntilStuck_L23 {c : Nat} {L : Nat} {P : Nat} {z : Nat} (hzc : z < c ∨ c + 104 ≤ z) (hzL : z < L ∨ L + 24 ≤ z) (hzP : z < P ∨ P + 24 ≤ z) : ∀ (f : Nat) (w1 : Int32) (I : JI) (o : ((((Int32) ⊕ String) × JI) ⊕ (Int32 × JI))), s_X8_picksUntilStuck_L23 c L P f w1 I = some o → (∀ (r : ((Int32) ⊕ String)) (J : JI), o = .inl (r, J) → J z = I z) ∧ (∀ (y1 : Int32) (J : JI), o = .inr (y1, J) → J z = I z) := by
  intro f
  induction f with
  | zero =>
    intro w1 I o h
    rw [s_X8_picksUntilStuck_L23] at h
    cases h
  | succ f ih =>
    intro w1 I o h
    rw [s_X8_picksUntilStuck_L23] at h
    rcases if_e h with h | h
    · cases h
      refine ⟨?_, ?_⟩
      · intro _ _ q
        cases q
      · intro _ _ q
        cases q
        exact rfl
    · obtain ⟨g1, h⟩ := gd_e h
      have h := lx_e h
      have h := lx_e h
      rcases if_e h with h | h
      · cases h
        refine ⟨?_, ?_⟩
        · intro _ _ q
          cases q
          exact ((fr_wuI (by omega)).trans rfl)
        · intro _ _ q
          cases q
      · rcases if_e h with h | h
        · refine ⟨?_, ?_⟩
          · intro _ _ q
            exact ((ih _ _ _ h).1 _ _ q).trans ((fr_wuI (by omega)).trans rfl)
          · intro _ _ q
            exact ((ih _ _ _ h).2 _ _ q).trans ((fr_wuI (by omega)).trans rfl)
        · cases h
          refine ⟨?_, ?_⟩
          · intro _ _ q
            cases q
            exact ((fr_wuI (by omega)).trans rfl)
          · intro _ _ q
            cases q
set_option maxHeartbeats 4000000 in
theorem fr_X8_picksUntilStuck {I : JI} {c : Nat} {L : Nat} {P : Nat} {r : (Int32) ⊕ String} {J : JI} {z : Nat} (h : s_X8_picksUntilStuck I c L P = some (r, J)) (hzc : z < c ∨ c + 104 ≤ z) (hzL : z < L ∨ L + 24 ≤ z) (hzP : z < P ∨ P + 24 ≤ z) : J z = I z := by
  unfold s_X8_picksUntilStuck at h
  obtain ⟨o1, I1, e1, hx, h⟩ := bx_e h
  rcases o1 with y1 | y1
  rotate_left
  · have hx := hx _ rfl
    cases hx
    exact ((fr_X8_requireLoaded e1 (by omega) (by omega) (by omega)).trans rfl)
  have h := h _ rfl
  obtain ⟨g2, h⟩ := gd_e h
  have h := lx_e h
  obtain ⟨o3, e3, h1, h⟩ := bl_e h
  rcases o3 with y3 | y3
  · have h1 := h1 _ rfl
    cases h1
    exact (((frl_X8_picksUntilStuck_L23 hzc hzL hzP _ _ _ _ e3).1 _ _ rfl).trans ((fr_x7_copyFrom (by omega)).trans ((fr_X8_requireLoaded e1 (by omega) (by omega) (by omega)).trans rfl)))
  have h := h _ rfl
  obtain ⟨y12, I13⟩ := y3
  cases h
  exact (((frl_X8_picksUntilStuck_L23 hzc hzL hzP _ _ _ _ e3).2 _ _ rfl).trans ((fr_x7_copyFrom (by omega)).trans ((fr_X8_requireLoaded e1 (by omega) (by omega) (by omega)).trans rfl)))
noncomputable def s_X8_imbalance (I : JI) (c L P : Nat) : Option (((Int32) ⊕ String) × JI) :=
  bx (s_X8_requireLoaded I c L P) fun v3 I1 => lx (((ysum (I1 ((L + 10) + 2)) 6) + (I1 (L + 10) 3 * I1 L 4)) - (I1 (L + 10) 4)) fun v4 => gd ((I1 (L + 10) 5) = 0 ∨ (I1 (L + 10) 5) = 1) <| if (nz (I1 (L + 10) 5)) = true then (some (.inl ((abF v4) + 0), I1)) else (lx (cwF I1 L (I1 (L + 10) 3).toNatClampNeg) fun v7 => some (.inl ((abF v4) + v7), I1))
set_option maxHeartbeats 4000000 in
theorem c_X8_imbalance {Ω : JO} {I : JI} {S : JS} {Q : JQ} {c : Nat} {L : Nat} {P : Nat} {r : (Int32) ⊕ String} {J : JI} (hc : Is8 S c L P) (hT : sT S = none) (h : s_X8_imbalance I c L P = some (r, J)) (hQ : Q (ttI r) J S) : Call Ω m_X8_imbalance [.ref c] I S Q := by
  refine call_of (by decide +kernel) rfl (Nat.le_of_ble_eq_true rfl) ?_
  change AA Ω m_X8_imbalance (FQ Ω m_X8_imbalance Q) 0 0 0 [(0, .ref c)] [] I S
  unfold s_X8_imbalance at h
  refine r_aload_n (pc' := 1) dX8_imbalance_0 rfl 0 rfl rfl ?_
  obtain ⟨o2, I1, eo2, hx, h⟩ := bx_e h
  refine r_callV0 (pc' := 4) (k' := 1) (n' := 6) dX8_imbalance_1 mb_X8_requireLoaded mi_X8_requireLoaded hc.o (by decide) rfl lk_X8_103 rfl rfl rfl (Nat.le_of_ble_eq_true rfl) rfl (c_X8_requireLoaded hc hT eo2 ?_)
  rcases o2 with v3 | v3
  rotate_left
  · have hx := hx v3 rfl
    cases hx
    exact cpX (ax_out rfl (by decide) (by decide) hQ)
  refine cpV ?_
  have h := h v3 rfl
  refine r_aload_n (pc' := 5) dX8_imbalance_4 rfl 0 rfl rfl ?_
  refine r_getO (pc' := 8) dX8_imbalance_5 fa_X8_43 hc.o rfl hc.r5 rfl ?_
  refine r_getO (pc' := 11) dX8_imbalance_8 fa_X8_138 hc.c5.o rfl hc.c5.r11 rfl ?_
  refine r_callV0 (pc' := 14) (k' := 1) (n' := 6) dX8_imbalance_11 mb_X7_yarnOfAllColours mi_X7_yarnOfAllColours hc.c5.c11.o (by decide) rfl lk_X8_266 rfl rfl rfl (Nat.le_of_ble_eq_true rfl) rfl (c_X7_yarnOfAllColours hc.c5.c11 (cpI ?_))
  refine r_aload_n (pc' := 15) dX8_imbalance_14 rfl 0 rfl rfl ?_
  refine r_getO (pc' := 18) dX8_imbalance_15 fa_X8_43 hc.o rfl hc.r5 rfl ?_
  refine r_callV0 (pc' := 21) (k' := 1) (n' := 6) dX8_imbalance_18 mb_X3_cellCount mi_X3_cellCount hc.c5.o (by decide) rfl lk_X8_224 rfl rfl rfl (Nat.le_of_ble_eq_true rfl) rfl (c_X3_cellCount hc.c5 (cpI ?_))
  refine r_iadd (pc' := 22) dX8_imbalance_21 rfl ?_
  refine r_aload_n (pc' := 23) dX8_imbalance_22 rfl 0 rfl rfl ?_
  refine r_getO (pc' := 26) dX8_imbalance_23 fa_X8_43 hc.o rfl hc.r5 rfl ?_
  refine r_getO (pc' := 29) dX8_imbalance_26 fa_X8_138 hc.c5.o rfl hc.c5.r11 rfl ?_
  refine r_getI (pc' := 32) dX8_imbalance_29 fa_X8_269 hc.c5.c11.o rfl rfl ?_
  refine r_isub (pc' := 33) dX8_imbalance_32 rfl ?_
  refine r_istore_n (pc' := 34) (lv' := [(1, _), (0, _)]) dX8_imbalance_33 rfl (by decide) rfl rfl ?_
  have h := lx_e h
  refine r_aload_n (pc' := 35) dX8_imbalance_34 rfl 1 rfl rfl ?_
  refine r_getO (pc' := 38) dX8_imbalance_35 fa_X8_43 hc.o rfl hc.r5 rfl ?_
  refine r_getO (pc' := 41) dX8_imbalance_38 fa_X8_138 hc.c5.o rfl hc.c5.r11 rfl ?_
  obtain ⟨g5, h⟩ := gd_e h
  refine r_getZ (pc' := 44) dX8_imbalance_41 fa_X8_272 hc.c5.c11.o rfl g5 rfl ?_
  refine r_if_eq (tgt := 51) (pc' := 47) dX8_imbalance_44 rfl rfl (fun h6 => ?_) (fun h6 => ?_)
  · have h := ifn (zb_n0 h6) h
    refine r_aload_n (pc' := 52) dX8_imbalance_51 rfl 1 rfl rfl ?_
    refine r_getO (pc' := 55) dX8_imbalance_52 fa_X8_43 hc.o rfl hc.r5 rfl ?_
    refine r_callV0 (pc' := 58) (k' := 1) (n' := 6) dX8_imbalance_55 mb_X3_countWrong mi_X3_countWrong hc.c5.o (by decide) rfl lk_X8_233 rfl rfl rfl (Nat.le_of_ble_eq_true rfl) rfl (c_X3_countWrong hc.c5 (cpI ?_))
    refine r_istore_n (pc' := 59) (lv' := [(2, _), (1, _), (0, _)]) dX8_imbalance_58 rfl (by decide) rfl rfl ?_
    have h := lx_e h
    refine r_iload_n (pc' := 60) dX8_imbalance_59 rfl 1 rfl rfl ?_
    refine r_mabs (pc' := 63) dX8_imbalance_60 mw_X8_275 (by decide) (Nat.le_of_ble_eq_true rfl) (by decide) (by decide) rfl ?_
    refine r_iload_n (pc' := 64) dX8_imbalance_63 rfl 0 rfl rfl ?_
    refine r_iadd (pc' := 65) dX8_imbalance_64 rfl ?_
    cases h
    exact r_iret dX8_imbalance_65 rfl (by decide) (by decide) hQ
  · have h := ifp (zb_p0 h6) h
    refine r_iconst (pc' := 48) (v := 0) dX8_imbalance_47 (by decide) rfl ?_
    refine r_goto (tgt := 58) dX8_imbalance_48 rfl ?_
    refine r_istore_n (pc' := 59) (lv' := [(2, _), (1, _), (0, _)]) dX8_imbalance_58 rfl (by decide) rfl rfl ?_
    refine r_iload_n (pc' := 60) dX8_imbalance_59 rfl 1 rfl rfl ?_
    refine r_mabs (pc' := 63) dX8_imbalance_60 mw_X8_275 (by decide) (Nat.le_of_ble_eq_true rfl) (by decide) (by decide) rfl ?_
    refine r_iload_n (pc' := 64) dX8_imbalance_63 rfl 0 rfl rfl ?_
    refine r_iadd (pc' := 65) dX8_imbalance_64 rfl ?_
    cases h
    exact r_iret dX8_imbalance_65 rfl (by decide) (by decide) hQ
set_option maxHeartbeats 4000000 in
theorem fr_X8_imbalance {I : JI} {c : Nat} {L : Nat} {P : Nat} {r : (Int32) ⊕ String} {J : JI} {z : Nat} (h : s_X8_imbalance I c L P = some (r, J)) (hzc : z < c ∨ c + 104 ≤ z) (hzL : z < L ∨ L + 24 ≤ z) (hzP : z < P ∨ P + 24 ≤ z) : J z = I z := by
  unfold s_X8_imbalance at h
  obtain ⟨o1, I1, e1, hx, h⟩ := bx_e h
  rcases o1 with y1 | y1
  rotate_left
  · have hx := hx _ rfl
    cases hx
    exact ((fr_X8_requireLoaded e1 (by omega) (by omega) (by omega)).trans rfl)
  have h := h _ rfl
  have h := lx_e h
  obtain ⟨g2, h⟩ := gd_e h
  rcases if_e h with h | h
  · cases h
    exact ((fr_X8_requireLoaded e1 (by omega) (by omega) (by omega)).trans rfl)
  · have h := lx_e h
    cases h
    exact ((fr_X8_requireLoaded e1 (by omega) (by omega) (by omega)).trans rfl)
noncomputable def s_X8_weave (I : JI) (c L P : Nat) (x1 : Int32) : Option (((Int32) ⊕ String) × JI) :=
  bx (s_X8_requireLoaded I c L P) fun v3 I1 => bx (s_X8_requireRange I1 x1 1 60) fun v6 I4 => bd (s_X1_remember I4 (c + 30) (L + 10)) fun I7 => gd (WvOk I7 L (L + 10)) <| lx (nI (wuN L (L + 10) (Int32.toNatClampNeg x1) I7)) fun v10 => lx (wuI L (L + 10) (Int32.toNatClampNeg x1) I7) fun I9 => some (.inl v10, I9)
set_option maxHeartbeats 4000000 in
theorem c_X8_weave {Ω : JO} {I : JI} {S : JS} {Q : JQ} {c : Nat} {L : Nat} {P : Nat} {x1 : Int32} {r : (Int32) ⊕ String} {J : JI} (hc : Is8 S c L P) (hT : sT S = none) (h : s_X8_weave I c L P x1 = some (r, J)) (hQ : Q (ttI r) J S) : Call Ω m_X8_weave [.ref c, .int x1] I S Q := by
  refine call_of (by decide +kernel) rfl (Nat.le_of_ble_eq_true rfl) ?_
  change AA Ω m_X8_weave (FQ Ω m_X8_weave Q) 0 0 0 [(0, .ref c), (1, .int x1)] [] I S
  unfold s_X8_weave at h
  refine r_aload_n (pc' := 1) dX8_weave_0 rfl 0 rfl rfl ?_
  obtain ⟨o2, I1, eo2, hx, h⟩ := bx_e h
  refine r_callV0 (pc' := 4) (k' := 1) (n' := 6) dX8_weave_1 mb_X8_requireLoaded mi_X8_requireLoaded hc.o (by decide) rfl lk_X8_103 rfl rfl rfl (Nat.le_of_ble_eq_true rfl) rfl (c_X8_requireLoaded hc hT eo2 ?_)
  rcases o2 with v3 | v3
  rotate_left
  · have hx := hx v3 rfl
    cases hx
    exact cpX (ax_out rfl (by decide) (by decide) hQ)
  refine cpV ?_
  have h := h v3 rfl
  refine r_iload_n (pc' := 5) dX8_weave_4 rfl 1 rfl rfl ?_
  refine r_iconst (pc' := 6) (v := 1) dX8_weave_5 (by decide) rfl ?_
  refine r_bipush (pc' := 8) (v := 60) dX8_weave_6 (by decide) rfl ?_
  obtain ⟨o5, I4, eo5, hx, h⟩ := bx_e h
  refine r_callS3 (pc' := 11) (k' := 2) (n' := 12) dX8_weave_8 mb_X8_requireRange ms_X8_requireRange lk_X8_291 rfl rfl rfl (Nat.le_of_ble_eq_true rfl) rfl (c_X8_requireRange hT eo5 ?_)
  rcases o5 with v6 | v6
  rotate_left
  · have hx := hx v6 rfl
    cases hx
    exact cpX (ax_out rfl (by decide) (by decide) hQ)
  refine cpV ?_
  have h := h v6 rfl
  refine r_aload_n (pc' := 12) dX8_weave_11 rfl 0 rfl rfl ?_
  refine r_getO (pc' := 15) dX8_weave_12 fa_X8_26 hc.o rfl hc.r2 rfl ?_
  refine r_aload_n (pc' := 16) dX8_weave_15 rfl 0 rfl rfl ?_
  refine r_getO (pc' := 19) dX8_weave_16 fa_X8_43 hc.o rfl hc.r5 rfl ?_
  refine r_getO (pc' := 22) dX8_weave_19 fa_X8_138 hc.c5.o rfl hc.c5.r11 rfl ?_
  obtain ⟨I7, eI7, h⟩ := bd_e h
  refine r_callV1 (pc' := 25) (k' := 2) (n' := 12) dX8_weave_22 mb_X1_remember mi_X1_remember hc.c2.o (by decide) rfl lk_X8_295 rfl rfl rfl (Nat.le_of_ble_eq_true rfl) rfl (c_X1_remember hc.c2 hc.c5.c11 eI7 (cpV ?_))
  refine r_aload_n (pc' := 26) dX8_weave_25 rfl 0 rfl rfl ?_
  refine r_getO (pc' := 29) dX8_weave_26 fa_X8_43 hc.o rfl hc.r5 rfl ?_
  refine r_aload_n (pc' := 30) dX8_weave_29 rfl 0 rfl rfl ?_
  refine r_getO (pc' := 33) dX8_weave_30 fa_X8_43 hc.o rfl hc.r5 rfl ?_
  refine r_getO (pc' := 36) dX8_weave_33 fa_X8_138 hc.c5.o rfl hc.c5.r11 rfl ?_
  refine r_iload_n (pc' := 37) dX8_weave_36 rfl 1 rfl rfl ?_
  obtain ⟨g8, h⟩ := gd_e h
  refine r_callV2 (pc' := 40) (k' := 2) (n' := 12) dX8_weave_37 mb_X3_weaveUpTo mi_X3_weaveUpTo hc.c5.o (by decide) rfl lk_X8_262 rfl rfl rfl (Nat.le_of_ble_eq_true rfl) rfl (c_X3_weaveUpTo hc.c5 hc.c5.c11 (by omega) g8 (cpI ?_))
  have h := lx_e h
  have h := lx_e h
  cases h
  exact r_iret dX8_weave_40 rfl (by decide) (by decide) hQ
set_option maxHeartbeats 4000000 in
theorem fr_X8_weave {I : JI} {c : Nat} {L : Nat} {P : Nat} {x1 : Int32} {r : (Int32) ⊕ String} {J : JI} {z : Nat} (h : s_X8_weave I c L P x1 = some (r, J)) (hzc : z < c ∨ c + 104 ≤ z) (hzL : z < L ∨ L + 24 ≤ z) (hzP : z < P ∨ P + 24 ≤ z) : J z = I z := by
  unfold s_X8_weave at h
  obtain ⟨o1, I1, e1, hx, h⟩ := bx_e h
  rcases o1 with y1 | y1
  rotate_left
  · have hx := hx _ rfl
    cases hx
    exact ((fr_X8_requireLoaded e1 (by omega) (by omega) (by omega)).trans rfl)
  have h := h _ rfl
  obtain ⟨o2, I4, e2, hx, h⟩ := bx_e h
  rcases o2 with y2 | y2
  rotate_left
  · have hx := hx _ rfl
    cases hx
    exact ((fr_X8_requireRange e2 ).trans ((fr_X8_requireLoaded e1 (by omega) (by omega) (by omega)).trans rfl))
  have h := h _ rfl
  obtain ⟨I7, e3, h⟩ := bd_e h
  obtain ⟨g4, h⟩ := gd_e h
  have h := lx_e h
  have h := lx_e h
  cases h
  exact ((fr_wuI (by omega)).trans ((fr_X1_remember e3 (by omega) (by omega)).trans ((fr_X8_requireRange e2 ).trans ((fr_X8_requireLoaded e1 (by omega) (by omega) (by omega)).trans rfl))))
noncomputable def s_X8_unweave (I : JI) (c L P : Nat) (x1 : Int32) : Option (((Int32) ⊕ String) × JI) :=
  bx (s_X8_requireLoaded I c L P) fun v3 I1 => bx (s_X8_requireRange I1 x1 1 (I1 (L + 10) 3)) fun v6 I4 => bd (s_X1_remember I4 (c + 30) (L + 10)) fun I7 => lx (rmI L (Int32.toNatClampNeg x1) I7) fun I8 => some (.inl (I8 (L + 10) 3), I8)
set_option maxHeartbeats 4000000 in
theorem c_X8_unweave {Ω : JO} {I : JI} {S : JS} {Q : JQ} {c : Nat} {L : Nat} {P : Nat} {x1 : Int32} {r : (Int32) ⊕ String} {J : JI} (hc : Is8 S c L P) (hT : sT S = none) (h : s_X8_unweave I c L P x1 = some (r, J)) (hQ : Q (ttI r) J S) : Call Ω m_X8_unweave [.ref c, .int x1] I S Q := by
  refine call_of (by decide +kernel) rfl (Nat.le_of_ble_eq_true rfl) ?_
  change AA Ω m_X8_unweave (FQ Ω m_X8_unweave Q) 0 0 0 [(0, .ref c), (1, .int x1)] [] I S
  unfold s_X8_unweave at h
  refine r_aload_n (pc' := 1) dX8_unweave_0 rfl 0 rfl rfl ?_
  obtain ⟨o2, I1, eo2, hx, h⟩ := bx_e h
  refine r_callV0 (pc' := 4) (k' := 1) (n' := 6) dX8_unweave_1 mb_X8_requireLoaded mi_X8_requireLoaded hc.o (by decide) rfl lk_X8_103 rfl rfl rfl (Nat.le_of_ble_eq_true rfl) rfl (c_X8_requireLoaded hc hT eo2 ?_)
  rcases o2 with v3 | v3
  rotate_left
  · have hx := hx v3 rfl
    cases hx
    exact cpX (ax_out rfl (by decide) (by decide) hQ)
  refine cpV ?_
  have h := h v3 rfl
  refine r_iload_n (pc' := 5) dX8_unweave_4 rfl 1 rfl rfl ?_
  refine r_iconst (pc' := 6) (v := 1) dX8_unweave_5 (by decide) rfl ?_
  refine r_aload_n (pc' := 7) dX8_unweave_6 rfl 0 rfl rfl ?_
  refine r_getO (pc' := 10) dX8_unweave_7 fa_X8_43 hc.o rfl hc.r5 rfl ?_
  refine r_getO (pc' := 13) dX8_unweave_10 fa_X8_138 hc.c5.o rfl hc.c5.r11 rfl ?_
  refine r_getI (pc' := 16) dX8_unweave_13 fa_X8_196 hc.c5.c11.o rfl rfl ?_
  obtain ⟨o5, I4, eo5, hx, h⟩ := bx_e h
  refine r_callS3 (pc' := 19) (k' := 2) (n' := 12) dX8_unweave_16 mb_X8_requireRange ms_X8_requireRange lk_X8_291 rfl rfl rfl (Nat.le_of_ble_eq_true rfl) rfl (c_X8_requireRange hT eo5 ?_)
  rcases o5 with v6 | v6
  rotate_left
  · have hx := hx v6 rfl
    cases hx
    exact cpX (ax_out rfl (by decide) (by decide) hQ)
  refine cpV ?_
  have h := h v6 rfl
  refine r_aload_n (pc' := 20) dX8_unweave_19 rfl 0 rfl rfl ?_
  refine r_getO (pc' := 23) dX8_unweave_20 fa_X8_26 hc.o rfl hc.r2 rfl ?_
  refine r_aload_n (pc' := 24) dX8_unweave_23 rfl 0 rfl rfl ?_
  refine r_getO (pc' := 27) dX8_unweave_24 fa_X8_43 hc.o rfl hc.r5 rfl ?_
  refine r_getO (pc' := 30) dX8_unweave_27 fa_X8_138 hc.c5.o rfl hc.c5.r11 rfl ?_
  obtain ⟨I7, eI7, h⟩ := bd_e h
  refine r_callV1 (pc' := 33) (k' := 2) (n' := 12) dX8_unweave_30 mb_X1_remember mi_X1_remember hc.c2.o (by decide) rfl lk_X8_295 rfl rfl rfl (Nat.le_of_ble_eq_true rfl) rfl (c_X1_remember hc.c2 hc.c5.c11 eI7 (cpV ?_))
  refine r_aload_n (pc' := 34) dX8_unweave_33 rfl 0 rfl rfl ?_
  refine r_getO (pc' := 37) dX8_unweave_34 fa_X8_43 hc.o rfl hc.r5 rfl ?_
  refine r_iload_n (pc' := 38) dX8_unweave_37 rfl 1 rfl rfl ?_
  refine r_callV1 (pc' := 41) (k' := 2) (n' := 12) dX8_unweave_38 mb_X3_removeRows mi_X3_removeRows hc.c5.o (by decide) rfl lk_X8_298 rfl rfl rfl (Nat.le_of_ble_eq_true rfl) rfl (c_X3_removeRows hc.c5 (cpV ?_))
  have h := lx_e h
  refine r_aload_n (pc' := 42) dX8_unweave_41 rfl 0 rfl rfl ?_
  refine r_getO (pc' := 45) dX8_unweave_42 fa_X8_43 hc.o rfl hc.r5 rfl ?_
  refine r_getO (pc' := 48) dX8_unweave_45 fa_X8_138 hc.c5.o rfl hc.c5.r11 rfl ?_
  refine r_getI (pc' := 51) dX8_unweave_48 fa_X8_196 hc.c5.c11.o rfl rfl ?_
  cases h
  exact r_iret dX8_unweave_51 rfl (by decide) (by decide) hQ
set_option maxHeartbeats 4000000 in
theorem fr_X8_unweave {I : JI} {c : Nat} {L : Nat} {P : Nat} {x1 : Int32} {r : (Int32) ⊕ String} {J : JI} {z : Nat} (h : s_X8_unweave I c L P x1 = some (r, J)) (hzc : z < c ∨ c + 104 ≤ z) (hzL : z < L ∨ L + 24 ≤ z) (hzP : z < P ∨ P + 24 ≤ z) : J z = I z := by
  unfold s_X8_unweave at h
  obtain ⟨o1, I1, e1, hx, h⟩ := bx_e h
  rcases o1 with y1 | y1
  rotate_left
  · have hx := hx _ rfl
    cases hx
    exact ((fr_X8_requireLoaded e1 (by omega) (by omega) (by omega)).trans rfl)
  have h := h _ rfl
  obtain ⟨o2, I4, e2, hx, h⟩ := bx_e h
  rcases o2 with y2 | y2
  rotate_left
  · have hx := hx _ rfl
    cases hx
    exact ((fr_X8_requireRange e2 ).trans ((fr_X8_requireLoaded e1 (by omega) (by omega) (by omega)).trans rfl))
  have h := h _ rfl
  obtain ⟨I7, e3, h⟩ := bd_e h
  have h := lx_e h
  cases h
  exact ((fr_rmI (by omega)).trans ((fr_X1_remember e3 (by omega) (by omega)).trans ((fr_X8_requireRange e2 ).trans ((fr_X8_requireLoaded e1 (by omega) (by omega) (by omega)).trans rfl))))
noncomputable def s_X8_swapCards (I : JI) (c L P : Nat) (x1 : Int32) (x2 : Int32) : Option (((Int32) ⊕ String) × JI) :=
  bx (s_X8_requireCard I c L P x1) fun v3 I1 => bx (s_X8_requireCard I1 c L P x2) fun v6 I4 => bd (s_X1_remember I4 (c + 30) (L + 10)) fun I7 => lx (x7_exchangeCards I7 (L + 10) x1 x2) fun I8 => lx (cpF (I8 ((L + 5) + 2)) x1 (I8 (L + 5) 3).toNatClampNeg) fun v9 => if x1 = x2 then (some (.inl v9, I8)) else (some (.inl (v9 + (cpF (I8 ((L + 5) + 2)) x2 (I8 (L + 5) 3).toNatClampNeg)), I8))
set_option maxHeartbeats 4000000 in
theorem c_X8_swapCards {Ω : JO} {I : JI} {S : JS} {Q : JQ} {c : Nat} {L : Nat} {P : Nat} {x1 : Int32} {x2 : Int32} {r : (Int32) ⊕ String} {J : JI} (hc : Is8 S c L P) (hT : sT S = none) (h : s_X8_swapCards I c L P x1 x2 = some (r, J)) (hQ : Q (ttI r) J S) : Call Ω m_X8_swapCards [.ref c, .int x1, .int x2] I S Q := by
  refine call_of (by decide +kernel) rfl (Nat.le_of_ble_eq_true rfl) ?_
  change AA Ω m_X8_swapCards (FQ Ω m_X8_swapCards Q) 0 0 0 [(0, .ref c), (1, .int x1), (2, .int x2)] [] I S
  unfold s_X8_swapCards at h
  refine r_aload_n (pc' := 1) dX8_swapCards_0 rfl 0 rfl rfl ?_
  refine r_iload_n (pc' := 2) dX8_swapCards_1 rfl 1 rfl rfl ?_
  obtain ⟨o2, I1, eo2, hx, h⟩ := bx_e h
  refine r_callV1 (pc' := 5) (k' := 2) (n' := 12) dX8_swapCards_2 mb_X8_requireCard mi_X8_requireCard hc.o (by decide) rfl lk_X8_163 rfl rfl rfl (Nat.le_of_ble_eq_true rfl) rfl (c_X8_requireCard hc hT eo2 ?_)
  rcases o2 with v3 | v3
  rotate_left
  · have hx := hx v3 rfl
    cases hx
    exact cpX (ax_out rfl (by decide) (by decide) hQ)
  refine cpV ?_
  have h := h v3 rfl
  refine r_aload_n (pc' := 6) dX8_swapCards_5 rfl 0 rfl rfl ?_
  refine r_iload_n (pc' := 7) dX8_swapCards_6 rfl 2 rfl rfl ?_
  obtain ⟨o5, I4, eo5, hx, h⟩ := bx_e h
  refine r_callV1 (pc' := 10) (k' := 4) (n' := 24) dX8_swapCards_7 mb_X8_requireCard mi_X8_requireCard hc.o (by decide) rfl lk_X8_163 rfl rfl rfl (Nat.le_of_ble_eq_true rfl) rfl (c_X8_requireCard hc hT eo5 ?_)
  rcases o5 with v6 | v6
  rotate_left
  · have hx := hx v6 rfl
    cases hx
    exact cpX (ax_out rfl (by decide) (by decide) hQ)
  refine cpV ?_
  have h := h v6 rfl
  refine r_aload_n (pc' := 11) dX8_swapCards_10 rfl 0 rfl rfl ?_
  refine r_getO (pc' := 14) dX8_swapCards_11 fa_X8_26 hc.o rfl hc.r2 rfl ?_
  refine r_aload_n (pc' := 15) dX8_swapCards_14 rfl 0 rfl rfl ?_
  refine r_getO (pc' := 18) dX8_swapCards_15 fa_X8_43 hc.o rfl hc.r5 rfl ?_
  refine r_getO (pc' := 21) dX8_swapCards_18 fa_X8_138 hc.c5.o rfl hc.c5.r11 rfl ?_
  obtain ⟨I7, eI7, h⟩ := bd_e h
  refine r_callV1 (pc' := 24) (k' := 4) (n' := 24) dX8_swapCards_21 mb_X1_remember mi_X1_remember hc.c2.o (by decide) rfl lk_X8_295 rfl rfl rfl (Nat.le_of_ble_eq_true rfl) rfl (c_X1_remember hc.c2 hc.c5.c11 eI7 (cpV ?_))
  refine r_aload_n (pc' := 25) dX8_swapCards_24 rfl 0 rfl rfl ?_
  refine r_getO (pc' := 28) dX8_swapCards_25 fa_X8_43 hc.o rfl hc.r5 rfl ?_
  refine r_getO (pc' := 31) dX8_swapCards_28 fa_X8_138 hc.c5.o rfl hc.c5.r11 rfl ?_
  refine r_iload_n (pc' := 32) dX8_swapCards_31 rfl 1 rfl rfl ?_
  refine r_iload_n (pc' := 33) dX8_swapCards_32 rfl 2 rfl rfl ?_
  refine r_callV2 (pc' := 36) (k' := 4) (n' := 24) dX8_swapCards_33 mb_X7_exchangeCards mi_X7_exchangeCards hc.c5.c11.o (by decide) rfl lk_X8_301 rfl rfl rfl (Nat.le_of_ble_eq_true rfl) rfl (c_X7_exchangeCards hc.c5.c11 (cpV ?_))
  have h := lx_e h
  refine r_aload_n (pc' := 37) dX8_swapCards_36 rfl 0 rfl rfl ?_
  refine r_getO (pc' := 40) dX8_swapCards_37 fa_X8_43 hc.o rfl hc.r5 rfl ?_
  refine r_getO (pc' := 43) dX8_swapCards_40 fa_X8_88 hc.c5.o rfl hc.c5.r10 rfl ?_
  refine r_iload_n (pc' := 44) dX8_swapCards_43 rfl 1 rfl rfl ?_
  refine r_callV1 (pc' := 47) (k' := 4) (n' := 24) dX8_swapCards_44 mb_X0_countPicks mi_X0_countPicks hc.c5.c10.o (by decide) rfl lk_X8_182 rfl rfl rfl (Nat.le_of_ble_eq_true rfl) rfl (c_X0_countPicks hc.c5.c10 (cpI ?_))
  refine r_istore_n (pc' := 48) (lv' := [(3, _), (0, _), (1, _), (2, _)]) dX8_swapCards_47 rfl (by decide) rfl rfl ?_
  have h := lx_e h
  refine r_iload_n (pc' := 49) dX8_swapCards_48 rfl 2 rfl rfl ?_
  refine r_iload_n (pc' := 50) dX8_swapCards_49 rfl 3 rfl rfl ?_
  refine r_icmp_ne (tgt := 57) (pc' := 53) dX8_swapCards_50 rfl rfl (fun h10 => ?_) (fun h10 => ?_)
  · have h := ifn h10 h
    refine r_iload_n (pc' := 58) dX8_swapCards_57 rfl 0 rfl rfl ?_
    refine r_aload_n (pc' := 59) dX8_swapCards_58 rfl 1 rfl rfl ?_
    refine r_getO (pc' := 62) dX8_swapCards_59 fa_X8_43 hc.o rfl hc.r5 rfl ?_
    refine r_getO (pc' := 65) dX8_swapCards_62 fa_X8_88 hc.c5.o rfl hc.c5.r10 rfl ?_
    refine r_iload_n (pc' := 66) dX8_swapCards_65 rfl 3 rfl rfl ?_
    refine r_callV1 (pc' := 69) (k' := 4) (n' := 24) dX8_swapCards_66 mb_X0_countPicks mi_X0_countPicks hc.c5.c10.o (by decide) rfl lk_X8_182 rfl rfl rfl (Nat.le_of_ble_eq_true rfl) rfl (c_X0_countPicks hc.c5.c10 (cpI ?_))
    refine r_iadd (pc' := 70) dX8_swapCards_69 rfl ?_
    cases h
    exact r_iret dX8_swapCards_70 rfl (by decide) (by decide) hQ
  · have h := ifp h10 h
    refine r_iload_n (pc' := 54) dX8_swapCards_53 rfl 0 rfl rfl ?_
    refine r_goto (tgt := 70) dX8_swapCards_54 rfl ?_
    cases h
    exact r_iret dX8_swapCards_70 rfl (by decide) (by decide) hQ
set_option maxHeartbeats 4000000 in
theorem fr_X8_swapCards {I : JI} {c : Nat} {L : Nat} {P : Nat} {x1 : Int32} {x2 : Int32} {r : (Int32) ⊕ String} {J : JI} {z : Nat} (h : s_X8_swapCards I c L P x1 x2 = some (r, J)) (hzc : z < c ∨ c + 104 ≤ z) (hzL : z < L ∨ L + 24 ≤ z) (hzP : z < P ∨ P + 24 ≤ z) : J z = I z := by
  unfold s_X8_swapCards at h
  obtain ⟨o1, I1, e1, hx, h⟩ := bx_e h
  rcases o1 with y1 | y1
  rotate_left
  · have hx := hx _ rfl
    cases hx
    exact ((fr_X8_requireCard e1 (by omega) (by omega) (by omega)).trans rfl)
  have h := h _ rfl
  obtain ⟨o2, I4, e2, hx, h⟩ := bx_e h
  rcases o2 with y2 | y2
  rotate_left
  · have hx := hx _ rfl
    cases hx
    exact ((fr_X8_requireCard e2 (by omega) (by omega) (by omega)).trans ((fr_X8_requireCard e1 (by omega) (by omega) (by omega)).trans rfl))
  have h := h _ rfl
  obtain ⟨I7, e3, h⟩ := bd_e h
  have h := lx_e h
  have h := lx_e h
  rcases if_e h with h | h
  · cases h
    exact ((fr_x7_exchangeCards (by omega)).trans ((fr_X1_remember e3 (by omega) (by omega)).trans ((fr_X8_requireCard e2 (by omega) (by omega) (by omega)).trans ((fr_X8_requireCard e1 (by omega) (by omega) (by omega)).trans rfl))))
  · cases h
    exact ((fr_x7_exchangeCards (by omega)).trans ((fr_X1_remember e3 (by omega) (by omega)).trans ((fr_X8_requireCard e2 (by omega) (by omega) (by omega)).trans ((fr_X8_requireCard e1 (by omega) (by omega) (by omega)).trans rfl))))
noncomputable def s_X8_punch (I : JI) (c L P : Nat) (x1 : Int32) (x2 : Int32) : Option (((Bool) ⊕ String) × JI) :=
  bx (s_X8_requireCard I c L P x1) fun v3 I1 => bx (s_X8_requireHarness I1 c L P x2) fun v6 I4 => bd (s_X1_remember I4 (c + 30) (L + 10)) fun I7 => lx (x7_punchCard I7 (L + 10) x1 x2) fun I8 => some (.inl (hasB (atF (I8 ((L + 10) + 3)) 12 x1) x2), I8)
set_option maxHeartbeats 4000000 in
theorem c_X8_punch {Ω : JO} {I : JI} {S : JS} {Q : JQ} {c : Nat} {L : Nat} {P : Nat} {x1 : Int32} {x2 : Int32} {r : (Bool) ⊕ String} {J : JI} (hc : Is8 S c L P) (hT : sT S = none) (h : s_X8_punch I c L P x1 x2 = some (r, J)) (hQ : Q (ttZ r) J S) : Call Ω m_X8_punch [.ref c, .int x1, .int x2] I S Q := by
  refine call_of (by decide +kernel) rfl (Nat.le_of_ble_eq_true rfl) ?_
  change AA Ω m_X8_punch (FQ Ω m_X8_punch Q) 0 0 0 [(0, .ref c), (1, .int x1), (2, .int x2)] [] I S
  unfold s_X8_punch at h
  refine r_aload_n (pc' := 1) dX8_punch_0 rfl 0 rfl rfl ?_
  refine r_iload_n (pc' := 2) dX8_punch_1 rfl 1 rfl rfl ?_
  obtain ⟨o2, I1, eo2, hx, h⟩ := bx_e h
  refine r_callV1 (pc' := 5) (k' := 2) (n' := 12) dX8_punch_2 mb_X8_requireCard mi_X8_requireCard hc.o (by decide) rfl lk_X8_163 rfl rfl rfl (Nat.le_of_ble_eq_true rfl) rfl (c_X8_requireCard hc hT eo2 ?_)
  rcases o2 with v3 | v3
  rotate_left
  · have hx := hx v3 rfl
    cases hx
    exact cpX (ax_out rfl (by decide) (by decide) hQ)
  refine cpV ?_
  have h := h v3 rfl
  refine r_aload_n (pc' := 6) dX8_punch_5 rfl 0 rfl rfl ?_
  refine r_iload_n (pc' := 7) dX8_punch_6 rfl 2 rfl rfl ?_
  obtain ⟨o5, I4, eo5, hx, h⟩ := bx_e h
  refine r_callV1 (pc' := 10) (k' := 4) (n' := 24) dX8_punch_7 mb_X8_requireHarness mi_X8_requireHarness hc.o (by decide) rfl lk_X8_126 rfl rfl rfl (Nat.le_of_ble_eq_true rfl) rfl (c_X8_requireHarness hc hT eo5 ?_)
  rcases o5 with v6 | v6
  rotate_left
  · have hx := hx v6 rfl
    cases hx
    exact cpX (ax_out rfl (by decide) (by decide) hQ)
  refine cpV ?_
  have h := h v6 rfl
  refine r_aload_n (pc' := 11) dX8_punch_10 rfl 0 rfl rfl ?_
  refine r_getO (pc' := 14) dX8_punch_11 fa_X8_26 hc.o rfl hc.r2 rfl ?_
  refine r_aload_n (pc' := 15) dX8_punch_14 rfl 0 rfl rfl ?_
  refine r_getO (pc' := 18) dX8_punch_15 fa_X8_43 hc.o rfl hc.r5 rfl ?_
  refine r_getO (pc' := 21) dX8_punch_18 fa_X8_138 hc.c5.o rfl hc.c5.r11 rfl ?_
  obtain ⟨I7, eI7, h⟩ := bd_e h
  refine r_callV1 (pc' := 24) (k' := 4) (n' := 24) dX8_punch_21 mb_X1_remember mi_X1_remember hc.c2.o (by decide) rfl lk_X8_295 rfl rfl rfl (Nat.le_of_ble_eq_true rfl) rfl (c_X1_remember hc.c2 hc.c5.c11 eI7 (cpV ?_))
  refine r_aload_n (pc' := 25) dX8_punch_24 rfl 0 rfl rfl ?_
  refine r_getO (pc' := 28) dX8_punch_25 fa_X8_43 hc.o rfl hc.r5 rfl ?_
  refine r_getO (pc' := 31) dX8_punch_28 fa_X8_138 hc.c5.o rfl hc.c5.r11 rfl ?_
  refine r_iload_n (pc' := 32) dX8_punch_31 rfl 1 rfl rfl ?_
  refine r_iload_n (pc' := 33) dX8_punch_32 rfl 2 rfl rfl ?_
  refine r_callV2 (pc' := 36) (k' := 4) (n' := 24) dX8_punch_33 mb_X7_punchCard mi_X7_punchCard hc.c5.c11.o (by decide) rfl lk_X8_304 rfl rfl rfl (Nat.le_of_ble_eq_true rfl) rfl (c_X7_punchCard hc.c5.c11 (cpV ?_))
  have h := lx_e h
  refine r_aload_n (pc' := 37) dX8_punch_36 rfl 0 rfl rfl ?_
  refine r_getO (pc' := 40) dX8_punch_37 fa_X8_43 hc.o rfl hc.r5 rfl ?_
  refine r_getO (pc' := 43) dX8_punch_40 fa_X8_138 hc.c5.o rfl hc.c5.r11 rfl ?_
  refine r_getO (pc' := 46) dX8_punch_43 fa_X8_166 hc.c5.c11.o rfl hc.c5.c11.r8 rfl ?_
  refine r_iload_n (pc' := 47) dX8_punch_46 rfl 1 rfl rfl ?_
  refine r_callS2 (pc' := 50) (k' := 4) (n' := 24) dX8_punch_47 mb_X8_at ms_X8_at lk_X8_119 rfl rfl rfl (Nat.le_of_ble_eq_true rfl) rfl (c_X8_at hc.c5.c11.c8 (by decide) (cpI ?_))
  refine r_iload_n (pc' := 51) dX8_punch_50 rfl 2 rfl rfl ?_
  refine r_callS2 (pc' := 54) (k' := 4) (n' := 24) dX8_punch_51 mb_X8_has ms_X8_has lk_X8_147 rfl rfl rfl (Nat.le_of_ble_eq_true rfl) rfl (c_X8_has  (cpI ?_))
  cases h
  exact r_zret dX8_punch_54 rfl (zb01 _) (by decide) (by decide) hQ
set_option maxHeartbeats 4000000 in
theorem fr_X8_punch {I : JI} {c : Nat} {L : Nat} {P : Nat} {x1 : Int32} {x2 : Int32} {r : (Bool) ⊕ String} {J : JI} {z : Nat} (h : s_X8_punch I c L P x1 x2 = some (r, J)) (hzc : z < c ∨ c + 104 ≤ z) (hzL : z < L ∨ L + 24 ≤ z) (hzP : z < P ∨ P + 24 ≤ z) : J z = I z := by
  unfold s_X8_punch at h
  obtain ⟨o1, I1, e1, hx, h⟩ := bx_e h
  rcases o1 with y1 | y1
  rotate_left
  · have hx := hx _ rfl
    cases hx
    exact ((fr_X8_requireCard e1 (by omega) (by omega) (by omega)).trans rfl)
  have h := h _ rfl
  obtain ⟨o2, I4, e2, hx, h⟩ := bx_e h
  rcases o2 with y2 | y2
  rotate_left
  · have hx := hx _ rfl
    cases hx
    exact ((fr_X8_requireHarness e2 (by omega) (by omega) (by omega)).trans ((fr_X8_requireCard e1 (by omega) (by omega) (by omega)).trans rfl))
  have h := h _ rfl
  obtain ⟨I7, e3, h⟩ := bd_e h
  have h := lx_e h
  cases h
  exact ((fr_x7_punchCard (by omega)).trans ((fr_X1_remember e3 (by omega) (by omega)).trans ((fr_X8_requireHarness e2 (by omega) (by omega) (by omega)).trans ((fr_X8_requireCard e1 (by omega) (by omega) (by omega)).trans rfl))))
noncomputable def s_X8_setCardColour (I : JI) (c L P : Nat) (x1 : Int32) (x2 : Int32) : Option (((Int32) ⊕ String) × JI) :=
  bx (s_X8_requireCard I c L P x1) fun v3 I1 => bx (s_X8_requireColour I1 c L P x2) fun v6 I4 => bd (s_X1_remember I4 (c + 30) (L + 10)) fun I7 => lx (atF (I7 ((L + 10) + 4)) 12 x1) fun v8 => lx (x7_changeColour I7 (L + 10) x1 x2) fun I9 => some (.inl v8, I9)
set_option maxHeartbeats 4000000 in
theorem c_X8_setCardColour {Ω : JO} {I : JI} {S : JS} {Q : JQ} {c : Nat} {L : Nat} {P : Nat} {x1 : Int32} {x2 : Int32} {r : (Int32) ⊕ String} {J : JI} (hc : Is8 S c L P) (hT : sT S = none) (h : s_X8_setCardColour I c L P x1 x2 = some (r, J)) (hQ : Q (ttI r) J S) : Call Ω m_X8_setCardColour [.ref c, .int x1, .int x2] I S Q := by
  refine call_of (by decide +kernel) rfl (Nat.le_of_ble_eq_true rfl) ?_
  change AA Ω m_X8_setCardColour (FQ Ω m_X8_setCardColour Q) 0 0 0 [(0, .ref c), (1, .int x1), (2, .int x2)] [] I S
  unfold s_X8_setCardColour at h
  refine r_aload_n (pc' := 1) dX8_setCardColour_0 rfl 0 rfl rfl ?_
  refine r_iload_n (pc' := 2) dX8_setCardColour_1 rfl 1 rfl rfl ?_
  obtain ⟨o2, I1, eo2, hx, h⟩ := bx_e h
  refine r_callV1 (pc' := 5) (k' := 2) (n' := 12) dX8_setCardColour_2 mb_X8_requireCard mi_X8_requireCard hc.o (by decide) rfl lk_X8_163 rfl rfl rfl (Nat.le_of_ble_eq_true rfl) rfl (c_X8_requireCard hc hT eo2 ?_)
  rcases o2 with v3 | v3
  rotate_left
  · have hx := hx v3 rfl
    cases hx
    exact cpX (ax_out rfl (by decide) (by decide) hQ)
  refine cpV ?_
  have h := h v3 rfl
  refine r_aload_n (pc' := 6) dX8_setCardColour_5 rfl 0 rfl rfl ?_
  refine r_iload_n (pc' := 7) dX8_setCardColour_6 rfl 2 rfl rfl ?_
  obtain ⟨o5, I4, eo5, hx, h⟩ := bx_e h
  refine r_callV1 (pc' := 10) (k' := 4) (n' := 24) dX8_setCardColour_7 mb_X8_requireColour mi_X8_requireColour hc.o (by decide) rfl lk_X8_215 rfl rfl rfl (Nat.le_of_ble_eq_true rfl) rfl (c_X8_requireColour hc hT eo5 ?_)
  rcases o5 with v6 | v6
  rotate_left
  · have hx := hx v6 rfl
    cases hx
    exact cpX (ax_out rfl (by decide) (by decide) hQ)
  refine cpV ?_
  have h := h v6 rfl
  refine r_aload_n (pc' := 11) dX8_setCardColour_10 rfl 0 rfl rfl ?_
  refine r_getO (pc' := 14) dX8_setCardColour_11 fa_X8_26 hc.o rfl hc.r2 rfl ?_
  refine r_aload_n (pc' := 15) dX8_setCardColour_14 rfl 0 rfl rfl ?_
  refine r_getO (pc' := 18) dX8_setCardColour_15 fa_X8_43 hc.o rfl hc.r5 rfl ?_
  refine r_getO (pc' := 21) dX8_setCardColour_18 fa_X8_138 hc.c5.o rfl hc.c5.r11 rfl ?_
  obtain ⟨I7, eI7, h⟩ := bd_e h
  refine r_callV1 (pc' := 24) (k' := 4) (n' := 24) dX8_setCardColour_21 mb_X1_remember mi_X1_remember hc.c2.o (by decide) rfl lk_X8_295 rfl rfl rfl (Nat.le_of_ble_eq_true rfl) rfl (c_X1_remember hc.c2 hc.c5.c11 eI7 (cpV ?_))
  refine r_aload_n (pc' := 25) dX8_setCardColour_24 rfl 0 rfl rfl ?_
  refine r_getO (pc' := 28) dX8_setCardColour_25 fa_X8_43 hc.o rfl hc.r5 rfl ?_
  refine r_getO (pc' := 31) dX8_setCardColour_28 fa_X8_138 hc.c5.o rfl hc.c5.r11 rfl ?_
  refine r_getO (pc' := 34) dX8_setCardColour_31 fa_X8_169 hc.c5.c11.o rfl hc.c5.c11.r9 rfl ?_
  refine r_iload_n (pc' := 35) dX8_setCardColour_34 rfl 1 rfl rfl ?_
  refine r_callS2 (pc' := 38) (k' := 4) (n' := 24) dX8_setCardColour_35 mb_X8_at ms_X8_at lk_X8_119 rfl rfl rfl (Nat.le_of_ble_eq_true rfl) rfl (c_X8_at hc.c5.c11.c9 (by decide) (cpI ?_))
  refine r_istore_n (pc' := 39) (lv' := [(3, _), (0, _), (1, _), (2, _)]) dX8_setCardColour_38 rfl (by decide) rfl rfl ?_
  have h := lx_e h
  refine r_aload_n (pc' := 40) dX8_setCardColour_39 rfl 1 rfl rfl ?_
  refine r_getO (pc' := 43) dX8_setCardColour_40 fa_X8_43 hc.o rfl hc.r5 rfl ?_
  refine r_getO (pc' := 46) dX8_setCardColour_43 fa_X8_138 hc.c5.o rfl hc.c5.r11 rfl ?_
  refine r_iload_n (pc' := 47) dX8_setCardColour_46 rfl 2 rfl rfl ?_
  refine r_iload_n (pc' := 48) dX8_setCardColour_47 rfl 3 rfl rfl ?_
  refine r_callV2 (pc' := 51) (k' := 4) (n' := 24) dX8_setCardColour_48 mb_X7_changeColour mi_X7_changeColour hc.c5.c11.o (by decide) rfl lk_X8_307 rfl rfl rfl (Nat.le_of_ble_eq_true rfl) rfl (c_X7_changeColour hc.c5.c11 (cpV ?_))
  have h := lx_e h
  refine r_iload_n (pc' := 52) dX8_setCardColour_51 rfl 0 rfl rfl ?_
  cases h
  exact r_iret dX8_setCardColour_52 rfl (by decide) (by decide) hQ
set_option maxHeartbeats 4000000 in
theorem fr_X8_setCardColour {I : JI} {c : Nat} {L : Nat} {P : Nat} {x1 : Int32} {x2 : Int32} {r : (Int32) ⊕ String} {J : JI} {z : Nat} (h : s_X8_setCardColour I c L P x1 x2 = some (r, J)) (hzc : z < c ∨ c + 104 ≤ z) (hzL : z < L ∨ L + 24 ≤ z) (hzP : z < P ∨ P + 24 ≤ z) : J z = I z := by
  unfold s_X8_setCardColour at h
  obtain ⟨o1, I1, e1, hx, h⟩ := bx_e h
  rcases o1 with y1 | y1
  rotate_left
  · have hx := hx _ rfl
    cases hx
    exact ((fr_X8_requireCard e1 (by omega) (by omega) (by omega)).trans rfl)
  have h := h _ rfl
  obtain ⟨o2, I4, e2, hx, h⟩ := bx_e h
  rcases o2 with y2 | y2
  rotate_left
  · have hx := hx _ rfl
    cases hx
    exact ((fr_X8_requireColour e2 (by omega) (by omega) (by omega)).trans ((fr_X8_requireCard e1 (by omega) (by omega) (by omega)).trans rfl))
  have h := h _ rfl
  obtain ⟨I7, e3, h⟩ := bd_e h
  have h := lx_e h
  have h := lx_e h
  cases h
  exact ((fr_x7_changeColour (by omega)).trans ((fr_X1_remember e3 (by omega) (by omega)).trans ((fr_X8_requireColour e2 (by omega) (by omega) (by omega)).trans ((fr_X8_requireCard e1 (by omega) (by omega) (by omega)).trans rfl))))
noncomputable def s_X8_bringYarn (I : JI) (c L P : Nat) (x1 : Int32) (x2 : Int32) : Option (((Int32) ⊕ String) × JI) :=
  bx (s_X8_requireColour I c L P x1) fun v3 I1 => bx (s_X8_requireRange I1 x2 1 999) fun v6 I4 => bd (s_X1_remember I4 (c + 30) (L + 10)) fun I7 => lx (x7_bring I7 (L + 10) x1 x2) fun I8 => some (.inl (atF (I8 ((L + 10) + 2)) 6 x1), I8)
set_option maxHeartbeats 4000000 in
theorem c_X8_bringYarn {Ω : JO} {I : JI} {S : JS} {Q : JQ} {c : Nat} {L : Nat} {P : Nat} {x1 : Int32} {x2 : Int32} {r : (Int32) ⊕ String} {J : JI} (hc : Is8 S c L P) (hT : sT S = none) (h : s_X8_bringYarn I c L P x1 x2 = some (r, J)) (hQ : Q (ttI r) J S) : Call Ω m_X8_bringYarn [.ref c, .int x1, .int x2] I S Q := by
  refine call_of (by decide +kernel) rfl (Nat.le_of_ble_eq_true rfl) ?_
  change AA Ω m_X8_bringYarn (FQ Ω m_X8_bringYarn Q) 0 0 0 [(0, .ref c), (1, .int x1), (2, .int x2)] [] I S
  unfold s_X8_bringYarn at h
  refine r_aload_n (pc' := 1) dX8_bringYarn_0 rfl 0 rfl rfl ?_
  refine r_iload_n (pc' := 2) dX8_bringYarn_1 rfl 1 rfl rfl ?_
  obtain ⟨o2, I1, eo2, hx, h⟩ := bx_e h
  refine r_callV1 (pc' := 5) (k' := 2) (n' := 12) dX8_bringYarn_2 mb_X8_requireColour mi_X8_requireColour hc.o (by decide) rfl lk_X8_215 rfl rfl rfl (Nat.le_of_ble_eq_true rfl) rfl (c_X8_requireColour hc hT eo2 ?_)
  rcases o2 with v3 | v3
  rotate_left
  · have hx := hx v3 rfl
    cases hx
    exact cpX (ax_out rfl (by decide) (by decide) hQ)
  refine cpV ?_
  have h := h v3 rfl
  refine r_iload_n (pc' := 6) dX8_bringYarn_5 rfl 2 rfl rfl ?_
  refine r_iconst (pc' := 7) (v := 1) dX8_bringYarn_6 (by decide) rfl ?_
  refine r_sipush (pc' := 10) (v := 999) dX8_bringYarn_7 (by decide) rfl ?_
  obtain ⟨o5, I4, eo5, hx, h⟩ := bx_e h
  refine r_callS3 (pc' := 13) (k' := 3) (n' := 18) dX8_bringYarn_10 mb_X8_requireRange ms_X8_requireRange lk_X8_291 rfl rfl rfl (Nat.le_of_ble_eq_true rfl) rfl (c_X8_requireRange hT eo5 ?_)
  rcases o5 with v6 | v6
  rotate_left
  · have hx := hx v6 rfl
    cases hx
    exact cpX (ax_out rfl (by decide) (by decide) hQ)
  refine cpV ?_
  have h := h v6 rfl
  refine r_aload_n (pc' := 14) dX8_bringYarn_13 rfl 0 rfl rfl ?_
  refine r_getO (pc' := 17) dX8_bringYarn_14 fa_X8_26 hc.o rfl hc.r2 rfl ?_
  refine r_aload_n (pc' := 18) dX8_bringYarn_17 rfl 0 rfl rfl ?_
  refine r_getO (pc' := 21) dX8_bringYarn_18 fa_X8_43 hc.o rfl hc.r5 rfl ?_
  refine r_getO (pc' := 24) dX8_bringYarn_21 fa_X8_138 hc.c5.o rfl hc.c5.r11 rfl ?_
  obtain ⟨I7, eI7, h⟩ := bd_e h
  refine r_callV1 (pc' := 27) (k' := 3) (n' := 18) dX8_bringYarn_24 mb_X1_remember mi_X1_remember hc.c2.o (by decide) rfl lk_X8_295 rfl rfl rfl (Nat.le_of_ble_eq_true rfl) rfl (c_X1_remember hc.c2 hc.c5.c11 eI7 (cpV ?_))
  refine r_aload_n (pc' := 28) dX8_bringYarn_27 rfl 0 rfl rfl ?_
  refine r_getO (pc' := 31) dX8_bringYarn_28 fa_X8_43 hc.o rfl hc.r5 rfl ?_
  refine r_getO (pc' := 34) dX8_bringYarn_31 fa_X8_138 hc.c5.o rfl hc.c5.r11 rfl ?_
  refine r_iload_n (pc' := 35) dX8_bringYarn_34 rfl 1 rfl rfl ?_
  refine r_iload_n (pc' := 36) dX8_bringYarn_35 rfl 2 rfl rfl ?_
  refine r_callV2 (pc' := 39) (k' := 3) (n' := 18) dX8_bringYarn_36 mb_X7_bring mi_X7_bring hc.c5.c11.o (by decide) rfl lk_X8_310 rfl rfl rfl (Nat.le_of_ble_eq_true rfl) rfl (c_X7_bring hc.c5.c11 (cpV ?_))
  have h := lx_e h
  refine r_aload_n (pc' := 40) dX8_bringYarn_39 rfl 0 rfl rfl ?_
  refine r_getO (pc' := 43) dX8_bringYarn_40 fa_X8_43 hc.o rfl hc.r5 rfl ?_
  refine r_getO (pc' := 46) dX8_bringYarn_43 fa_X8_138 hc.c5.o rfl hc.c5.r11 rfl ?_
  refine r_getO (pc' := 49) dX8_bringYarn_46 fa_X8_242 hc.c5.c11.o rfl hc.c5.c11.r7 rfl ?_
  refine r_iload_n (pc' := 50) dX8_bringYarn_49 rfl 1 rfl rfl ?_
  refine r_callS2 (pc' := 53) (k' := 3) (n' := 18) dX8_bringYarn_50 mb_X8_at ms_X8_at lk_X8_119 rfl rfl rfl (Nat.le_of_ble_eq_true rfl) rfl (c_X8_at hc.c5.c11.c7 (by decide) (cpI ?_))
  cases h
  exact r_iret dX8_bringYarn_53 rfl (by decide) (by decide) hQ
set_option maxHeartbeats 4000000 in
theorem fr_X8_bringYarn {I : JI} {c : Nat} {L : Nat} {P : Nat} {x1 : Int32} {x2 : Int32} {r : (Int32) ⊕ String} {J : JI} {z : Nat} (h : s_X8_bringYarn I c L P x1 x2 = some (r, J)) (hzc : z < c ∨ c + 104 ≤ z) (hzL : z < L ∨ L + 24 ≤ z) (hzP : z < P ∨ P + 24 ≤ z) : J z = I z := by
  unfold s_X8_bringYarn at h
  obtain ⟨o1, I1, e1, hx, h⟩ := bx_e h
  rcases o1 with y1 | y1
  rotate_left
  · have hx := hx _ rfl
    cases hx
    exact ((fr_X8_requireColour e1 (by omega) (by omega) (by omega)).trans rfl)
  have h := h _ rfl
  obtain ⟨o2, I4, e2, hx, h⟩ := bx_e h
  rcases o2 with y2 | y2
  rotate_left
  · have hx := hx _ rfl
    cases hx
    exact ((fr_X8_requireRange e2 ).trans ((fr_X8_requireColour e1 (by omega) (by omega) (by omega)).trans rfl))
  have h := h _ rfl
  obtain ⟨I7, e3, h⟩ := bd_e h
  have h := lx_e h
  cases h
  exact ((fr_x7_bring (by omega)).trans ((fr_X1_remember e3 (by omega) (by omega)).trans ((fr_X8_requireRange e2 ).trans ((fr_X8_requireColour e1 (by omega) (by omega) (by omega)).trans rfl))))
noncomputable def s_X8_oil (I : JI) (c L P : Nat) (x1 : Int32) : Option (((Int32) ⊕ String) × JI) :=
  bx (s_X8_requireHarness I c L P x1) fun v3 I1 => bd (s_X1_remember I1 (c + 30) (L + 10)) fun I4 => lx (atF (I4 ((L + 10) + 1)) 8 x1) fun v5 => lx (x7_oilHarness I4 (L + 10) x1) fun I6 => some (.inl v5, I6)
set_option maxHeartbeats 4000000 in
theorem c_X8_oil {Ω : JO} {I : JI} {S : JS} {Q : JQ} {c : Nat} {L : Nat} {P : Nat} {x1 : Int32} {r : (Int32) ⊕ String} {J : JI} (hc : Is8 S c L P) (hT : sT S = none) (h : s_X8_oil I c L P x1 = some (r, J)) (hQ : Q (ttI r) J S) : Call Ω m_X8_oil [.ref c, .int x1] I S Q := by
  refine call_of (by decide +kernel) rfl (Nat.le_of_ble_eq_true rfl) ?_
  change AA Ω m_X8_oil (FQ Ω m_X8_oil Q) 0 0 0 [(0, .ref c), (1, .int x1)] [] I S
  unfold s_X8_oil at h
  refine r_aload_n (pc' := 1) dX8_oil_0 rfl 0 rfl rfl ?_
  refine r_iload_n (pc' := 2) dX8_oil_1 rfl 1 rfl rfl ?_
  obtain ⟨o2, I1, eo2, hx, h⟩ := bx_e h
  refine r_callV1 (pc' := 5) (k' := 2) (n' := 12) dX8_oil_2 mb_X8_requireHarness mi_X8_requireHarness hc.o (by decide) rfl lk_X8_126 rfl rfl rfl (Nat.le_of_ble_eq_true rfl) rfl (c_X8_requireHarness hc hT eo2 ?_)
  rcases o2 with v3 | v3
  rotate_left
  · have hx := hx v3 rfl
    cases hx
    exact cpX (ax_out rfl (by decide) (by decide) hQ)
  refine cpV ?_
  have h := h v3 rfl
  refine r_aload_n (pc' := 6) dX8_oil_5 rfl 0 rfl rfl ?_
  refine r_getO (pc' := 9) dX8_oil_6 fa_X8_26 hc.o rfl hc.r2 rfl ?_
  refine r_aload_n (pc' := 10) dX8_oil_9 rfl 0 rfl rfl ?_
  refine r_getO (pc' := 13) dX8_oil_10 fa_X8_43 hc.o rfl hc.r5 rfl ?_
  refine r_getO (pc' := 16) dX8_oil_13 fa_X8_138 hc.c5.o rfl hc.c5.r11 rfl ?_
  obtain ⟨I4, eI4, h⟩ := bd_e h
  refine r_callV1 (pc' := 19) (k' := 2) (n' := 12) dX8_oil_16 mb_X1_remember mi_X1_remember hc.c2.o (by decide) rfl lk_X8_295 rfl rfl rfl (Nat.le_of_ble_eq_true rfl) rfl (c_X1_remember hc.c2 hc.c5.c11 eI4 (cpV ?_))
  refine r_aload_n (pc' := 20) dX8_oil_19 rfl 0 rfl rfl ?_
  refine r_getO (pc' := 23) dX8_oil_20 fa_X8_43 hc.o rfl hc.r5 rfl ?_
  refine r_getO (pc' := 26) dX8_oil_23 fa_X8_138 hc.c5.o rfl hc.c5.r11 rfl ?_
  refine r_getO (pc' := 29) dX8_oil_26 fa_X8_154 hc.c5.c11.o rfl hc.c5.c11.r6 rfl ?_
  refine r_iload_n (pc' := 30) dX8_oil_29 rfl 1 rfl rfl ?_
  refine r_callS2 (pc' := 33) (k' := 2) (n' := 12) dX8_oil_30 mb_X8_at ms_X8_at lk_X8_119 rfl rfl rfl (Nat.le_of_ble_eq_true rfl) rfl (c_X8_at hc.c5.c11.c6 (by decide) (cpI ?_))
  refine r_istore_n (pc' := 34) (lv' := [(2, _), (0, _), (1, _)]) dX8_oil_33 rfl (by decide) rfl rfl ?_
  have h := lx_e h
  refine r_aload_n (pc' := 35) dX8_oil_34 rfl 1 rfl rfl ?_
  refine r_getO (pc' := 38) dX8_oil_35 fa_X8_43 hc.o rfl hc.r5 rfl ?_
  refine r_getO (pc' := 41) dX8_oil_38 fa_X8_138 hc.c5.o rfl hc.c5.r11 rfl ?_
  refine r_iload_n (pc' := 42) dX8_oil_41 rfl 2 rfl rfl ?_
  refine r_callV1 (pc' := 45) (k' := 2) (n' := 12) dX8_oil_42 mb_X7_oilHarness mi_X7_oilHarness hc.c5.c11.o (by decide) rfl lk_X8_313 rfl rfl rfl (Nat.le_of_ble_eq_true rfl) rfl (c_X7_oilHarness hc.c5.c11 (cpV ?_))
  have h := lx_e h
  refine r_iload_n (pc' := 46) dX8_oil_45 rfl 0 rfl rfl ?_
  cases h
  exact r_iret dX8_oil_46 rfl (by decide) (by decide) hQ
set_option maxHeartbeats 4000000 in
theorem fr_X8_oil {I : JI} {c : Nat} {L : Nat} {P : Nat} {x1 : Int32} {r : (Int32) ⊕ String} {J : JI} {z : Nat} (h : s_X8_oil I c L P x1 = some (r, J)) (hzc : z < c ∨ c + 104 ≤ z) (hzL : z < L ∨ L + 24 ≤ z) (hzP : z < P ∨ P + 24 ≤ z) : J z = I z := by
  unfold s_X8_oil at h
  obtain ⟨o1, I1, e1, hx, h⟩ := bx_e h
  rcases o1 with y1 | y1
  rotate_left
  · have hx := hx _ rfl
    cases hx
    exact ((fr_X8_requireHarness e1 (by omega) (by omega) (by omega)).trans rfl)
  have h := h _ rfl
  obtain ⟨I4, e2, h⟩ := bd_e h
  have h := lx_e h
  have h := lx_e h
  cases h
  exact ((fr_x7_oilHarness (by omega)).trans ((fr_X1_remember e2 (by omega) (by omega)).trans ((fr_X8_requireHarness e1 (by omega) (by omega) (by omega)).trans rfl)))
noncomputable def s_X8_undoCount (I : JI) (c L P : Nat) : Int32 :=
  (I (c + 30) 2)
set_option maxHeartbeats 4000000 in
theorem c_X8_undoCount {Ω : JO} {I : JI} {S : JS} {Q : JQ} {c : Nat} {L : Nat} {P : Nat} {r : Int32} (hc : Is8 S c L P) (h : s_X8_undoCount I c L P = r) (hQ : Q (.inl (some (.int r))) I S) : Call Ω m_X8_undoCount [.ref c] I S Q := by
  refine call_of (by decide +kernel) rfl (Nat.le_of_ble_eq_true rfl) ?_
  change AA Ω m_X8_undoCount (FQ Ω m_X8_undoCount Q) 0 0 0 [(0, .ref c)] [] I S
  unfold s_X8_undoCount at h
  refine r_aload_n (pc' := 1) dX8_undoCount_0 rfl 0 rfl rfl ?_
  refine r_getO (pc' := 4) dX8_undoCount_1 fa_X8_26 hc.o rfl hc.r2 rfl ?_
  refine r_getI (pc' := 7) dX8_undoCount_4 fa_X8_330 hc.c2.o rfl rfl ?_
  subst h
  exact r_iret dX8_undoCount_7 rfl (by decide) (by decide) hQ
noncomputable def s_X8_saveState (I : JI) (c L P : Nat) (x1 : Int32) : Option (((Int32) ⊕ String) × JI) :=
  bx (s_X8_requireLoaded I c L P) fun v3 I1 => bx (s_X8_requireIndex I1 x1 2) fun v6 I4 => if x1 = 0 then (gd (I4 (L + 10) 5 = 0 ∨ I4 (L + 10) 5 = 1) <| lx (x7_copyFrom I4 ((c + 88) + 1) (L + 10)) fun I12 => lx (stI I12 (c + 88) 1 1) fun I13 => some (.inl (I13 (L + 10) 3), I13)) else (gd (I4 (L + 10) 5 = 0 ∨ I4 (L + 10) 5 = 1) <| lx (x7_copyFrom I4 ((c + 96) + 1) (L + 10)) fun I9 => lx (stI I9 (c + 96) 1 1) fun I10 => some (.inl (I10 (L + 10) 3), I10))
set_option maxHeartbeats 4000000 in
theorem c_X8_saveState {Ω : JO} {I : JI} {S : JS} {Q : JQ} {c : Nat} {L : Nat} {P : Nat} {x1 : Int32} {r : (Int32) ⊕ String} {J : JI} (hc : Is8 S c L P) (hT : sT S = none) (h : s_X8_saveState I c L P x1 = some (r, J)) (hQ : Q (ttI r) J S) : Call Ω m_X8_saveState [.ref c, .int x1] I S Q := by
  refine call_of (by decide +kernel) rfl (Nat.le_of_ble_eq_true rfl) ?_
  change AA Ω m_X8_saveState (FQ Ω m_X8_saveState Q) 0 0 0 [(0, .ref c), (1, .int x1)] [] I S
  unfold s_X8_saveState at h
  refine r_aload_n (pc' := 1) dX8_saveState_0 rfl 0 rfl rfl ?_
  obtain ⟨o2, I1, eo2, hx, h⟩ := bx_e h
  refine r_callV0 (pc' := 4) (k' := 1) (n' := 6) dX8_saveState_1 mb_X8_requireLoaded mi_X8_requireLoaded hc.o (by decide) rfl lk_X8_103 rfl rfl rfl (Nat.le_of_ble_eq_true rfl) rfl (c_X8_requireLoaded hc hT eo2 ?_)
  rcases o2 with v3 | v3
  rotate_left
  · have hx := hx v3 rfl
    cases hx
    exact cpX (ax_out rfl (by decide) (by decide) hQ)
  refine cpV ?_
  have h := h v3 rfl
  refine r_iload_n (pc' := 5) dX8_saveState_4 rfl 1 rfl rfl ?_
  refine r_iconst (pc' := 6) (v := 2) dX8_saveState_5 (by decide) rfl ?_
  obtain ⟨o5, I4, eo5, hx, h⟩ := bx_e h
  refine r_callS2 (pc' := 9) (k' := 2) (n' := 12) dX8_saveState_6 mb_X8_requireIndex ms_X8_requireIndex lk_X8_175 rfl rfl rfl (Nat.le_of_ble_eq_true rfl) rfl (c_X8_requireIndex hT eo5 ?_)
  rcases o5 with v6 | v6
  rotate_left
  · have hx := hx v6 rfl
    cases hx
    exact cpX (ax_out rfl (by decide) (by decide) hQ)
  refine cpV ?_
  have h := h v6 rfl
  refine r_iload_n (pc' := 10) dX8_saveState_9 rfl 1 rfl rfl ?_
  refine r_if_ne (tgt := 20) (pc' := 13) dX8_saveState_10 rfl rfl (fun h7 => ?_) (fun h7 => ?_)
  · have h := ifn h7 h
    refine r_aload_n (pc' := 21) dX8_saveState_20 rfl 0 rfl rfl ?_
    refine r_getO (pc' := 24) dX8_saveState_21 fa_X8_37 hc.o rfl hc.r4 rfl ?_
    refine r_astore_n (pc' := 25) (lv' := [(2, _), (0, _), (1, _)]) dX8_saveState_24 rfl (by decide) rfl rfl ?_
    refine r_aload_n (pc' := 26) dX8_saveState_25 rfl 0 rfl rfl ?_
    refine r_getO (pc' := 29) dX8_saveState_26 fa_X8_333 hc.c4.o rfl hc.c4.r0 rfl ?_
    refine r_aload_n (pc' := 30) dX8_saveState_29 rfl 1 rfl rfl ?_
    refine r_getO (pc' := 33) dX8_saveState_30 fa_X8_43 hc.o rfl hc.r5 rfl ?_
    refine r_getO (pc' := 36) dX8_saveState_33 fa_X8_138 hc.c5.o rfl hc.c5.r11 rfl ?_
    obtain ⟨g8, h⟩ := gd_e h
    refine r_callV1 (pc' := 39) (k' := 2) (n' := 12) dX8_saveState_36 mb_X7_copyFrom mi_X7_copyFrom hc.c4.c0.o (by decide) rfl lk_X8_258 rfl rfl rfl (Nat.le_of_ble_eq_true rfl) rfl (c_X7_copyFrom g8 hc.c4.c0 hc.c5.c11 (cpV ?_))
    have h := lx_e h
    refine r_aload_n (pc' := 40) dX8_saveState_39 rfl 0 rfl rfl ?_
    refine r_iconst (pc' := 41) (v := 1) dX8_saveState_40 (by decide) rfl ?_
    refine r_putZ (pc' := 44) dX8_saveState_41 fa_X8_85 hc.c4.o rfl (by decide) rfl ?_
    have h := lx_e h
    refine r_aload_n (pc' := 45) dX8_saveState_44 rfl 1 rfl rfl ?_
    refine r_getO (pc' := 48) dX8_saveState_45 fa_X8_43 hc.o rfl hc.r5 rfl ?_
    refine r_getO (pc' := 51) dX8_saveState_48 fa_X8_138 hc.c5.o rfl hc.c5.r11 rfl ?_
    refine r_getI (pc' := 54) dX8_saveState_51 fa_X8_196 hc.c5.c11.o rfl rfl ?_
    cases h
    exact r_iret dX8_saveState_54 rfl (by decide) (by decide) hQ
  · have h := ifp h7 h
    refine r_aload_n (pc' := 14) dX8_saveState_13 rfl 0 rfl rfl ?_
    refine r_getO (pc' := 17) dX8_saveState_14 fa_X8_33 hc.o rfl hc.r3 rfl ?_
    refine r_goto (tgt := 24) dX8_saveState_17 rfl ?_
    refine r_astore_n (pc' := 25) (lv' := [(2, _), (0, _), (1, _)]) dX8_saveState_24 rfl (by decide) rfl rfl ?_
    refine r_aload_n (pc' := 26) dX8_saveState_25 rfl 0 rfl rfl ?_
    refine r_getO (pc' := 29) dX8_saveState_26 fa_X8_333 hc.c3.o rfl hc.c3.r0 rfl ?_
    refine r_aload_n (pc' := 30) dX8_saveState_29 rfl 1 rfl rfl ?_
    refine r_getO (pc' := 33) dX8_saveState_30 fa_X8_43 hc.o rfl hc.r5 rfl ?_
    refine r_getO (pc' := 36) dX8_saveState_33 fa_X8_138 hc.c5.o rfl hc.c5.r11 rfl ?_
    obtain ⟨g11, h⟩ := gd_e h
    refine r_callV1 (pc' := 39) (k' := 2) (n' := 12) dX8_saveState_36 mb_X7_copyFrom mi_X7_copyFrom hc.c3.c0.o (by decide) rfl lk_X8_258 rfl rfl rfl (Nat.le_of_ble_eq_true rfl) rfl (c_X7_copyFrom g11 hc.c3.c0 hc.c5.c11 (cpV ?_))
    have h := lx_e h
    refine r_aload_n (pc' := 40) dX8_saveState_39 rfl 0 rfl rfl ?_
    refine r_iconst (pc' := 41) (v := 1) dX8_saveState_40 (by decide) rfl ?_
    refine r_putZ (pc' := 44) dX8_saveState_41 fa_X8_85 hc.c3.o rfl (by decide) rfl ?_
    have h := lx_e h
    refine r_aload_n (pc' := 45) dX8_saveState_44 rfl 1 rfl rfl ?_
    refine r_getO (pc' := 48) dX8_saveState_45 fa_X8_43 hc.o rfl hc.r5 rfl ?_
    refine r_getO (pc' := 51) dX8_saveState_48 fa_X8_138 hc.c5.o rfl hc.c5.r11 rfl ?_
    refine r_getI (pc' := 54) dX8_saveState_51 fa_X8_196 hc.c5.c11.o rfl rfl ?_
    cases h
    exact r_iret dX8_saveState_54 rfl (by decide) (by decide) hQ
set_option maxHeartbeats 4000000 in
theorem fr_X8_saveState {I : JI} {c : Nat} {L : Nat} {P : Nat} {x1 : Int32} {r : (Int32) ⊕ String} {J : JI} {z : Nat} (h : s_X8_saveState I c L P x1 = some (r, J)) (hzc : z < c ∨ c + 104 ≤ z) (hzL : z < L ∨ L + 24 ≤ z) (hzP : z < P ∨ P + 24 ≤ z) : J z = I z := by
  unfold s_X8_saveState at h
  obtain ⟨o1, I1, e1, hx, h⟩ := bx_e h
  rcases o1 with y1 | y1
  rotate_left
  · have hx := hx _ rfl
    cases hx
    exact ((fr_X8_requireLoaded e1 (by omega) (by omega) (by omega)).trans rfl)
  have h := h _ rfl
  obtain ⟨o2, I4, e2, hx, h⟩ := bx_e h
  rcases o2 with y2 | y2
  rotate_left
  · have hx := hx _ rfl
    cases hx
    exact ((fr_X8_requireIndex e2 ).trans ((fr_X8_requireLoaded e1 (by omega) (by omega) (by omega)).trans rfl))
  have h := h _ rfl
  rcases if_e h with h | h
  · obtain ⟨g3, h⟩ := gd_e h
    have h := lx_e h
    have h := lx_e h
    cases h
    exact ((fr_stI (by omega)).trans ((fr_x7_copyFrom (by omega)).trans ((fr_X8_requireIndex e2 ).trans ((fr_X8_requireLoaded e1 (by omega) (by omega) (by omega)).trans rfl))))
  · obtain ⟨g4, h⟩ := gd_e h
    have h := lx_e h
    have h := lx_e h
    cases h
    exact ((fr_stI (by omega)).trans ((fr_x7_copyFrom (by omega)).trans ((fr_X8_requireIndex e2 ).trans ((fr_X8_requireLoaded e1 (by omega) (by omega) (by omega)).trans rfl))))
noncomputable def s_X8_restoreState (I : JI) (c L P : Nat) (x1 : Int32) : Option (((Int32) ⊕ String) × JI) :=
  bx (s_X8_requireIndex I x1 2) fun v3 I1 => if x1 = 0 then (gd ((I1 (c + 88) 1) = 0 ∨ (I1 (c + 88) 1) = 1) <| if (nz (I1 (c + 88) 1)) = true then (gd (I1 ((c + 88) + 1) 5 = 0 ∨ I1 ((c + 88) + 1) 5 = 1) <| lx (x7_copyFrom I1 (L + 10) ((c + 88) + 1)) fun I13 => lx (s_X1_forgetAll I13 (c + 30)) fun I14 => some (.inl (I14 (L + 10) 3), I14)) else (some (.inr "java/lang/IllegalStateException", I1))) else (gd ((I1 (c + 96) 1) = 0 ∨ (I1 (c + 96) 1) = 1) <| if (nz (I1 (c + 96) 1)) = true then (gd (I1 ((c + 96) + 1) 5 = 0 ∨ I1 ((c + 96) + 1) 5 = 1) <| lx (x7_copyFrom I1 (L + 10) ((c + 96) + 1)) fun I8 => lx (s_X1_forgetAll I8 (c + 30)) fun I9 => some (.inl (I9 (L + 10) 3), I9)) else (some (.inr "java/lang/IllegalStateException", I1)))
set_option maxHeartbeats 4000000 in
theorem c_X8_restoreState {Ω : JO} {I : JI} {S : JS} {Q : JQ} {c : Nat} {L : Nat} {P : Nat} {x1 : Int32} {r : (Int32) ⊕ String} {J : JI} (hc : Is8 S c L P) (hT : sT S = none) (h : s_X8_restoreState I c L P x1 = some (r, J)) (hQ : Q (ttI r) J S) : Call Ω m_X8_restoreState [.ref c, .int x1] I S Q := by
  refine call_of (by decide +kernel) rfl (Nat.le_of_ble_eq_true rfl) ?_
  change AA Ω m_X8_restoreState (FQ Ω m_X8_restoreState Q) 0 0 0 [(0, .ref c), (1, .int x1)] [] I S
  unfold s_X8_restoreState at h
  refine r_iload_n (pc' := 1) dX8_restoreState_0 rfl 1 rfl rfl ?_
  refine r_iconst (pc' := 2) (v := 2) dX8_restoreState_1 (by decide) rfl ?_
  obtain ⟨o2, I1, eo2, hx, h⟩ := bx_e h
  refine r_callS2 (pc' := 5) (k' := 1) (n' := 6) dX8_restoreState_2 mb_X8_requireIndex ms_X8_requireIndex lk_X8_175 rfl rfl rfl (Nat.le_of_ble_eq_true rfl) rfl (c_X8_requireIndex hT eo2 ?_)
  rcases o2 with v3 | v3
  rotate_left
  · have hx := hx v3 rfl
    cases hx
    exact cpX (ax_out rfl (by decide) (by decide) hQ)
  refine cpV ?_
  have h := h v3 rfl
  refine r_iload_n (pc' := 6) dX8_restoreState_5 rfl 1 rfl rfl ?_
  refine r_if_ne (tgt := 16) (pc' := 9) dX8_restoreState_6 rfl rfl (fun h4 => ?_) (fun h4 => ?_)
  · have h := ifn h4 h
    refine r_aload_n (pc' := 17) dX8_restoreState_16 rfl 0 rfl rfl ?_
    refine r_getO (pc' := 20) dX8_restoreState_17 fa_X8_37 hc.o rfl hc.r4 rfl ?_
    refine r_astore_n (pc' := 21) (lv' := [(2, _), (0, _), (1, _)]) dX8_restoreState_20 rfl (by decide) rfl rfl ?_
    refine r_aload_n (pc' := 22) dX8_restoreState_21 rfl 0 rfl rfl ?_
    obtain ⟨g5, h⟩ := gd_e h
    refine r_getZ (pc' := 25) dX8_restoreState_22 fa_X8_85 hc.c4.o rfl g5 rfl ?_
    refine r_if_ne (tgt := 39) (pc' := 28) dX8_restoreState_25 rfl rfl (fun h6 => ?_) (fun h6 => ?_)
    · have h := ifp (zb_p0 h6) h
      refine r_aload_n (pc' := 40) dX8_restoreState_39 rfl 1 rfl rfl ?_
      refine r_getO (pc' := 43) dX8_restoreState_40 fa_X8_43 hc.o rfl hc.r5 rfl ?_
      refine r_getO (pc' := 46) dX8_restoreState_43 fa_X8_138 hc.c5.o rfl hc.c5.r11 rfl ?_
      refine r_aload_n (pc' := 47) dX8_restoreState_46 rfl 0 rfl rfl ?_
      refine r_getO (pc' := 50) dX8_restoreState_47 fa_X8_333 hc.c4.o rfl hc.c4.r0 rfl ?_
      obtain ⟨g7, h⟩ := gd_e h
      refine r_callV1 (pc' := 53) (k' := 1) (n' := 6) dX8_restoreState_50 mb_X7_copyFrom mi_X7_copyFrom hc.c5.c11.o (by decide) rfl lk_X8_258 rfl rfl rfl (Nat.le_of_ble_eq_true rfl) rfl (c_X7_copyFrom g7 hc.c5.c11 hc.c4.c0 (cpV ?_))
      have h := lx_e h
      refine r_aload_n (pc' := 54) dX8_restoreState_53 rfl 1 rfl rfl ?_
      refine r_getO (pc' := 57) dX8_restoreState_54 fa_X8_26 hc.o rfl hc.r2 rfl ?_
      refine r_callV0 (pc' := 60) (k' := 1) (n' := 6) dX8_restoreState_57 mb_X1_forgetAll mi_X1_forgetAll hc.c2.o (by decide) rfl lk_X8_82 rfl rfl rfl (Nat.le_of_ble_eq_true rfl) rfl (c_X1_forgetAll hc.c2 rfl (cpV ?_))
      have h := lx_e h
      refine r_aload_n (pc' := 61) dX8_restoreState_60 rfl 1 rfl rfl ?_
      refine r_getO (pc' := 64) dX8_restoreState_61 fa_X8_43 hc.o rfl hc.r5 rfl ?_
      refine r_getO (pc' := 67) dX8_restoreState_64 fa_X8_138 hc.c5.o rfl hc.c5.r11 rfl ?_
      refine r_getI (pc' := 70) dX8_restoreState_67 fa_X8_196 hc.c5.c11.o rfl rfl ?_
      cases h
      exact r_iret dX8_restoreState_70 rfl (by decide) (by decide) hQ
    · have h := ifn (zb_n0 h6) h
      cases h
      exact r_throwW dX8_restoreState_28 dX8_restoreState_31 dX8_restoreState_32 dX8_restoreState_35 dX8_restoreState_38 th_X8_restoreState_28 rfl (by decide) (Nat.le_of_ble_eq_true rfl) (by decide) (by decide) hT hQ
  · have h := ifp h4 h
    refine r_aload_n (pc' := 10) dX8_restoreState_9 rfl 0 rfl rfl ?_
    refine r_getO (pc' := 13) dX8_restoreState_10 fa_X8_33 hc.o rfl hc.r3 rfl ?_
    refine r_goto (tgt := 20) dX8_restoreState_13 rfl ?_
    refine r_astore_n (pc' := 21) (lv' := [(2, _), (0, _), (1, _)]) dX8_restoreState_20 rfl (by decide) rfl rfl ?_
    refine r_aload_n (pc' := 22) dX8_restoreState_21 rfl 0 rfl rfl ?_
    obtain ⟨g10, h⟩ := gd_e h
    refine r_getZ (pc' := 25) dX8_restoreState_22 fa_X8_85 hc.c3.o rfl g10 rfl ?_
    refine r_if_ne (tgt := 39) (pc' := 28) dX8_restoreState_25 rfl rfl (fun h11 => ?_) (fun h11 => ?_)
    · have h := ifp (zb_p0 h11) h
      refine r_aload_n (pc' := 40) dX8_restoreState_39 rfl 1 rfl rfl ?_
      refine r_getO (pc' := 43) dX8_restoreState_40 fa_X8_43 hc.o rfl hc.r5 rfl ?_
      refine r_getO (pc' := 46) dX8_restoreState_43 fa_X8_138 hc.c5.o rfl hc.c5.r11 rfl ?_
      refine r_aload_n (pc' := 47) dX8_restoreState_46 rfl 0 rfl rfl ?_
      refine r_getO (pc' := 50) dX8_restoreState_47 fa_X8_333 hc.c3.o rfl hc.c3.r0 rfl ?_
      obtain ⟨g12, h⟩ := gd_e h
      refine r_callV1 (pc' := 53) (k' := 1) (n' := 6) dX8_restoreState_50 mb_X7_copyFrom mi_X7_copyFrom hc.c5.c11.o (by decide) rfl lk_X8_258 rfl rfl rfl (Nat.le_of_ble_eq_true rfl) rfl (c_X7_copyFrom g12 hc.c5.c11 hc.c3.c0 (cpV ?_))
      have h := lx_e h
      refine r_aload_n (pc' := 54) dX8_restoreState_53 rfl 1 rfl rfl ?_
      refine r_getO (pc' := 57) dX8_restoreState_54 fa_X8_26 hc.o rfl hc.r2 rfl ?_
      refine r_callV0 (pc' := 60) (k' := 1) (n' := 6) dX8_restoreState_57 mb_X1_forgetAll mi_X1_forgetAll hc.c2.o (by decide) rfl lk_X8_82 rfl rfl rfl (Nat.le_of_ble_eq_true rfl) rfl (c_X1_forgetAll hc.c2 rfl (cpV ?_))
      have h := lx_e h
      refine r_aload_n (pc' := 61) dX8_restoreState_60 rfl 1 rfl rfl ?_
      refine r_getO (pc' := 64) dX8_restoreState_61 fa_X8_43 hc.o rfl hc.r5 rfl ?_
      refine r_getO (pc' := 67) dX8_restoreState_64 fa_X8_138 hc.c5.o rfl hc.c5.r11 rfl ?_
      refine r_getI (pc' := 70) dX8_restoreState_67 fa_X8_196 hc.c5.c11.o rfl rfl ?_
      cases h
      exact r_iret dX8_restoreState_70 rfl (by decide) (by decide) hQ
    · have h := ifn (zb_n0 h11) h
      cases h
      exact r_throwW dX8_restoreState_28 dX8_restoreState_31 dX8_restoreState_32 dX8_restoreState_35 dX8_restoreState_38 th_X8_restoreState_28 rfl (by decide) (Nat.le_of_ble_eq_true rfl) (by decide) (by decide) hT hQ
set_option maxHeartbeats 4000000 in
theorem fr_X8_restoreState {I : JI} {c : Nat} {L : Nat} {P : Nat} {x1 : Int32} {r : (Int32) ⊕ String} {J : JI} {z : Nat} (h : s_X8_restoreState I c L P x1 = some (r, J)) (hzc : z < c ∨ c + 104 ≤ z) (hzL : z < L ∨ L + 24 ≤ z) (hzP : z < P ∨ P + 24 ≤ z) : J z = I z := by
  unfold s_X8_restoreState at h
  obtain ⟨o1, I1, e1, hx, h⟩ := bx_e h
  rcases o1 with y1 | y1
  rotate_left
  · have hx := hx _ rfl
    cases hx
    exact ((fr_X8_requireIndex e1 ).trans rfl)
  have h := h _ rfl
  rcases if_e h with h | h
  · obtain ⟨g2, h⟩ := gd_e h
    rcases if_e h with h | h
    · obtain ⟨g3, h⟩ := gd_e h
      have h := lx_e h
      have h := lx_e h
      cases h
      exact ((fr_X1_forgetAll (by omega)).trans ((fr_x7_copyFrom (by omega)).trans ((fr_X8_requireIndex e1 ).trans rfl)))
    · cases h
      exact ((fr_X8_requireIndex e1 ).trans rfl)
  · obtain ⟨g4, h⟩ := gd_e h
    rcases if_e h with h | h
    · obtain ⟨g5, h⟩ := gd_e h
      have h := lx_e h
      have h := lx_e h
      cases h
      exact ((fr_X1_forgetAll (by omega)).trans ((fr_x7_copyFrom (by omega)).trans ((fr_X8_requireIndex e1 ).trans rfl)))
    · cases h
      exact ((fr_X8_requireIndex e1 ).trans rfl)
