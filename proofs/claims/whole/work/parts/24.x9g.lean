noncomputable def s_X9_rowCount (I : JI) (m : Nat) : Option (Int32 × JI) :=
  bd2 (s_X9_look I m 5) fun v2 I1 => some (v2, I1)
set_option maxHeartbeats 4000000 in
theorem c_X9_rowCount {Ω : JO} {I : JI} {S : JS} {Q : JQ} {m : Nat} {r : Int32} {J : JI} (hm : Is9 S m) (h : s_X9_rowCount I m = some (r, J)) (hQ : Q (.inl (some (.int r))) J S) : Call Ω m_X9_rowCount [.ref m] I S Q := by
  refine call_of (by decide +kernel) rfl (Nat.le_of_ble_eq_true rfl) ?_
  change AA Ω m_X9_rowCount (FQ Ω m_X9_rowCount Q) 0 0 0 [(0, .ref m)] [] I S
  unfold s_X9_rowCount at h
  refine r_aload_n (pc' := 1) dX9_rowCount_0 rfl 0 rfl rfl ?_
  refine r_iconst (pc' := 2) (v := 5) dX9_rowCount_1 (by decide) rfl ?_
  obtain ⟨v2, I1, ev2, h⟩ := bd2_e h
  refine r_callV1 (pc' := 5) (k' := 0) (n' := 0) dX9_rowCount_2 mb_X9_look mi_X9_look hm.o (by decide) rfl lk_X9_412 rfl rfl rfl (Nat.le_of_ble_eq_true rfl) rfl (c_X9_look hm ev2 (cpI ?_))
  cases h
  exact r_iret dX9_rowCount_5 rfl (by decide) (by decide) hQ
set_option maxHeartbeats 4000000 in
theorem fr_X9_rowCount {I : JI} {m : Nat} {r : Int32} {J : JI} {z : Nat} (h : s_X9_rowCount I m = some (r, J)) (hz_m : z ≠ m) : J z = I z := by
  unfold s_X9_rowCount at h
  obtain ⟨v2, I1, e1, h⟩ := bd2_e h
  cases h
  exact ((fr_X9_look e1 (by omega)).trans rfl)
set_option maxHeartbeats 4000000 in
theorem ff_X9_rowCount {I : JI} {m : Nat} {r : Int32} {J : JI} {k : Nat} (h : s_X9_rowCount I m = some (r, J)) (hk0 : k ≠ 0) : J m k = I m k := by
  unfold s_X9_rowCount at h
  obtain ⟨v2, I1, e1, h⟩ := bd2_e h
  cases h
  exact ((ff_X9_look e1 hk0).trans rfl)
noncomputable def s_X9_cellColour (I : JI) (m : Nat) (x1 : Int32) (x2 : Int32) : Option (Int32 × JI) :=
  bd2 (s_X9_mayCell I m x1 x2) fun z2 I1 => if z2 = true then (bd (s_X9_cellOf I1 m x1 x2) fun v4 => some ((v4 / 2), I1)) else (some (0, I1))
set_option maxHeartbeats 4000000 in
theorem c_X9_cellColour {Ω : JO} {I : JI} {S : JS} {Q : JQ} {m : Nat} {x1 : Int32} {x2 : Int32} {r : Int32} {J : JI} (hm : Is9 S m) (h : s_X9_cellColour I m x1 x2 = some (r, J)) (hQ : Q (.inl (some (.int r))) J S) : Call Ω m_X9_cellColour [.ref m, .int x1, .int x2] I S Q := by
  refine call_of (by decide +kernel) rfl (Nat.le_of_ble_eq_true rfl) ?_
  change AA Ω m_X9_cellColour (FQ Ω m_X9_cellColour Q) 0 0 0 [(0, .ref m), (1, .int x1), (2, .int x2)] [] I S
  unfold s_X9_cellColour at h
  refine r_aload_n (pc' := 1) dX9_cellColour_0 rfl 0 rfl rfl ?_
  refine r_iload_n (pc' := 2) dX9_cellColour_1 rfl 1 rfl rfl ?_
  refine r_iload_n (pc' := 3) dX9_cellColour_2 rfl 2 rfl rfl ?_
  obtain ⟨z2, I1, ez2, h⟩ := bd2_e h
  refine r_callV2 (pc' := 6) (k' := 0) (n' := 0) dX9_cellColour_3 mb_X9_mayCell mi_X9_mayCell hm.o (by decide) rfl lk_X9_439 rfl rfl rfl (Nat.le_of_ble_eq_true rfl) rfl (c_X9_mayCell hm ez2 (cpI ?_))
  refine r_if_eq (tgt := 20) (pc' := 9) dX9_cellColour_6 rfl rfl (fun h3 => ?_) (fun h3 => ?_)
  · have h := ifn (zb_n0 h3) h
    refine r_iconst (pc' := 21) (v := 0) dX9_cellColour_20 (by decide) rfl ?_
    cases h
    exact r_iret dX9_cellColour_21 rfl (by decide) (by decide) hQ
  · have h := ifp (zb_p0 h3) h
    refine r_aload_n (pc' := 10) dX9_cellColour_9 rfl 0 rfl rfl ?_
    refine r_iload_n (pc' := 11) dX9_cellColour_10 rfl 1 rfl rfl ?_
    refine r_iload_n (pc' := 12) dX9_cellColour_11 rfl 2 rfl rfl ?_
    obtain ⟨v4, ev4, h⟩ := bd_e h
    refine r_callV2 (pc' := 15) (k' := 0) (n' := 0) dX9_cellColour_12 mb_X9_cellOf mi_X9_cellOf hm.o (by decide) rfl lk_X9_375 rfl rfl rfl (Nat.le_of_ble_eq_true rfl) rfl (c_X9_cellOf hm ev4 (cpI ?_))
    refine r_iconst (pc' := 16) (v := 2) dX9_cellColour_15 (by decide) rfl ?_
    refine r_idiv (pc' := 17) dX9_cellColour_16 (by decide) rfl ?_
    refine r_goto (tgt := 21) dX9_cellColour_17 rfl ?_
    cases h
    exact r_iret dX9_cellColour_21 rfl (by decide) (by decide) hQ
set_option maxHeartbeats 4000000 in
theorem fr_X9_cellColour {I : JI} {m : Nat} {x1 : Int32} {x2 : Int32} {r : Int32} {J : JI} {z : Nat} (h : s_X9_cellColour I m x1 x2 = some (r, J)) (hz_m : z ≠ m) : J z = I z := by
  unfold s_X9_cellColour at h
  obtain ⟨z2, I1, e1, h⟩ := bd2_e h
  rcases if_e h with h | h
  · obtain ⟨o2, e2, h⟩ := bd_e h
    cases h
    exact ((fr_X9_mayCell e1 (by omega)).trans rfl)
  · cases h
    exact ((fr_X9_mayCell e1 (by omega)).trans rfl)
set_option maxHeartbeats 4000000 in
theorem ff_X9_cellColour {I : JI} {m : Nat} {x1 : Int32} {x2 : Int32} {r : Int32} {J : JI} {k : Nat} (h : s_X9_cellColour I m x1 x2 = some (r, J)) (hk0 : k ≠ 0) : J m k = I m k := by
  unfold s_X9_cellColour at h
  obtain ⟨z2, I1, e1, h⟩ := bd2_e h
  rcases if_e h with h | h
  · obtain ⟨o2, e2, h⟩ := bd_e h
    cases h
    exact ((ff_X9_mayCell e1 hk0).trans rfl)
  · cases h
    exact ((ff_X9_mayCell e1 hk0).trans rfl)
noncomputable def s_X9_showsWarp (I : JI) (m : Nat) (x1 : Int32) (x2 : Int32) : Option (Bool × JI) :=
  bd2 (s_X9_mayCell I m x1 x2) fun z2 I1 => if z2 = true then (bd (s_X9_shows I1 m x1 x2) fun z4 => if z4 = true then (some (true, I1)) else (some (false, I1))) else (some (false, I1))
set_option maxHeartbeats 4000000 in
theorem c_X9_showsWarp {Ω : JO} {I : JI} {S : JS} {Q : JQ} {m : Nat} {x1 : Int32} {x2 : Int32} {r : Bool} {J : JI} (hm : Is9 S m) (h : s_X9_showsWarp I m x1 x2 = some (r, J)) (hQ : Q (.inl (some (.int (zb r)))) J S) : Call Ω m_X9_showsWarp [.ref m, .int x1, .int x2] I S Q := by
  refine call_of (by decide +kernel) rfl (Nat.le_of_ble_eq_true rfl) ?_
  change AA Ω m_X9_showsWarp (FQ Ω m_X9_showsWarp Q) 0 0 0 [(0, .ref m), (1, .int x1), (2, .int x2)] [] I S
  unfold s_X9_showsWarp at h
  refine r_aload_n (pc' := 1) dX9_showsWarp_0 rfl 0 rfl rfl ?_
  refine r_iload_n (pc' := 2) dX9_showsWarp_1 rfl 1 rfl rfl ?_
  refine r_iload_n (pc' := 3) dX9_showsWarp_2 rfl 2 rfl rfl ?_
  obtain ⟨z2, I1, ez2, h⟩ := bd2_e h
  refine r_callV2 (pc' := 6) (k' := 0) (n' := 0) dX9_showsWarp_3 mb_X9_mayCell mi_X9_mayCell hm.o (by decide) rfl lk_X9_439 rfl rfl rfl (Nat.le_of_ble_eq_true rfl) rfl (c_X9_mayCell hm ez2 (cpI ?_))
  refine r_if_eq (tgt := 22) (pc' := 9) dX9_showsWarp_6 rfl rfl (fun h3 => ?_) (fun h3 => ?_)
  · have h := ifn (zb_n0 h3) h
    refine r_iconst (pc' := 23) (v := 0) dX9_showsWarp_22 (by decide) rfl ?_
    cases h
    exact r_zret dX9_showsWarp_23 rfl (by decide) (by decide) (by decide) hQ
  · have h := ifp (zb_p0 h3) h
    refine r_aload_n (pc' := 10) dX9_showsWarp_9 rfl 0 rfl rfl ?_
    refine r_iload_n (pc' := 11) dX9_showsWarp_10 rfl 1 rfl rfl ?_
    refine r_iload_n (pc' := 12) dX9_showsWarp_11 rfl 2 rfl rfl ?_
    obtain ⟨z4, ez4, h⟩ := bd_e h
    refine r_callV2 (pc' := 15) (k' := 0) (n' := 0) dX9_showsWarp_12 mb_X9_shows mi_X9_shows hm.o (by decide) rfl lk_X9_340 rfl rfl rfl (Nat.le_of_ble_eq_true rfl) rfl (c_X9_shows hm ez4 (cpI ?_))
    refine r_if_eq (tgt := 22) (pc' := 18) dX9_showsWarp_15 rfl rfl (fun h5 => ?_) (fun h5 => ?_)
    · have h := ifn (zb_n0 h5) h
      refine r_iconst (pc' := 23) (v := 0) dX9_showsWarp_22 (by decide) rfl ?_
      cases h
      exact r_zret dX9_showsWarp_23 rfl (by decide) (by decide) (by decide) hQ
    · have h := ifp (zb_p0 h5) h
      refine r_iconst (pc' := 19) (v := 1) dX9_showsWarp_18 (by decide) rfl ?_
      refine r_goto (tgt := 23) dX9_showsWarp_19 rfl ?_
      cases h
      exact r_zret dX9_showsWarp_23 rfl (by decide) (by decide) (by decide) hQ
set_option maxHeartbeats 4000000 in
theorem fr_X9_showsWarp {I : JI} {m : Nat} {x1 : Int32} {x2 : Int32} {r : Bool} {J : JI} {z : Nat} (h : s_X9_showsWarp I m x1 x2 = some (r, J)) (hz_m : z ≠ m) : J z = I z := by
  unfold s_X9_showsWarp at h
  obtain ⟨z2, I1, e1, h⟩ := bd2_e h
  rcases if_e h with h | h
  · obtain ⟨o2, e2, h⟩ := bd_e h
    rcases if_e h with h | h
    · cases h
      exact ((fr_X9_mayCell e1 (by omega)).trans rfl)
    · cases h
      exact ((fr_X9_mayCell e1 (by omega)).trans rfl)
  · cases h
    exact ((fr_X9_mayCell e1 (by omega)).trans rfl)
set_option maxHeartbeats 4000000 in
theorem ff_X9_showsWarp {I : JI} {m : Nat} {x1 : Int32} {x2 : Int32} {r : Bool} {J : JI} {k : Nat} (h : s_X9_showsWarp I m x1 x2 = some (r, J)) (hk0 : k ≠ 0) : J m k = I m k := by
  unfold s_X9_showsWarp at h
  obtain ⟨z2, I1, e1, h⟩ := bd2_e h
  rcases if_e h with h | h
  · obtain ⟨o2, e2, h⟩ := bd_e h
    rcases if_e h with h | h
    · cases h
      exact ((ff_X9_mayCell e1 hk0).trans rfl)
    · cases h
      exact ((ff_X9_mayCell e1 hk0).trans rfl)
  · cases h
    exact ((ff_X9_mayCell e1 hk0).trans rfl)
noncomputable def s_X9_longestWarpFloat_L17 (I : JI) (m : Nat) (q1 : Int32) : Nat → Int32 → Int32 → Int32 → Option (Int32 × Int32 × Int32)
  | 0, _, _, _ => none
  | f + 1, w3, w2, w4 => gd (vp_in 5 2030) <| if (I (m + 1) (Int32.toNatClampNeg 5)) ≤ w4 then (some (w3, w2, w4)) else (bd (s_X9_shows I m w4 q1) fun z6 => if z6 = true then (lx (mxF w2 (w3 + 1)) fun v8 => s_X9_longestWarpFloat_L17 I m q1 f (w3 + 1) v8 (w4 + 1)) else (s_X9_longestWarpFloat_L17 I m q1 f 0 (mxF w2 0) (w4 + 1)))
noncomputable def s_X9_longestWarpFloat (I : JI) (m : Nat) (x1 : Int32) : Option (Int32 × JI) :=
  bd2 (s_X9_mayWarp I m x1) fun z2 I1 => if z2 = true then (bd (s_X9_longestWarpFloat_L17 I1 m x1 lf 0 0 0) fun (y9, y10, y11) => some (y10, I1)) else (some (0, I1))
set_option maxHeartbeats 4000000 in
theorem l_X9_longestWarpFloat_L17 {Ω : JO} {S : JS} {Q : JQ} {I : JI} {m : Nat} {q1 : Int32} (hm : Is9 S m) : ∀ (f : Nat) (w3 : Int32) (w2 : Int32) (w4 : Int32) (o : (Int32 × Int32 × Int32)), s_X9_longestWarpFloat_L17 I m q1 f w3 w2 w4 = some o → True → (∀ (y3 : Int32) (y2 : Int32) (y4 : Int32) , o = (y3, y2, y4) → AA Ω m_X9_longestWarpFloat (FQ Ω m_X9_longestWarpFloat Q) 0 0 58 [(3, .int y3), (2, .int y2), (4, .int y4), (0, .ref m), (1, .int q1)] [] I S) → AA Ω m_X9_longestWarpFloat (FQ Ω m_X9_longestWarpFloat Q) 0 0 17 [(3, .int w3), (2, .int w2), (4, .int w4), (0, .ref m), (1, .int q1)] [] I S := by
  intro f
  induction f with
  | zero =>
    intro w3 w2 w4 o h hR hE
    rw [s_X9_longestWarpFloat_L17] at h
    cases h
  | succ f ih =>
    intro w3 w2 w4 o h hR hE
    rw [s_X9_longestWarpFloat_L17] at h
    refine r_iload (pc' := 19) dX9_longestWarpFloat_17 2 rfl rfl ?_
    refine r_aload_n (pc' := 20) dX9_longestWarpFloat_19 rfl 3 rfl rfl ?_
    refine r_getO (pc' := 23) dX9_longestWarpFloat_20 fa_X9_9 hm.o rfl hm.r1 rfl ?_
    refine r_iconst (pc' := 24) (v := 5) dX9_longestWarpFloat_23 (by decide) rfl ?_
    obtain ⟨g4, h⟩ := gd_e h
    refine r_iaload (pc' := 25) dX9_longestWarpFloat_24 hm.c1 g4 rfl ?_
    refine r_icmp_ge (tgt := 58) (pc' := 28) dX9_longestWarpFloat_25 rfl rfl (fun h5 => ?_) (fun h5 => ?_)
    · have h := ifp h5 h
      cases h
      exact hE _ _ _ rfl
    · have h := ifn h5 h
      refine r_aload_n (pc' := 29) dX9_longestWarpFloat_28 rfl 3 rfl rfl ?_
      refine r_iload (pc' := 31) dX9_longestWarpFloat_29 2 rfl rfl ?_
      refine r_iload_n (pc' := 32) dX9_longestWarpFloat_31 rfl 4 rfl rfl ?_
      obtain ⟨z6, ez6, h⟩ := bd_e h
      refine r_callV2 (pc' := 35) (k' := 0) (n' := 0) dX9_longestWarpFloat_32 mb_X9_shows mi_X9_shows hm.o (by decide) rfl lk_X9_340 rfl rfl rfl (Nat.le_of_ble_eq_true rfl) rfl (c_X9_shows hm ez6 (cpI ?_))
      refine r_if_eq (tgt := 44) (pc' := 38) dX9_longestWarpFloat_35 rfl rfl (fun h7 => ?_) (fun h7 => ?_)
      · have h := ifn (zb_n0 h7) h
        refine r_iconst (pc' := 45) (v := 0) dX9_longestWarpFloat_44 (by decide) rfl ?_
        refine r_istore_n (pc' := 46) (lv' := [(3, _), (2, _), (4, _), (0, _), (1, _)]) dX9_longestWarpFloat_45 rfl (by decide) rfl rfl ?_
        refine r_iload_n (pc' := 47) dX9_longestWarpFloat_46 rfl 1 rfl rfl ?_
        refine r_iload_n (pc' := 48) dX9_longestWarpFloat_47 rfl 0 rfl rfl ?_
        refine r_mmax (pc' := 51) dX9_longestWarpFloat_48 mw_X9_177 (by decide) (Nat.le_of_ble_eq_true rfl) (by decide) (by decide) rfl ?_
        refine r_istore_n (pc' := 52) (lv' := [(2, _), (3, _), (4, _), (0, _), (1, _)]) dX9_longestWarpFloat_51 rfl (by decide) rfl rfl ?_
        refine r_iinc (pc' := 55) (v := _ + 1) (lv' := [(4, _), (2, _), (3, _), (0, _), (1, _)]) dX9_longestWarpFloat_52 2 rfl rfl (by decide) rfl rfl ?_
        refine r_goto (tgt := 17) dX9_longestWarpFloat_55 rfl ?_
        refine aa_locs (ks := [2, 1, 0, 3, 4]) (lv' := [(3, _), (2, _), (4, _), (0, _), (1, _)]) rfl ?_
        exact ih _ _ _ _ h hR hE
      · have h := ifp (zb_p0 h7) h
        refine r_iload_n (pc' := 39) dX9_longestWarpFloat_38 rfl 0 rfl rfl ?_
        refine r_iconst (pc' := 40) (v := 1) dX9_longestWarpFloat_39 (by decide) rfl ?_
        refine r_iadd (pc' := 41) dX9_longestWarpFloat_40 rfl ?_
        refine r_goto (tgt := 45) dX9_longestWarpFloat_41 rfl ?_
        refine r_istore_n (pc' := 46) (lv' := [(3, _), (2, _), (4, _), (0, _), (1, _)]) dX9_longestWarpFloat_45 rfl (by decide) rfl rfl ?_
        refine r_iload_n (pc' := 47) dX9_longestWarpFloat_46 rfl 1 rfl rfl ?_
        refine r_iload_n (pc' := 48) dX9_longestWarpFloat_47 rfl 0 rfl rfl ?_
        refine r_mmax (pc' := 51) dX9_longestWarpFloat_48 mw_X9_177 (by decide) (Nat.le_of_ble_eq_true rfl) (by decide) (by decide) rfl ?_
        refine r_istore_n (pc' := 52) (lv' := [(2, _), (3, _), (4, _), (0, _), (1, _)]) dX9_longestWarpFloat_51 rfl (by decide) rfl rfl ?_
        have h := lx_e h
        refine r_iinc (pc' := 55) (v := _ + 1) (lv' := [(4, _), (2, _), (3, _), (0, _), (1, _)]) dX9_longestWarpFloat_52 2 rfl rfl (by decide) rfl rfl ?_
        refine r_goto (tgt := 17) dX9_longestWarpFloat_55 rfl ?_
        refine aa_locs (ks := [2, 1, 0, 3, 4]) (lv' := [(3, _), (2, _), (4, _), (0, _), (1, _)]) rfl ?_
        exact ih _ _ _ _ h hR hE
set_option maxHeartbeats 4000000 in
theorem c_X9_longestWarpFloat {Ω : JO} {I : JI} {S : JS} {Q : JQ} {m : Nat} {x1 : Int32} {r : Int32} {J : JI} (hm : Is9 S m) (h : s_X9_longestWarpFloat I m x1 = some (r, J)) (hQ : Q (.inl (some (.int r))) J S) : Call Ω m_X9_longestWarpFloat [.ref m, .int x1] I S Q := by
  refine call_of (by decide +kernel) rfl (Nat.le_of_ble_eq_true rfl) ?_
  change AA Ω m_X9_longestWarpFloat (FQ Ω m_X9_longestWarpFloat Q) 0 0 0 [(0, .ref m), (1, .int x1)] [] I S
  unfold s_X9_longestWarpFloat at h
  refine r_aload_n (pc' := 1) dX9_longestWarpFloat_0 rfl 0 rfl rfl ?_
  refine r_iload_n (pc' := 2) dX9_longestWarpFloat_1 rfl 1 rfl rfl ?_
  obtain ⟨z2, I1, ez2, h⟩ := bd2_e h
  refine r_callV1 (pc' := 5) (k' := 0) (n' := 0) dX9_longestWarpFloat_2 mb_X9_mayWarp mi_X9_mayWarp hm.o (by decide) rfl lk_X9_415 rfl rfl rfl (Nat.le_of_ble_eq_true rfl) rfl (c_X9_mayWarp hm ez2 (cpI ?_))
  refine r_if_ne (tgt := 10) (pc' := 8) dX9_longestWarpFloat_5 rfl rfl (fun h3 => ?_) (fun h3 => ?_)
  · have h := ifp (zb_p0 h3) h
    refine r_iconst (pc' := 11) (v := 0) dX9_longestWarpFloat_10 (by decide) rfl ?_
    refine r_istore_n (pc' := 12) (lv' := [(2, _), (0, _), (1, _)]) dX9_longestWarpFloat_11 rfl (by decide) rfl rfl ?_
    refine r_iconst (pc' := 13) (v := 0) dX9_longestWarpFloat_12 (by decide) rfl ?_
    refine r_istore_n (pc' := 14) (lv' := [(3, _), (2, _), (0, _), (1, _)]) dX9_longestWarpFloat_13 rfl (by decide) rfl rfl ?_
    refine r_iconst (pc' := 15) (v := 0) dX9_longestWarpFloat_14 (by decide) rfl ?_
    refine r_istore (pc' := 17) (lv' := [(4, _), (3, _), (2, _), (0, _), (1, _)]) dX9_longestWarpFloat_15 (by decide) rfl rfl ?_
    refine aa_locs (ks := [1, 2, 0, 3, 4]) (lv' := [(3, _), (2, _), (4, _), (0, _), (1, _)]) rfl ?_
    obtain ⟨o12, eo12, h⟩ := bd_e h
    refine l_X9_longestWarpFloat_L17 (Ω := Ω) hm _ _ _ _ _ eo12 trivial (fun y9 y10 y11 q => ?_)
    subst q
    refine r_iload_n (pc' := 59) dX9_longestWarpFloat_58 rfl 1 rfl rfl ?_
    cases h
    exact r_iret dX9_longestWarpFloat_59 rfl (by decide) (by decide) hQ
  · have h := ifn (zb_n0 h3) h
    refine r_iconst (pc' := 9) (v := 0) dX9_longestWarpFloat_8 (by decide) rfl ?_
    cases h
    exact r_iret dX9_longestWarpFloat_9 rfl (by decide) (by decide) hQ
set_option maxHeartbeats 4000000 in
theorem fr_X9_longestWarpFloat {I : JI} {m : Nat} {x1 : Int32} {r : Int32} {J : JI} {z : Nat} (h : s_X9_longestWarpFloat I m x1 = some (r, J)) (hz_m : z ≠ m) : J z = I z := by
  unfold s_X9_longestWarpFloat at h
  obtain ⟨z2, I1, e1, h⟩ := bd2_e h
  rcases if_e h with h | h
  · obtain ⟨o2, e2, h⟩ := bd_e h
    obtain ⟨y9, y10, y11⟩ := o2
    cases h
    exact ((fr_X9_mayWarp e1 (by omega)).trans rfl)
  · cases h
    exact ((fr_X9_mayWarp e1 (by omega)).trans rfl)
set_option maxHeartbeats 4000000 in
theorem ff_X9_longestWarpFloat {I : JI} {m : Nat} {x1 : Int32} {r : Int32} {J : JI} {k : Nat} (h : s_X9_longestWarpFloat I m x1 = some (r, J)) (hk0 : k ≠ 0) : J m k = I m k := by
  unfold s_X9_longestWarpFloat at h
  obtain ⟨z2, I1, e1, h⟩ := bd2_e h
  rcases if_e h with h | h
  · obtain ⟨o2, e2, h⟩ := bd_e h
    obtain ⟨y9, y10, y11⟩ := o2
    cases h
    exact ((ff_X9_mayWarp e1 hk0).trans rfl)
  · cases h
    exact ((ff_X9_mayWarp e1 hk0).trans rfl)
noncomputable def s_X9_longestWeftFloat_L17 (I : JI) (m : Nat) (q1 : Int32) : Nat → Int32 → Int32 → Int32 → Option (Int32 × Int32 × Int32)
  | 0, _, _, _ => none
  | f + 1, w3, w2, w4 => gd (vp_in 2 2030) <| if (I (m + 1) (Int32.toNatClampNeg 2)) ≤ w4 then (some (w3, w2, w4)) else (bd (s_X9_shows I m q1 w4) fun z6 => if z6 = true then (s_X9_longestWeftFloat_L17 I m q1 f 0 (mxF w2 0) (w4 + 1)) else (lx (mxF w2 (w3 + 1)) fun v8 => s_X9_longestWeftFloat_L17 I m q1 f (w3 + 1) v8 (w4 + 1)))
noncomputable def s_X9_longestWeftFloat (I : JI) (m : Nat) (x1 : Int32) : Option (Int32 × JI) :=
  bd2 (s_X9_mayRow I m x1) fun z2 I1 => if z2 = true then (bd (s_X9_longestWeftFloat_L17 I1 m x1 lf 0 0 0) fun (y9, y10, y11) => some (y10, I1)) else (some (0, I1))
set_option maxHeartbeats 4000000 in
theorem l_X9_longestWeftFloat_L17 {Ω : JO} {S : JS} {Q : JQ} {I : JI} {m : Nat} {q1 : Int32} (hm : Is9 S m) : ∀ (f : Nat) (w3 : Int32) (w2 : Int32) (w4 : Int32) (o : (Int32 × Int32 × Int32)), s_X9_longestWeftFloat_L17 I m q1 f w3 w2 w4 = some o → True → (∀ (y3 : Int32) (y2 : Int32) (y4 : Int32) , o = (y3, y2, y4) → AA Ω m_X9_longestWeftFloat (FQ Ω m_X9_longestWeftFloat Q) 0 0 58 [(3, .int y3), (2, .int y2), (4, .int y4), (0, .ref m), (1, .int q1)] [] I S) → AA Ω m_X9_longestWeftFloat (FQ Ω m_X9_longestWeftFloat Q) 0 0 17 [(3, .int w3), (2, .int w2), (4, .int w4), (0, .ref m), (1, .int q1)] [] I S := by
  intro f
  induction f with
  | zero =>
    intro w3 w2 w4 o h hR hE
    rw [s_X9_longestWeftFloat_L17] at h
    cases h
  | succ f ih =>
    intro w3 w2 w4 o h hR hE
    rw [s_X9_longestWeftFloat_L17] at h
    refine r_iload (pc' := 19) dX9_longestWeftFloat_17 2 rfl rfl ?_
    refine r_aload_n (pc' := 20) dX9_longestWeftFloat_19 rfl 3 rfl rfl ?_
    refine r_getO (pc' := 23) dX9_longestWeftFloat_20 fa_X9_9 hm.o rfl hm.r1 rfl ?_
    refine r_iconst (pc' := 24) (v := 2) dX9_longestWeftFloat_23 (by decide) rfl ?_
    obtain ⟨g4, h⟩ := gd_e h
    refine r_iaload (pc' := 25) dX9_longestWeftFloat_24 hm.c1 g4 rfl ?_
    refine r_icmp_ge (tgt := 58) (pc' := 28) dX9_longestWeftFloat_25 rfl rfl (fun h5 => ?_) (fun h5 => ?_)
    · have h := ifp h5 h
      cases h
      exact hE _ _ _ rfl
    · have h := ifn h5 h
      refine r_aload_n (pc' := 29) dX9_longestWeftFloat_28 rfl 3 rfl rfl ?_
      refine r_iload_n (pc' := 30) dX9_longestWeftFloat_29 rfl 4 rfl rfl ?_
      refine r_iload (pc' := 32) dX9_longestWeftFloat_30 2 rfl rfl ?_
      obtain ⟨z6, ez6, h⟩ := bd_e h
      refine r_callV2 (pc' := 35) (k' := 0) (n' := 0) dX9_longestWeftFloat_32 mb_X9_shows mi_X9_shows hm.o (by decide) rfl lk_X9_340 rfl rfl rfl (Nat.le_of_ble_eq_true rfl) rfl (c_X9_shows hm ez6 (cpI ?_))
      refine r_if_eq (tgt := 42) (pc' := 38) dX9_longestWeftFloat_35 rfl rfl (fun h7 => ?_) (fun h7 => ?_)
      · have h := ifn (zb_n0 h7) h
        refine r_iload_n (pc' := 43) dX9_longestWeftFloat_42 rfl 0 rfl rfl ?_
        refine r_iconst (pc' := 44) (v := 1) dX9_longestWeftFloat_43 (by decide) rfl ?_
        refine r_iadd (pc' := 45) dX9_longestWeftFloat_44 rfl ?_
        refine r_istore_n (pc' := 46) (lv' := [(3, _), (2, _), (4, _), (0, _), (1, _)]) dX9_longestWeftFloat_45 rfl (by decide) rfl rfl ?_
        refine r_iload_n (pc' := 47) dX9_longestWeftFloat_46 rfl 1 rfl rfl ?_
        refine r_iload_n (pc' := 48) dX9_longestWeftFloat_47 rfl 0 rfl rfl ?_
        refine r_mmax (pc' := 51) dX9_longestWeftFloat_48 mw_X9_177 (by decide) (Nat.le_of_ble_eq_true rfl) (by decide) (by decide) rfl ?_
        refine r_istore_n (pc' := 52) (lv' := [(2, _), (3, _), (4, _), (0, _), (1, _)]) dX9_longestWeftFloat_51 rfl (by decide) rfl rfl ?_
        have h := lx_e h
        refine r_iinc (pc' := 55) (v := _ + 1) (lv' := [(4, _), (2, _), (3, _), (0, _), (1, _)]) dX9_longestWeftFloat_52 2 rfl rfl (by decide) rfl rfl ?_
        refine r_goto (tgt := 17) dX9_longestWeftFloat_55 rfl ?_
        refine aa_locs (ks := [2, 1, 0, 3, 4]) (lv' := [(3, _), (2, _), (4, _), (0, _), (1, _)]) rfl ?_
        exact ih _ _ _ _ h hR hE
      · have h := ifp (zb_p0 h7) h
        refine r_iconst (pc' := 39) (v := 0) dX9_longestWeftFloat_38 (by decide) rfl ?_
        refine r_goto (tgt := 45) dX9_longestWeftFloat_39 rfl ?_
        refine r_istore_n (pc' := 46) (lv' := [(3, _), (2, _), (4, _), (0, _), (1, _)]) dX9_longestWeftFloat_45 rfl (by decide) rfl rfl ?_
        refine r_iload_n (pc' := 47) dX9_longestWeftFloat_46 rfl 1 rfl rfl ?_
        refine r_iload_n (pc' := 48) dX9_longestWeftFloat_47 rfl 0 rfl rfl ?_
        refine r_mmax (pc' := 51) dX9_longestWeftFloat_48 mw_X9_177 (by decide) (Nat.le_of_ble_eq_true rfl) (by decide) (by decide) rfl ?_
        refine r_istore_n (pc' := 52) (lv' := [(2, _), (3, _), (4, _), (0, _), (1, _)]) dX9_longestWeftFloat_51 rfl (by decide) rfl rfl ?_
        refine r_iinc (pc' := 55) (v := _ + 1) (lv' := [(4, _), (2, _), (3, _), (0, _), (1, _)]) dX9_longestWeftFloat_52 2 rfl rfl (by decide) rfl rfl ?_
        refine r_goto (tgt := 17) dX9_longestWeftFloat_55 rfl ?_
        refine aa_locs (ks := [2, 1, 0, 3, 4]) (lv' := [(3, _), (2, _), (4, _), (0, _), (1, _)]) rfl ?_
        exact ih _ _ _ _ h hR hE
set_option maxHeartbeats 4000000 in
theorem c_X9_longestWeftFloat {Ω : JO} {I : JI} {S : JS} {Q : JQ} {m : Nat} {x1 : Int32} {r : Int32} {J : JI} (hm : Is9 S m) (h : s_X9_longestWeftFloat I m x1 = some (r, J)) (hQ : Q (.inl (some (.int r))) J S) : Call Ω m_X9_longestWeftFloat [.ref m, .int x1] I S Q := by
  refine call_of (by decide +kernel) rfl (Nat.le_of_ble_eq_true rfl) ?_
  change AA Ω m_X9_longestWeftFloat (FQ Ω m_X9_longestWeftFloat Q) 0 0 0 [(0, .ref m), (1, .int x1)] [] I S
  unfold s_X9_longestWeftFloat at h
  refine r_aload_n (pc' := 1) dX9_longestWeftFloat_0 rfl 0 rfl rfl ?_
  refine r_iload_n (pc' := 2) dX9_longestWeftFloat_1 rfl 1 rfl rfl ?_
  obtain ⟨z2, I1, ez2, h⟩ := bd2_e h
  refine r_callV1 (pc' := 5) (k' := 0) (n' := 0) dX9_longestWeftFloat_2 mb_X9_mayRow mi_X9_mayRow hm.o (by decide) rfl lk_X9_442 rfl rfl rfl (Nat.le_of_ble_eq_true rfl) rfl (c_X9_mayRow hm ez2 (cpI ?_))
  refine r_if_ne (tgt := 10) (pc' := 8) dX9_longestWeftFloat_5 rfl rfl (fun h3 => ?_) (fun h3 => ?_)
  · have h := ifp (zb_p0 h3) h
    refine r_iconst (pc' := 11) (v := 0) dX9_longestWeftFloat_10 (by decide) rfl ?_
    refine r_istore_n (pc' := 12) (lv' := [(2, _), (0, _), (1, _)]) dX9_longestWeftFloat_11 rfl (by decide) rfl rfl ?_
    refine r_iconst (pc' := 13) (v := 0) dX9_longestWeftFloat_12 (by decide) rfl ?_
    refine r_istore_n (pc' := 14) (lv' := [(3, _), (2, _), (0, _), (1, _)]) dX9_longestWeftFloat_13 rfl (by decide) rfl rfl ?_
    refine r_iconst (pc' := 15) (v := 0) dX9_longestWeftFloat_14 (by decide) rfl ?_
    refine r_istore (pc' := 17) (lv' := [(4, _), (3, _), (2, _), (0, _), (1, _)]) dX9_longestWeftFloat_15 (by decide) rfl rfl ?_
    refine aa_locs (ks := [1, 2, 0, 3, 4]) (lv' := [(3, _), (2, _), (4, _), (0, _), (1, _)]) rfl ?_
    obtain ⟨o12, eo12, h⟩ := bd_e h
    refine l_X9_longestWeftFloat_L17 (Ω := Ω) hm _ _ _ _ _ eo12 trivial (fun y9 y10 y11 q => ?_)
    subst q
    refine r_iload_n (pc' := 59) dX9_longestWeftFloat_58 rfl 1 rfl rfl ?_
    cases h
    exact r_iret dX9_longestWeftFloat_59 rfl (by decide) (by decide) hQ
  · have h := ifn (zb_n0 h3) h
    refine r_iconst (pc' := 9) (v := 0) dX9_longestWeftFloat_8 (by decide) rfl ?_
    cases h
    exact r_iret dX9_longestWeftFloat_9 rfl (by decide) (by decide) hQ
set_option maxHeartbeats 4000000 in
theorem fr_X9_longestWeftFloat {I : JI} {m : Nat} {x1 : Int32} {r : Int32} {J : JI} {z : Nat} (h : s_X9_longestWeftFloat I m x1 = some (r, J)) (hz_m : z ≠ m) : J z = I z := by
  unfold s_X9_longestWeftFloat at h
  obtain ⟨z2, I1, e1, h⟩ := bd2_e h
  rcases if_e h with h | h
  · obtain ⟨o2, e2, h⟩ := bd_e h
    obtain ⟨y9, y10, y11⟩ := o2
    cases h
    exact ((fr_X9_mayRow e1 (by omega)).trans rfl)
  · cases h
    exact ((fr_X9_mayRow e1 (by omega)).trans rfl)
set_option maxHeartbeats 4000000 in
theorem ff_X9_longestWeftFloat {I : JI} {m : Nat} {x1 : Int32} {r : Int32} {J : JI} {k : Nat} (h : s_X9_longestWeftFloat I m x1 = some (r, J)) (hk0 : k ≠ 0) : J m k = I m k := by
  unfold s_X9_longestWeftFloat at h
  obtain ⟨z2, I1, e1, h⟩ := bd2_e h
  rcases if_e h with h | h
  · obtain ⟨o2, e2, h⟩ := bd_e h
    obtain ⟨y9, y10, y11⟩ := o2
    cases h
    exact ((ff_X9_mayRow e1 hk0).trans rfl)
  · cases h
    exact ((ff_X9_mayRow e1 hk0).trans rfl)
noncomputable def s_X9_cellsOfColour_L27 (I : JI) (m : Nat) (q3 : Int32) (q1 : Int32) : Nat → Int32 → Int32 → Option (Int32 × Int32)
  | 0, _, _ => none
  | f + 1, w2, w4 => gd (vp_in 2 2030) <| if (I (m + 1) (Int32.toNatClampNeg 2)) ≤ w4 then (some (w2, w4)) else (bd (s_X9_cellOf I m q3 w4) fun v8 => if (v8 / 2) = q1 then (lx (w2 + (s_X9_one true)) fun v11 => s_X9_cellsOfColour_L27 I m q3 q1 f v11 (w4 + 1)) else (lx (w2 + (s_X9_one false)) fun v10 => s_X9_cellsOfColour_L27 I m q3 q1 f v10 (w4 + 1)))
noncomputable def s_X9_cellsOfColour_L14 (I : JI) (m : Nat) (q1 : Int32) : Nat → Int32 → Int32 → Option (Int32 × Int32)
  | 0, _, _ => none
  | f + 1, w2, w3 => gd (vp_in 5 2030) <| if (I (m + 1) (Int32.toNatClampNeg 5)) ≤ w3 then (some (w2, w3)) else (bd (s_X9_cellsOfColour_L27 I m w3 q1 lf w2 0) fun (y12, y13) => s_X9_cellsOfColour_L14 I m q1 f y12 (w3 + 1))
noncomputable def s_X9_cellsOfColour (I : JI) (m : Nat) (x1 : Int32) : Option (Int32 × JI) :=
  bd2 (s_X9_mayColour I m x1) fun z2 I1 => if z2 = true then (bd (s_X9_cellsOfColour_L14 I1 m x1 lf 0 0) fun (y15, y16) => some (y15, I1)) else (some (0, I1))
set_option maxHeartbeats 4000000 in
theorem l_X9_cellsOfColour_L27 {Ω : JO} {S : JS} {Q : JQ} {I : JI} {m : Nat} {q3 : Int32} {q1 : Int32} (hm : Is9 S m) : ∀ (f : Nat) (w2 : Int32) (w4 : Int32) (o : (Int32 × Int32)), s_X9_cellsOfColour_L27 I m q3 q1 f w2 w4 = some o → True → (∀ (y2 : Int32) (y4 : Int32) , o = (y2, y4) → AA Ω m_X9_cellsOfColour (FQ Ω m_X9_cellsOfColour Q) 0 0 68 [(2, .int y2), (4, .int y4), (3, .int q3), (0, .ref m), (1, .int q1)] [] I S) → AA Ω m_X9_cellsOfColour (FQ Ω m_X9_cellsOfColour Q) 0 0 27 [(2, .int w2), (4, .int w4), (3, .int q3), (0, .ref m), (1, .int q1)] [] I S := by
  intro f
  induction f with
  | zero =>
    intro w2 w4 o h hR hE
    rw [s_X9_cellsOfColour_L27] at h
    cases h
  | succ f ih =>
    intro w2 w4 o h hR hE
    rw [s_X9_cellsOfColour_L27] at h
    refine r_iload (pc' := 29) dX9_cellsOfColour_27 1 rfl rfl ?_
    refine r_aload_n (pc' := 30) dX9_cellsOfColour_29 rfl 3 rfl rfl ?_
    refine r_getO (pc' := 33) dX9_cellsOfColour_30 fa_X9_9 hm.o rfl hm.r1 rfl ?_
    refine r_iconst (pc' := 34) (v := 2) dX9_cellsOfColour_33 (by decide) rfl ?_
    obtain ⟨g6, h⟩ := gd_e h
    refine r_iaload (pc' := 35) dX9_cellsOfColour_34 hm.c1 g6 rfl ?_
    refine r_icmp_ge (tgt := 68) (pc' := 38) dX9_cellsOfColour_35 rfl rfl (fun h7 => ?_) (fun h7 => ?_)
    · have h := ifp h7 h
      cases h
      exact hE _ _ rfl
    · have h := ifn h7 h
      refine r_iload_n (pc' := 39) dX9_cellsOfColour_38 rfl 0 rfl rfl ?_
      refine r_aload_n (pc' := 40) dX9_cellsOfColour_39 rfl 3 rfl rfl ?_
      refine r_iload_n (pc' := 41) dX9_cellsOfColour_40 rfl 2 rfl rfl ?_
      refine r_iload (pc' := 43) dX9_cellsOfColour_41 1 rfl rfl ?_
      obtain ⟨v8, ev8, h⟩ := bd_e h
      refine r_callV2 (pc' := 46) (k' := 0) (n' := 0) dX9_cellsOfColour_43 mb_X9_cellOf mi_X9_cellOf hm.o (by decide) rfl lk_X9_375 rfl rfl rfl (Nat.le_of_ble_eq_true rfl) rfl (c_X9_cellOf hm ev8 (cpI ?_))
      refine r_iconst (pc' := 47) (v := 2) dX9_cellsOfColour_46 (by decide) rfl ?_
      refine r_idiv (pc' := 48) dX9_cellsOfColour_47 (by decide) rfl ?_
      refine r_iload_n (pc' := 49) dX9_cellsOfColour_48 rfl 4 rfl rfl ?_
      refine r_icmp_ne (tgt := 56) (pc' := 52) dX9_cellsOfColour_49 rfl rfl (fun h9 => ?_) (fun h9 => ?_)
      · have h := ifn h9 h
        refine r_iconst (pc' := 57) (v := 0) dX9_cellsOfColour_56 (by decide) rfl ?_
        refine r_callS1 (pc' := 60) (k' := 0) (n' := 0) dX9_cellsOfColour_57 mb_X9_one ms_X9_one lk_X9_324 rfl rfl rfl (Nat.le_of_ble_eq_true rfl) rfl (c_X9_one (b0 := false) rfl (cpI ?_))
        refine r_iadd (pc' := 61) dX9_cellsOfColour_60 rfl ?_
        refine r_istore_n (pc' := 62) (lv' := [(2, _), (4, _), (3, _), (0, _), (1, _)]) dX9_cellsOfColour_61 rfl (by decide) rfl rfl ?_
        have h := lx_e h
        refine r_iinc (pc' := 65) (v := _ + 1) (lv' := [(4, _), (2, _), (3, _), (0, _), (1, _)]) dX9_cellsOfColour_62 1 rfl rfl (by decide) rfl rfl ?_
        refine r_goto (tgt := 27) dX9_cellsOfColour_65 rfl ?_
        refine aa_locs (ks := [1, 0, 2, 3, 4]) (lv' := [(2, _), (4, _), (3, _), (0, _), (1, _)]) rfl ?_
        exact ih _ _ _ h hR hE
      · have h := ifp h9 h
        refine r_iconst (pc' := 53) (v := 1) dX9_cellsOfColour_52 (by decide) rfl ?_
        refine r_goto (tgt := 57) dX9_cellsOfColour_53 rfl ?_
        refine r_callS1 (pc' := 60) (k' := 0) (n' := 0) dX9_cellsOfColour_57 mb_X9_one ms_X9_one lk_X9_324 rfl rfl rfl (Nat.le_of_ble_eq_true rfl) rfl (c_X9_one (b0 := true) rfl (cpI ?_))
        refine r_iadd (pc' := 61) dX9_cellsOfColour_60 rfl ?_
        refine r_istore_n (pc' := 62) (lv' := [(2, _), (4, _), (3, _), (0, _), (1, _)]) dX9_cellsOfColour_61 rfl (by decide) rfl rfl ?_
        have h := lx_e h
        refine r_iinc (pc' := 65) (v := _ + 1) (lv' := [(4, _), (2, _), (3, _), (0, _), (1, _)]) dX9_cellsOfColour_62 1 rfl rfl (by decide) rfl rfl ?_
        refine r_goto (tgt := 27) dX9_cellsOfColour_65 rfl ?_
        refine aa_locs (ks := [1, 0, 2, 3, 4]) (lv' := [(2, _), (4, _), (3, _), (0, _), (1, _)]) rfl ?_
        exact ih _ _ _ h hR hE
set_option maxHeartbeats 4000000 in
theorem l_X9_cellsOfColour_L14 {Ω : JO} {S : JS} {Q : JQ} {I : JI} {m : Nat} {q1 : Int32} (hm : Is9 S m) : ∀ (f : Nat) (w2 : Int32) (w3 : Int32) (o : (Int32 × Int32)), s_X9_cellsOfColour_L14 I m q1 f w2 w3 = some o → True → (∀ (y2 : Int32) (y3 : Int32) , o = (y2, y3) → AA Ω m_X9_cellsOfColour (FQ Ω m_X9_cellsOfColour Q) 0 0 74 [(2, .int y2), (3, .int y3), (0, .ref m), (1, .int q1)] [] I S) → AA Ω m_X9_cellsOfColour (FQ Ω m_X9_cellsOfColour Q) 0 0 14 [(2, .int w2), (3, .int w3), (0, .ref m), (1, .int q1)] [] I S := by
  intro f
  induction f with
  | zero =>
    intro w2 w3 o h hR hE
    rw [s_X9_cellsOfColour_L14] at h
    cases h
  | succ f ih =>
    intro w2 w3 o h hR hE
    rw [s_X9_cellsOfColour_L14] at h
    refine r_iload_n (pc' := 15) dX9_cellsOfColour_14 rfl 1 rfl rfl ?_
    refine r_aload_n (pc' := 16) dX9_cellsOfColour_15 rfl 2 rfl rfl ?_
    refine r_getO (pc' := 19) dX9_cellsOfColour_16 fa_X9_9 hm.o rfl hm.r1 rfl ?_
    refine r_iconst (pc' := 20) (v := 5) dX9_cellsOfColour_19 (by decide) rfl ?_
    obtain ⟨g4, h⟩ := gd_e h
    refine r_iaload (pc' := 21) dX9_cellsOfColour_20 hm.c1 g4 rfl ?_
    refine r_icmp_ge (tgt := 74) (pc' := 24) dX9_cellsOfColour_21 rfl rfl (fun h5 => ?_) (fun h5 => ?_)
    · have h := ifp h5 h
      cases h
      exact hE _ _ rfl
    · have h := ifn h5 h
      refine r_iconst (pc' := 25) (v := 0) dX9_cellsOfColour_24 (by decide) rfl ?_
      refine r_istore (pc' := 27) (lv' := [(4, _), (2, _), (3, _), (0, _), (1, _)]) dX9_cellsOfColour_25 (by decide) rfl rfl ?_
      refine aa_locs (ks := [1, 0, 2, 3, 4]) (lv' := [(2, _), (4, _), (3, _), (0, _), (1, _)]) rfl ?_
      obtain ⟨o14, eo14, h⟩ := bd_e h
      refine l_X9_cellsOfColour_L27 (Ω := Ω) hm _ _ _ _ eo14 trivial (fun y12 y13 q => ?_)
      subst q
      refine r_iinc (pc' := 71) (v := _ + 1) (lv' := [(3, _), (2, _), (4, _), (0, _), (1, _)]) dX9_cellsOfColour_68 2 rfl rfl (by decide) rfl rfl ?_
      refine r_goto (tgt := 14) dX9_cellsOfColour_71 rfl ?_
      refine aa_locs (ks := [1, 0, 3, 4]) (lv' := [(2, _), (3, _), (0, _), (1, _)]) rfl ?_
      exact ih _ _ _ h hR hE
set_option maxHeartbeats 4000000 in
theorem c_X9_cellsOfColour {Ω : JO} {I : JI} {S : JS} {Q : JQ} {m : Nat} {x1 : Int32} {r : Int32} {J : JI} (hm : Is9 S m) (h : s_X9_cellsOfColour I m x1 = some (r, J)) (hQ : Q (.inl (some (.int r))) J S) : Call Ω m_X9_cellsOfColour [.ref m, .int x1] I S Q := by
  refine call_of (by decide +kernel) rfl (Nat.le_of_ble_eq_true rfl) ?_
  change AA Ω m_X9_cellsOfColour (FQ Ω m_X9_cellsOfColour Q) 0 0 0 [(0, .ref m), (1, .int x1)] [] I S
  unfold s_X9_cellsOfColour at h
  refine r_aload_n (pc' := 1) dX9_cellsOfColour_0 rfl 0 rfl rfl ?_
  refine r_iload_n (pc' := 2) dX9_cellsOfColour_1 rfl 1 rfl rfl ?_
  obtain ⟨z2, I1, ez2, h⟩ := bd2_e h
  refine r_callV1 (pc' := 5) (k' := 0) (n' := 0) dX9_cellsOfColour_2 mb_X9_mayColour mi_X9_mayColour hm.o (by decide) rfl lk_X9_445 rfl rfl rfl (Nat.le_of_ble_eq_true rfl) rfl (c_X9_mayColour hm ez2 (cpI ?_))
  refine r_if_ne (tgt := 10) (pc' := 8) dX9_cellsOfColour_5 rfl rfl (fun h3 => ?_) (fun h3 => ?_)
  · have h := ifp (zb_p0 h3) h
    refine r_iconst (pc' := 11) (v := 0) dX9_cellsOfColour_10 (by decide) rfl ?_
    refine r_istore_n (pc' := 12) (lv' := [(2, _), (0, _), (1, _)]) dX9_cellsOfColour_11 rfl (by decide) rfl rfl ?_
    refine r_iconst (pc' := 13) (v := 0) dX9_cellsOfColour_12 (by decide) rfl ?_
    refine r_istore_n (pc' := 14) (lv' := [(3, _), (2, _), (0, _), (1, _)]) dX9_cellsOfColour_13 rfl (by decide) rfl rfl ?_
    refine aa_locs (ks := [1, 0, 2, 3]) (lv' := [(2, _), (3, _), (0, _), (1, _)]) rfl ?_
    obtain ⟨o17, eo17, h⟩ := bd_e h
    refine l_X9_cellsOfColour_L14 (Ω := Ω) hm _ _ _ _ eo17 trivial (fun y15 y16 q => ?_)
    subst q
    refine r_iload_n (pc' := 75) dX9_cellsOfColour_74 rfl 0 rfl rfl ?_
    cases h
    exact r_iret dX9_cellsOfColour_75 rfl (by decide) (by decide) hQ
  · have h := ifn (zb_n0 h3) h
    refine r_iconst (pc' := 9) (v := 0) dX9_cellsOfColour_8 (by decide) rfl ?_
    cases h
    exact r_iret dX9_cellsOfColour_9 rfl (by decide) (by decide) hQ
set_option maxHeartbeats 4000000 in
theorem fr_X9_cellsOfColour {I : JI} {m : Nat} {x1 : Int32} {r : Int32} {J : JI} {z : Nat} (h : s_X9_cellsOfColour I m x1 = some (r, J)) (hz_m : z ≠ m) : J z = I z := by
  unfold s_X9_cellsOfColour at h
  obtain ⟨z2, I1, e1, h⟩ := bd2_e h
  rcases if_e h with h | h
  · obtain ⟨o2, e2, h⟩ := bd_e h
    obtain ⟨y15, y16⟩ := o2
    cases h
    exact ((fr_X9_mayColour e1 (by omega)).trans rfl)
  · cases h
    exact ((fr_X9_mayColour e1 (by omega)).trans rfl)
set_option maxHeartbeats 4000000 in
theorem ff_X9_cellsOfColour {I : JI} {m : Nat} {x1 : Int32} {r : Int32} {J : JI} {k : Nat} (h : s_X9_cellsOfColour I m x1 = some (r, J)) (hk0 : k ≠ 0) : J m k = I m k := by
  unfold s_X9_cellsOfColour at h
  obtain ⟨z2, I1, e1, h⟩ := bd2_e h
  rcases if_e h with h | h
  · obtain ⟨o2, e2, h⟩ := bd_e h
    obtain ⟨y15, y16⟩ := o2
    cases h
    exact ((ff_X9_mayColour e1 hk0).trans rfl)
  · cases h
    exact ((ff_X9_mayColour e1 hk0).trans rfl)
noncomputable def s_X9_areAlike_L2 (I : JI) (m : Nat) (q1 : Int32) (q2 : Int32) : Nat → Int32 → Option ((Bool) ⊕ (Int32))
  | 0, _ => none
  | f + 1, w3 => gd (vp_in 2 2030) <| if (I (m + 1) (Int32.toNatClampNeg 2)) ≤ w3 then (some (.inr (w3))) else (bd (s_X9_cellOf I m q1 w3) fun v3 => bd (s_X9_cellOf I m q2 w3) fun v4 => if (v3 / 2) = (v4 / 2) then (s_X9_areAlike_L2 I m q1 q2 f (w3 + 1)) else (some (.inl false)))
noncomputable def s_X9_areAlike (I : JI) (m : Nat) (x1 : Int32) (x2 : Int32) : Option (Bool) :=
  bl (s_X9_areAlike_L2 I m x1 x2 lf 0) fun y6 => some true
set_option maxHeartbeats 4000000 in
theorem l_X9_areAlike_L2 {Ω : JO} {S : JS} {Q : JQ} {I : JI} {m : Nat} {q1 : Int32} {q2 : Int32} (hm : Is9 S m) : ∀ (f : Nat) (w3 : Int32) (o : ((Bool) ⊕ (Int32))), s_X9_areAlike_L2 I m q1 q2 f w3 = some o → (∀ (r : Bool), o = .inl r → Q (.inl (some (.int (zb r)))) I S) → (∀ (y3 : Int32) , o = .inr (y3) → AA Ω m_X9_areAlike (FQ Ω m_X9_areAlike Q) 0 0 39 [(3, .int y3), (0, .ref m), (1, .int q1), (2, .int q2)] [] I S) → AA Ω m_X9_areAlike (FQ Ω m_X9_areAlike Q) 0 0 2 [(3, .int w3), (0, .ref m), (1, .int q1), (2, .int q2)] [] I S := by
  intro f
  induction f with
  | zero =>
    intro w3 o h hR hE
    rw [s_X9_areAlike_L2] at h
    cases h
  | succ f ih =>
    intro w3 o h hR hE
    rw [s_X9_areAlike_L2] at h
    refine r_iload_n (pc' := 3) dX9_areAlike_2 rfl 0 rfl rfl ?_
    refine r_aload_n (pc' := 4) dX9_areAlike_3 rfl 1 rfl rfl ?_
    refine r_getO (pc' := 7) dX9_areAlike_4 fa_X9_9 hm.o rfl hm.r1 rfl ?_
    refine r_iconst (pc' := 8) (v := 2) dX9_areAlike_7 (by decide) rfl ?_
    obtain ⟨g1, h⟩ := gd_e h
    refine r_iaload (pc' := 9) dX9_areAlike_8 hm.c1 g1 rfl ?_
    refine r_icmp_ge (tgt := 39) (pc' := 12) dX9_areAlike_9 rfl rfl (fun h2 => ?_) (fun h2 => ?_)
    · have h := ifp h2 h
      cases h
      exact hE _ rfl
    · have h := ifn h2 h
      refine r_aload_n (pc' := 13) dX9_areAlike_12 rfl 1 rfl rfl ?_
      refine r_iload_n (pc' := 14) dX9_areAlike_13 rfl 2 rfl rfl ?_
      refine r_iload_n (pc' := 15) dX9_areAlike_14 rfl 0 rfl rfl ?_
      obtain ⟨v3, ev3, h⟩ := bd_e h
      refine r_callV2 (pc' := 18) (k' := 0) (n' := 0) dX9_areAlike_15 mb_X9_cellOf mi_X9_cellOf hm.o (by decide) rfl lk_X9_375 rfl rfl rfl (Nat.le_of_ble_eq_true rfl) rfl (c_X9_cellOf hm ev3 (cpI ?_))
      refine r_iconst (pc' := 19) (v := 2) dX9_areAlike_18 (by decide) rfl ?_
      refine r_idiv (pc' := 20) dX9_areAlike_19 (by decide) rfl ?_
      refine r_aload_n (pc' := 21) dX9_areAlike_20 rfl 1 rfl rfl ?_
      refine r_iload_n (pc' := 22) dX9_areAlike_21 rfl 3 rfl rfl ?_
      refine r_iload_n (pc' := 23) dX9_areAlike_22 rfl 0 rfl rfl ?_
      obtain ⟨v4, ev4, h⟩ := bd_e h
      refine r_callV2 (pc' := 26) (k' := 0) (n' := 0) dX9_areAlike_23 mb_X9_cellOf mi_X9_cellOf hm.o (by decide) rfl lk_X9_375 rfl rfl rfl (Nat.le_of_ble_eq_true rfl) rfl (c_X9_cellOf hm ev4 (cpI ?_))
      refine r_iconst (pc' := 27) (v := 2) dX9_areAlike_26 (by decide) rfl ?_
      refine r_idiv (pc' := 28) dX9_areAlike_27 (by decide) rfl ?_
      refine r_icmp_eq (tgt := 33) (pc' := 31) dX9_areAlike_28 rfl rfl (fun h5 => ?_) (fun h5 => ?_)
      · have h := ifp h5 h
        refine r_iinc (pc' := 36) (v := _ + 1) (lv' := [(3, _), (0, _), (1, _), (2, _)]) dX9_areAlike_33 0 rfl rfl (by decide) rfl rfl ?_
        refine r_goto (tgt := 2) dX9_areAlike_36 rfl ?_
        exact ih _ _ h hR hE
      · have h := ifn h5 h
        refine r_iconst (pc' := 32) (v := 0) dX9_areAlike_31 (by decide) rfl ?_
        cases h
        exact r_zret dX9_areAlike_32 rfl (by decide) (by decide) (by decide) (hR _ rfl)
set_option maxHeartbeats 4000000 in
theorem c_X9_areAlike {Ω : JO} {I : JI} {S : JS} {Q : JQ} {m : Nat} {x1 : Int32} {x2 : Int32} {r : Bool} (hm : Is9 S m) (h : s_X9_areAlike I m x1 x2 = some r) (hQ : Q (.inl (some (.int (zb r)))) I S) : Call Ω m_X9_areAlike [.ref m, .int x1, .int x2] I S Q := by
  refine call_of (by decide +kernel) rfl (Nat.le_of_ble_eq_true rfl) ?_
  change AA Ω m_X9_areAlike (FQ Ω m_X9_areAlike Q) 0 0 0 [(0, .ref m), (1, .int x1), (2, .int x2)] [] I S
  unfold s_X9_areAlike at h
  refine r_iconst (pc' := 1) (v := 0) dX9_areAlike_0 (by decide) rfl ?_
  refine r_istore_n (pc' := 2) (lv' := [(3, _), (0, _), (1, _), (2, _)]) dX9_areAlike_1 rfl (by decide) rfl rfl ?_
  obtain ⟨o7, eo7, h1, h⟩ := bl_e h
  refine l_X9_areAlike_L2 (Ω := Ω) hm _ _ _ eo7 (fun r q => ?_) (fun y6 q => ?_)
  · have h1 := h1 _ q
    cases h1
    exact hQ
  have h := h _ q
  refine r_iconst (pc' := 40) (v := 1) dX9_areAlike_39 (by decide) rfl ?_
  cases h
  exact r_zret dX9_areAlike_40 rfl (by decide) (by decide) (by decide) hQ
noncomputable def s_X9_isRowPeriod_L2 (I : JI) (m : Nat) (q1 : Int32) : Nat → Int32 → Option ((Bool) ⊕ (Int32))
  | 0, _ => none
  | f + 1, w2 => gd (vp_in 5 2030) <| if (I (m + 1) (Int32.toNatClampNeg 5)) ≤ w2 then (some (.inr (w2))) else (bd (s_X9_areAlike I m w2 (w2 - q1)) fun z3 => if z3 = true then (s_X9_isRowPeriod_L2 I m q1 f (w2 + 1)) else (some (.inl false)))
noncomputable def s_X9_isRowPeriod (I : JI) (m : Nat) (x1 : Int32) : Option (Bool) :=
  bl (s_X9_isRowPeriod_L2 I m x1 lf x1) fun y5 => some true
set_option maxHeartbeats 4000000 in
theorem l_X9_isRowPeriod_L2 {Ω : JO} {S : JS} {Q : JQ} {I : JI} {m : Nat} {q1 : Int32} (hm : Is9 S m) : ∀ (f : Nat) (w2 : Int32) (o : ((Bool) ⊕ (Int32))), s_X9_isRowPeriod_L2 I m q1 f w2 = some o → (∀ (r : Bool), o = .inl r → Q (.inl (some (.int (zb r)))) I S) → (∀ (y2 : Int32) , o = .inr (y2) → AA Ω m_X9_isRowPeriod (FQ Ω m_X9_isRowPeriod Q) 0 0 31 [(2, .int y2), (0, .ref m), (1, .int q1)] [] I S) → AA Ω m_X9_isRowPeriod (FQ Ω m_X9_isRowPeriod Q) 0 0 2 [(2, .int w2), (0, .ref m), (1, .int q1)] [] I S := by
  intro f
  induction f with
  | zero =>
    intro w2 o h hR hE
    rw [s_X9_isRowPeriod_L2] at h
    cases h
  | succ f ih =>
    intro w2 o h hR hE
    rw [s_X9_isRowPeriod_L2] at h
    refine r_iload_n (pc' := 3) dX9_isRowPeriod_2 rfl 0 rfl rfl ?_
    refine r_aload_n (pc' := 4) dX9_isRowPeriod_3 rfl 1 rfl rfl ?_
    refine r_getO (pc' := 7) dX9_isRowPeriod_4 fa_X9_9 hm.o rfl hm.r1 rfl ?_
    refine r_iconst (pc' := 8) (v := 5) dX9_isRowPeriod_7 (by decide) rfl ?_
    obtain ⟨g1, h⟩ := gd_e h
    refine r_iaload (pc' := 9) dX9_isRowPeriod_8 hm.c1 g1 rfl ?_
    refine r_icmp_ge (tgt := 31) (pc' := 12) dX9_isRowPeriod_9 rfl rfl (fun h2 => ?_) (fun h2 => ?_)
    · have h := ifp h2 h
      cases h
      exact hE _ rfl
    · have h := ifn h2 h
      refine r_aload_n (pc' := 13) dX9_isRowPeriod_12 rfl 1 rfl rfl ?_
      refine r_iload_n (pc' := 14) dX9_isRowPeriod_13 rfl 0 rfl rfl ?_
      refine r_iload_n (pc' := 15) dX9_isRowPeriod_14 rfl 0 rfl rfl ?_
      refine r_iload_n (pc' := 16) dX9_isRowPeriod_15 rfl 2 rfl rfl ?_
      refine r_isub (pc' := 17) dX9_isRowPeriod_16 rfl ?_
      obtain ⟨z3, ez3, h⟩ := bd_e h
      refine r_callV2 (pc' := 20) (k' := 0) (n' := 0) dX9_isRowPeriod_17 mb_X9_areAlike mi_X9_areAlike hm.o (by decide) rfl lk_X9_448 rfl rfl rfl (Nat.le_of_ble_eq_true rfl) rfl (c_X9_areAlike hm ez3 (cpI ?_))
      refine r_if_ne (tgt := 25) (pc' := 23) dX9_isRowPeriod_20 rfl rfl (fun h4 => ?_) (fun h4 => ?_)
      · have h := ifp (zb_p0 h4) h
        refine r_iinc (pc' := 28) (v := _ + 1) (lv' := [(2, _), (0, _), (1, _)]) dX9_isRowPeriod_25 0 rfl rfl (by decide) rfl rfl ?_
        refine r_goto (tgt := 2) dX9_isRowPeriod_28 rfl ?_
        exact ih _ _ h hR hE
      · have h := ifn (zb_n0 h4) h
        refine r_iconst (pc' := 24) (v := 0) dX9_isRowPeriod_23 (by decide) rfl ?_
        cases h
        exact r_zret dX9_isRowPeriod_24 rfl (by decide) (by decide) (by decide) (hR _ rfl)
set_option maxHeartbeats 4000000 in
theorem c_X9_isRowPeriod {Ω : JO} {I : JI} {S : JS} {Q : JQ} {m : Nat} {x1 : Int32} {r : Bool} (hm : Is9 S m) (h : s_X9_isRowPeriod I m x1 = some r) (hQ : Q (.inl (some (.int (zb r)))) I S) : Call Ω m_X9_isRowPeriod [.ref m, .int x1] I S Q := by
  refine call_of (by decide +kernel) rfl (Nat.le_of_ble_eq_true rfl) ?_
  change AA Ω m_X9_isRowPeriod (FQ Ω m_X9_isRowPeriod Q) 0 0 0 [(0, .ref m), (1, .int x1)] [] I S
  unfold s_X9_isRowPeriod at h
  refine r_iload_n (pc' := 1) dX9_isRowPeriod_0 rfl 1 rfl rfl ?_
  refine r_istore_n (pc' := 2) (lv' := [(2, _), (0, _), (1, _)]) dX9_isRowPeriod_1 rfl (by decide) rfl rfl ?_
  obtain ⟨o6, eo6, h1, h⟩ := bl_e h
  refine l_X9_isRowPeriod_L2 (Ω := Ω) hm _ _ _ eo6 (fun r q => ?_) (fun y5 q => ?_)
  · have h1 := h1 _ q
    cases h1
    exact hQ
  have h := h _ q
  refine r_iconst (pc' := 32) (v := 1) dX9_isRowPeriod_31 (by decide) rfl ?_
  cases h
  exact r_zret dX9_isRowPeriod_32 rfl (by decide) (by decide) (by decide) hQ
noncomputable def s_X9_rowPeriod_L11 (I : JI) (m : Nat) : Nat → Int32 → Option ((Int32 × JI) ⊕ (Int32))
  | 0, _ => none
  | f + 1, w1 => gd (vp_in 5 2030) <| if (I (m + 1) (Int32.toNatClampNeg 5)) < w1 then (some (.inr (w1))) else (bd (s_X9_isRowPeriod I m w1) fun z6 => if z6 = true then (some (.inl (w1, I))) else (s_X9_rowPeriod_L11 I m f (w1 + 1)))
noncomputable def s_X9_rowPeriod (I : JI) (m : Nat) : Option (Int32 × JI) :=
  bd2 (s_X9_mayLook I m) fun z2 I1 => if z2 = true then (bl (s_X9_rowPeriod_L11 I1 m lf 1) fun y8 => some (0, I1)) else (some (0, I1))
set_option maxHeartbeats 4000000 in
theorem l_X9_rowPeriod_L11 {Ω : JO} {S : JS} {Q : JQ} {I : JI} {m : Nat} (hm : Is9 S m) : ∀ (f : Nat) (w1 : Int32) (o : ((Int32 × JI) ⊕ (Int32))), s_X9_rowPeriod_L11 I m f w1 = some o → (∀ (r : Int32) (J : JI), o = .inl (r, J) → Q (.inl (some (.int r))) J S) → (∀ (y1 : Int32) , o = .inr (y1) → AA Ω m_X9_rowPeriod (FQ Ω m_X9_rowPeriod Q) 0 0 37 [(1, .int y1), (0, .ref m)] [] I S) → AA Ω m_X9_rowPeriod (FQ Ω m_X9_rowPeriod Q) 0 0 11 [(1, .int w1), (0, .ref m)] [] I S := by
  intro f
  induction f with
  | zero =>
    intro w1 o h hR hE
    rw [s_X9_rowPeriod_L11] at h
    cases h
  | succ f ih =>
    intro w1 o h hR hE
    rw [s_X9_rowPeriod_L11] at h
    refine r_iload_n (pc' := 12) dX9_rowPeriod_11 rfl 0 rfl rfl ?_
    refine r_aload_n (pc' := 13) dX9_rowPeriod_12 rfl 1 rfl rfl ?_
    refine r_getO (pc' := 16) dX9_rowPeriod_13 fa_X9_9 hm.o rfl hm.r1 rfl ?_
    refine r_iconst (pc' := 17) (v := 5) dX9_rowPeriod_16 (by decide) rfl ?_
    obtain ⟨g4, h⟩ := gd_e h
    refine r_iaload (pc' := 18) dX9_rowPeriod_17 hm.c1 g4 rfl ?_
    refine r_icmp_gt (tgt := 37) (pc' := 21) dX9_rowPeriod_18 rfl rfl (fun h5 => ?_) (fun h5 => ?_)
    · have h := ifp h5 h
      cases h
      exact hE _ rfl
    · have h := ifn h5 h
      refine r_aload_n (pc' := 22) dX9_rowPeriod_21 rfl 1 rfl rfl ?_
      refine r_iload_n (pc' := 23) dX9_rowPeriod_22 rfl 0 rfl rfl ?_
      obtain ⟨z6, ez6, h⟩ := bd_e h
      refine r_callV1 (pc' := 26) (k' := 0) (n' := 0) dX9_rowPeriod_23 mb_X9_isRowPeriod mi_X9_isRowPeriod hm.o (by decide) rfl lk_X9_451 rfl rfl rfl (Nat.le_of_ble_eq_true rfl) rfl (c_X9_isRowPeriod hm ez6 (cpI ?_))
      refine r_if_eq (tgt := 31) (pc' := 29) dX9_rowPeriod_26 rfl rfl (fun h7 => ?_) (fun h7 => ?_)
      · have h := ifn (zb_n0 h7) h
        refine r_iinc (pc' := 34) (v := _ + 1) (lv' := [(1, _), (0, _)]) dX9_rowPeriod_31 0 rfl rfl (by decide) rfl rfl ?_
        refine r_goto (tgt := 11) dX9_rowPeriod_34 rfl ?_
        exact ih _ _ h hR hE
      · have h := ifp (zb_p0 h7) h
        refine r_iload_n (pc' := 30) dX9_rowPeriod_29 rfl 0 rfl rfl ?_
        cases h
        exact r_iret dX9_rowPeriod_30 rfl (by decide) (by decide) (hR _ _ rfl)
set_option maxHeartbeats 4000000 in
theorem c_X9_rowPeriod {Ω : JO} {I : JI} {S : JS} {Q : JQ} {m : Nat} {r : Int32} {J : JI} (hm : Is9 S m) (h : s_X9_rowPeriod I m = some (r, J)) (hQ : Q (.inl (some (.int r))) J S) : Call Ω m_X9_rowPeriod [.ref m] I S Q := by
  refine call_of (by decide +kernel) rfl (Nat.le_of_ble_eq_true rfl) ?_
  change AA Ω m_X9_rowPeriod (FQ Ω m_X9_rowPeriod Q) 0 0 0 [(0, .ref m)] [] I S
  unfold s_X9_rowPeriod at h
  refine r_aload_n (pc' := 1) dX9_rowPeriod_0 rfl 0 rfl rfl ?_
  obtain ⟨z2, I1, ez2, h⟩ := bd2_e h
  refine r_callV0 (pc' := 4) (k' := 0) (n' := 0) dX9_rowPeriod_1 mb_X9_mayLook mi_X9_mayLook hm.o (by decide) rfl lk_X9_409 rfl rfl rfl (Nat.le_of_ble_eq_true rfl) rfl (c_X9_mayLook hm ez2 (cpI ?_))
  refine r_if_ne (tgt := 9) (pc' := 7) dX9_rowPeriod_4 rfl rfl (fun h3 => ?_) (fun h3 => ?_)
  · have h := ifp (zb_p0 h3) h
    refine r_iconst (pc' := 10) (v := 1) dX9_rowPeriod_9 (by decide) rfl ?_
    refine r_istore_n (pc' := 11) (lv' := [(1, _), (0, _)]) dX9_rowPeriod_10 rfl (by decide) rfl rfl ?_
    obtain ⟨o9, eo9, h1, h⟩ := bl_e h
    refine l_X9_rowPeriod_L11 (Ω := Ω) hm _ _ _ eo9 (fun r J q => ?_) (fun y8 q => ?_)
    · have h1 := h1 _ q
      cases h1
      exact hQ
    have h := h _ q
    refine r_iconst (pc' := 38) (v := 0) dX9_rowPeriod_37 (by decide) rfl ?_
    cases h
    exact r_iret dX9_rowPeriod_38 rfl (by decide) (by decide) hQ
  · have h := ifn (zb_n0 h3) h
    refine r_iconst (pc' := 8) (v := 0) dX9_rowPeriod_7 (by decide) rfl ?_
    cases h
    exact r_iret dX9_rowPeriod_8 rfl (by decide) (by decide) hQ
theorem frl_X9_rowPeriod_L11 {I : JI} {m : Nat} {z : Nat} (hz_m : z ≠ m) : ∀ (f : Nat) (w1 : Int32) (o : ((Int32 × JI) ⊕ (Int32))), s_X9_rowPeriod_L11 I m f w1 = some o → (∀ (r : Int32) (J : JI), o = .inl (r, J) → J z = I z) := by
  intro f
  induction f with
  | zero =>
    intro w1 o h
    rw [s_X9_rowPeriod_L11] at h
    cases h
  | succ f ih =>
    intro w1 o h
    rw [s_X9_rowPeriod_L11] at h
    obtain ⟨g1, h⟩ := gd_e h
    rcases if_e h with h | h
    · cases h
      intro _ _ q
      cases q
    · obtain ⟨o2, e2, h⟩ := bd_e h
      rcases if_e h with h | h
      · cases h
        intro _ _ q
        cases q
        exact rfl
      · exact (ih _ _ h)
set_option maxHeartbeats 4000000 in
theorem fr_X9_rowPeriod {I : JI} {m : Nat} {r : Int32} {J : JI} {z : Nat} (h : s_X9_rowPeriod I m = some (r, J)) (hz_m : z ≠ m) : J z = I z := by
  unfold s_X9_rowPeriod at h
  obtain ⟨z2, I1, e1, h⟩ := bd2_e h
  rcases if_e h with h | h
  · obtain ⟨o2, e2, h1, h⟩ := bl_e h
    rcases o2 with y2 | y2
    · have h1 := h1 _ rfl
      cases h1
      exact (((frl_X9_rowPeriod_L11 hz_m _ _ _ e2) _ _ rfl).trans ((fr_X9_mayLook e1 (by omega)).trans rfl))
    have h := h _ rfl
    cases h
    exact ((fr_X9_mayLook e1 (by omega)).trans rfl)
  · cases h
    exact ((fr_X9_mayLook e1 (by omega)).trans rfl)
theorem ffl_X9_rowPeriod_L11 {I : JI} {m : Nat} {k : Nat} (hk0 : k ≠ 0) : ∀ (f : Nat) (w1 : Int32) (o : ((Int32 × JI) ⊕ (Int32))), s_X9_rowPeriod_L11 I m f w1 = some o → (∀ (r : Int32) (J : JI), o = .inl (r, J) → J m k = I m k) := by
  intro f
  induction f with
  | zero =>
    intro w1 o h
    rw [s_X9_rowPeriod_L11] at h
    cases h
  | succ f ih =>
    intro w1 o h
    rw [s_X9_rowPeriod_L11] at h
    obtain ⟨g1, h⟩ := gd_e h
    rcases if_e h with h | h
    · cases h
      intro _ _ q
      cases q
    · obtain ⟨o2, e2, h⟩ := bd_e h
      rcases if_e h with h | h
      · cases h
        intro _ _ q
        cases q
        exact rfl
      · exact (ih _ _ h)
set_option maxHeartbeats 4000000 in
theorem ff_X9_rowPeriod {I : JI} {m : Nat} {r : Int32} {J : JI} {k : Nat} (h : s_X9_rowPeriod I m = some (r, J)) (hk0 : k ≠ 0) : J m k = I m k := by
  unfold s_X9_rowPeriod at h
  obtain ⟨z2, I1, e1, h⟩ := bd2_e h
  rcases if_e h with h | h
  · obtain ⟨o2, e2, h1, h⟩ := bl_e h
    rcases o2 with y2 | y2
    · have h1 := h1 _ rfl
      cases h1
      exact (((ffl_X9_rowPeriod_L11 hk0 _ _ _ e2) _ _ rfl).trans ((ff_X9_mayLook e1 hk0).trans rfl))
    have h := h _ rfl
    cases h
    exact ((ff_X9_mayLook e1 hk0).trans rfl)
  · cases h
    exact ((ff_X9_mayLook e1 hk0).trans rfl)
noncomputable def s_X9_warpShare_L34 (I : JI) (m : Nat) (q2 : Int32) : Nat → Int32 → Int32 → Option (Int32 × Int32)
  | 0, _, _ => none
  | f + 1, w1, w3 => gd (vp_in 2 2030) <| if (I (m + 1) (Int32.toNatClampNeg 2)) ≤ w3 then (some (w1, w3)) else (bd (s_X9_shows I m q2 w3) fun z10 => lx (w1 + (s_X9_one z10)) fun v11 => s_X9_warpShare_L34 I m q2 f v11 (w3 + 1))
noncomputable def s_X9_warpShare_L22 (I : JI) (m : Nat) : Nat → Int32 → Int32 → Option (Int32 × Int32)
  | 0, _, _ => none
  | f + 1, w1, w2 => gd (vp_in 5 2030) <| if (I (m + 1) (Int32.toNatClampNeg 5)) ≤ w2 then (some (w1, w2)) else (bd (s_X9_warpShare_L34 I m w2 lf w1 0) fun (y12, y13) => s_X9_warpShare_L22 I m f y12 (w2 + 1))
noncomputable def s_X9_warpShare (I : JI) (m : Nat) : Option (UInt32 × JI) :=
  bd2 (s_X9_mayLook I m) fun z2 I1 => if z2 = true then (gd (vp_in 5 2030) <| if (I1 (m + 1) (Int32.toNatClampNeg 5)) = 0 then (some (0, I1)) else (bd (s_X9_warpShare_L22 I1 m lf 0 0) fun (y15, y16) => gd (vp_in 5 2030) <| gd (vp_in 2 2030) <| gd (vf_n32 (FP.fdiv (FP.i2f y15) (FP.i2f ((I1 (m + 1) (Int32.toNatClampNeg 5)) * (I1 (m + 1) (Int32.toNatClampNeg 2)))))) <| some ((FP.fdiv (FP.i2f y15) (FP.i2f ((I1 (m + 1) (Int32.toNatClampNeg 5)) * (I1 (m + 1) (Int32.toNatClampNeg 2))))), I1))) else (some (0, I1))
set_option maxHeartbeats 4000000 in
theorem l_X9_warpShare_L34 {Ω : JO} {S : JS} {Q : JQ} {I : JI} {m : Nat} {q2 : Int32} (hm : Is9 S m) : ∀ (f : Nat) (w1 : Int32) (w3 : Int32) (o : (Int32 × Int32)), s_X9_warpShare_L34 I m q2 f w1 w3 = some o → True → (∀ (y1 : Int32) (y3 : Int32) , o = (y1, y3) → AA Ω m_X9_warpShare (FQ Ω m_X9_warpShare Q) 0 0 62 [(1, .int y1), (3, .int y3), (2, .int q2), (0, .ref m)] [] I S) → AA Ω m_X9_warpShare (FQ Ω m_X9_warpShare Q) 0 0 34 [(1, .int w1), (3, .int w3), (2, .int q2), (0, .ref m)] [] I S := by
  intro f
  induction f with
  | zero =>
    intro w1 w3 o h hR hE
    rw [s_X9_warpShare_L34] at h
    cases h
  | succ f ih =>
    intro w1 w3 o h hR hE
    rw [s_X9_warpShare_L34] at h
    refine r_iload_n (pc' := 35) dX9_warpShare_34 rfl 1 rfl rfl ?_
    refine r_aload_n (pc' := 36) dX9_warpShare_35 rfl 3 rfl rfl ?_
    refine r_getO (pc' := 39) dX9_warpShare_36 fa_X9_9 hm.o rfl hm.r1 rfl ?_
    refine r_iconst (pc' := 40) (v := 2) dX9_warpShare_39 (by decide) rfl ?_
    obtain ⟨g8, h⟩ := gd_e h
    refine r_iaload (pc' := 41) dX9_warpShare_40 hm.c1 g8 rfl ?_
    refine r_icmp_ge (tgt := 62) (pc' := 44) dX9_warpShare_41 rfl rfl (fun h9 => ?_) (fun h9 => ?_)
    · have h := ifp h9 h
      cases h
      exact hE _ _ rfl
    · have h := ifn h9 h
      refine r_iload_n (pc' := 45) dX9_warpShare_44 rfl 0 rfl rfl ?_
      refine r_aload_n (pc' := 46) dX9_warpShare_45 rfl 3 rfl rfl ?_
      refine r_iload_n (pc' := 47) dX9_warpShare_46 rfl 2 rfl rfl ?_
      refine r_iload_n (pc' := 48) dX9_warpShare_47 rfl 1 rfl rfl ?_
      obtain ⟨z10, ez10, h⟩ := bd_e h
      refine r_callV2 (pc' := 51) (k' := 0) (n' := 0) dX9_warpShare_48 mb_X9_shows mi_X9_shows hm.o (by decide) rfl lk_X9_340 rfl rfl rfl (Nat.le_of_ble_eq_true rfl) rfl (c_X9_shows hm ez10 (cpI ?_))
      refine r_callS1 (pc' := 54) (k' := 0) (n' := 0) dX9_warpShare_51 mb_X9_one ms_X9_one lk_X9_324 rfl rfl rfl (Nat.le_of_ble_eq_true rfl) rfl (c_X9_one rfl (cpI ?_))
      refine r_iadd (pc' := 55) dX9_warpShare_54 rfl ?_
      refine r_istore_n (pc' := 56) (lv' := [(1, _), (3, _), (2, _), (0, _)]) dX9_warpShare_55 rfl (by decide) rfl rfl ?_
      have h := lx_e h
      refine r_iinc (pc' := 59) (v := _ + 1) (lv' := [(3, _), (1, _), (2, _), (0, _)]) dX9_warpShare_56 1 rfl rfl (by decide) rfl rfl ?_
      refine r_goto (tgt := 34) dX9_warpShare_59 rfl ?_
      refine aa_locs (ks := [1, 0, 2, 3]) (lv' := [(1, _), (3, _), (2, _), (0, _)]) rfl ?_
      exact ih _ _ _ h hR hE
set_option maxHeartbeats 4000000 in
theorem l_X9_warpShare_L22 {Ω : JO} {S : JS} {Q : JQ} {I : JI} {m : Nat} (hm : Is9 S m) : ∀ (f : Nat) (w1 : Int32) (w2 : Int32) (o : (Int32 × Int32)), s_X9_warpShare_L22 I m f w1 w2 = some o → True → (∀ (y1 : Int32) (y2 : Int32) , o = (y1, y2) → AA Ω m_X9_warpShare (FQ Ω m_X9_warpShare Q) 0 0 68 [(1, .int y1), (2, .int y2), (0, .ref m)] [] I S) → AA Ω m_X9_warpShare (FQ Ω m_X9_warpShare Q) 0 0 22 [(1, .int w1), (2, .int w2), (0, .ref m)] [] I S := by
  intro f
  induction f with
  | zero =>
    intro w1 w2 o h hR hE
    rw [s_X9_warpShare_L22] at h
    cases h
  | succ f ih =>
    intro w1 w2 o h hR hE
    rw [s_X9_warpShare_L22] at h
    refine r_iload_n (pc' := 23) dX9_warpShare_22 rfl 1 rfl rfl ?_
    refine r_aload_n (pc' := 24) dX9_warpShare_23 rfl 2 rfl rfl ?_
    refine r_getO (pc' := 27) dX9_warpShare_24 fa_X9_9 hm.o rfl hm.r1 rfl ?_
    refine r_iconst (pc' := 28) (v := 5) dX9_warpShare_27 (by decide) rfl ?_
    obtain ⟨g6, h⟩ := gd_e h
    refine r_iaload (pc' := 29) dX9_warpShare_28 hm.c1 g6 rfl ?_
    refine r_icmp_ge (tgt := 68) (pc' := 32) dX9_warpShare_29 rfl rfl (fun h7 => ?_) (fun h7 => ?_)
    · have h := ifp h7 h
      cases h
      exact hE _ _ rfl
    · have h := ifn h7 h
      refine r_iconst (pc' := 33) (v := 0) dX9_warpShare_32 (by decide) rfl ?_
      refine r_istore_n (pc' := 34) (lv' := [(3, _), (1, _), (2, _), (0, _)]) dX9_warpShare_33 rfl (by decide) rfl rfl ?_
      refine aa_locs (ks := [1, 0, 2, 3]) (lv' := [(1, _), (3, _), (2, _), (0, _)]) rfl ?_
      obtain ⟨o14, eo14, h⟩ := bd_e h
      refine l_X9_warpShare_L34 (Ω := Ω) hm _ _ _ _ eo14 trivial (fun y12 y13 q => ?_)
      subst q
      refine r_iinc (pc' := 65) (v := _ + 1) (lv' := [(2, _), (1, _), (3, _), (0, _)]) dX9_warpShare_62 2 rfl rfl (by decide) rfl rfl ?_
      refine r_goto (tgt := 22) dX9_warpShare_65 rfl ?_
      refine aa_locs (ks := [1, 0, 3]) (lv' := [(1, _), (2, _), (0, _)]) rfl ?_
      exact ih _ _ _ h hR hE
set_option maxHeartbeats 4000000 in
theorem c_X9_warpShare {Ω : JO} {I : JI} {S : JS} {Q : JQ} {m : Nat} {r : UInt32} {J : JI} (hm : Is9 S m) (h : s_X9_warpShare I m = some (r, J)) (hQ : Q (.inl (some (.float r))) J S) : Call Ω m_X9_warpShare [.ref m] I S Q := by
  refine call_of (by decide +kernel) rfl (Nat.le_of_ble_eq_true rfl) ?_
  change AA Ω m_X9_warpShare (FQ Ω m_X9_warpShare Q) 0 0 0 [(0, .ref m)] [] I S
  unfold s_X9_warpShare at h
  refine r_aload_n (pc' := 1) dX9_warpShare_0 rfl 0 rfl rfl ?_
  obtain ⟨z2, I1, ez2, h⟩ := bd2_e h
  refine r_callV0 (pc' := 4) (k' := 0) (n' := 0) dX9_warpShare_1 mb_X9_mayLook mi_X9_mayLook hm.o (by decide) rfl lk_X9_409 rfl rfl rfl (Nat.le_of_ble_eq_true rfl) rfl (c_X9_mayLook hm ez2 (cpI ?_))
  refine r_if_eq (tgt := 16) (pc' := 7) dX9_warpShare_4 rfl rfl (fun h3 => ?_) (fun h3 => ?_)
  · have h := ifn (zb_n0 h3) h
    refine r_fconst0 (pc' := 17) dX9_warpShare_16 rfl ?_
    cases h
    exact r_fret dX9_warpShare_17 rfl (by decide) (by decide) hQ
  · have h := ifp (zb_p0 h3) h
    refine r_aload_n (pc' := 8) dX9_warpShare_7 rfl 0 rfl rfl ?_
    refine r_getO (pc' := 11) dX9_warpShare_8 fa_X9_9 hm.o rfl hm.r1 rfl ?_
    refine r_iconst (pc' := 12) (v := 5) dX9_warpShare_11 (by decide) rfl ?_
    obtain ⟨g4, h⟩ := gd_e h
    refine r_iaload (pc' := 13) dX9_warpShare_12 hm.c1 g4 rfl ?_
    refine r_if_ne (tgt := 18) (pc' := 16) dX9_warpShare_13 rfl rfl (fun h5 => ?_) (fun h5 => ?_)
    · have h := ifn h5 h
      refine r_iconst (pc' := 19) (v := 0) dX9_warpShare_18 (by decide) rfl ?_
      refine r_istore_n (pc' := 20) (lv' := [(1, _), (0, _)]) dX9_warpShare_19 rfl (by decide) rfl rfl ?_
      refine r_iconst (pc' := 21) (v := 0) dX9_warpShare_20 (by decide) rfl ?_
      refine r_istore_n (pc' := 22) (lv' := [(2, _), (1, _), (0, _)]) dX9_warpShare_21 rfl (by decide) rfl rfl ?_
      refine aa_locs (ks := [1, 0, 2]) (lv' := [(1, _), (2, _), (0, _)]) rfl ?_
      obtain ⟨o17, eo17, h⟩ := bd_e h
      refine l_X9_warpShare_L22 (Ω := Ω) hm _ _ _ _ eo17 trivial (fun y15 y16 q => ?_)
      subst q
      refine r_iload_n (pc' := 69) dX9_warpShare_68 rfl 0 rfl rfl ?_
      refine r_i2f (pc' := 70) dX9_warpShare_69 rfl ?_
      refine r_aload_n (pc' := 71) dX9_warpShare_70 rfl 2 rfl rfl ?_
      refine r_getO (pc' := 74) dX9_warpShare_71 fa_X9_9 hm.o rfl hm.r1 rfl ?_
      refine r_iconst (pc' := 75) (v := 5) dX9_warpShare_74 (by decide) rfl ?_
      obtain ⟨g18, h⟩ := gd_e h
      refine r_iaload (pc' := 76) dX9_warpShare_75 hm.c1 g18 rfl ?_
      refine r_aload_n (pc' := 77) dX9_warpShare_76 rfl 2 rfl rfl ?_
      refine r_getO (pc' := 80) dX9_warpShare_77 fa_X9_9 hm.o rfl hm.r1 rfl ?_
      refine r_iconst (pc' := 81) (v := 2) dX9_warpShare_80 (by decide) rfl ?_
      obtain ⟨g19, h⟩ := gd_e h
      refine r_iaload (pc' := 82) dX9_warpShare_81 hm.c1 g19 rfl ?_
      refine r_imul (pc' := 83) dX9_warpShare_82 rfl ?_
      refine r_i2f (pc' := 84) dX9_warpShare_83 rfl ?_
      obtain ⟨g20, h⟩ := gd_e h
      refine r_fdiv (pc' := 85) dX9_warpShare_84 g20 rfl ?_
      cases h
      exact r_fret dX9_warpShare_85 rfl (by decide) (by decide) hQ
    · have h := ifp h5 h
      refine r_fconst0 (pc' := 17) dX9_warpShare_16 rfl ?_
      cases h
      exact r_fret dX9_warpShare_17 rfl (by decide) (by decide) hQ
set_option maxHeartbeats 4000000 in
theorem fr_X9_warpShare {I : JI} {m : Nat} {r : UInt32} {J : JI} {z : Nat} (h : s_X9_warpShare I m = some (r, J)) (hz_m : z ≠ m) : J z = I z := by
  unfold s_X9_warpShare at h
  obtain ⟨z2, I1, e1, h⟩ := bd2_e h
  rcases if_e h with h | h
  · obtain ⟨g2, h⟩ := gd_e h
    rcases if_e h with h | h
    · cases h
      exact ((fr_X9_mayLook e1 (by omega)).trans rfl)
    · obtain ⟨o3, e3, h⟩ := bd_e h
      obtain ⟨y15, y16⟩ := o3
      obtain ⟨g4, h⟩ := gd_e h
      obtain ⟨g5, h⟩ := gd_e h
      obtain ⟨g6, h⟩ := gd_e h
      cases h
      exact ((fr_X9_mayLook e1 (by omega)).trans rfl)
  · cases h
    exact ((fr_X9_mayLook e1 (by omega)).trans rfl)
set_option maxHeartbeats 4000000 in
theorem ff_X9_warpShare {I : JI} {m : Nat} {r : UInt32} {J : JI} {k : Nat} (h : s_X9_warpShare I m = some (r, J)) (hk0 : k ≠ 0) : J m k = I m k := by
  unfold s_X9_warpShare at h
  obtain ⟨z2, I1, e1, h⟩ := bd2_e h
  rcases if_e h with h | h
  · obtain ⟨g2, h⟩ := gd_e h
    rcases if_e h with h | h
    · cases h
      exact ((ff_X9_mayLook e1 hk0).trans rfl)
    · obtain ⟨o3, e3, h⟩ := bd_e h
      obtain ⟨y15, y16⟩ := o3
      obtain ⟨g4, h⟩ := gd_e h
      obtain ⟨g5, h⟩ := gd_e h
      obtain ⟨g6, h⟩ := gd_e h
      cases h
      exact ((ff_X9_mayLook e1 hk0).trans rfl)
  · cases h
    exact ((ff_X9_mayLook e1 hk0).trans rfl)
noncomputable def s_X9_averageLifts_L22 (I : JI) (m : Nat) : Nat → Int32 → Int32 → Option (Int32 × Int32)
  | 0, _, _ => none
  | f + 1, w1, w2 => gd (vp_in 3 2030) <| if (I (m + 1) (Int32.toNatClampNeg 3)) ≤ w2 then (some (w1, w2)) else (bd (s_X9_ofCard I m w2 0) fun v8 => bd (s_X9_countOf v8) fun v9 => s_X9_averageLifts_L22 I m f (w1 + v9) (w2 + 1))
noncomputable def s_X9_averageLifts (I : JI) (m : Nat) : Option (UInt64 × JI) :=
  bd2 (s_X9_mayLook I m) fun z2 I1 => if z2 = true then (gd (vp_in 3 2030) <| if (I1 (m + 1) (Int32.toNatClampNeg 3)) = 0 then (some (0, I1)) else (bd (s_X9_averageLifts_L22 I1 m lf 0 0) fun (y10, y11) => gd (vp_in 3 2030) <| gd (vf_n64 (FP.ddiv (FP.i2d y10) (FP.i2d (I1 (m + 1) (Int32.toNatClampNeg 3))))) <| some ((FP.ddiv (FP.i2d y10) (FP.i2d (I1 (m + 1) (Int32.toNatClampNeg 3)))), I1))) else (some (0, I1))
set_option maxHeartbeats 4000000 in
theorem l_X9_averageLifts_L22 {Ω : JO} {S : JS} {Q : JQ} {I : JI} {m : Nat} (hm : Is9 S m) : ∀ (f : Nat) (w1 : Int32) (w2 : Int32) (o : (Int32 × Int32)), s_X9_averageLifts_L22 I m f w1 w2 = some o → True → (∀ (y1 : Int32) (y2 : Int32) , o = (y1, y2) → AA Ω m_X9_averageLifts (FQ Ω m_X9_averageLifts Q) 0 0 50 [(1, .int y1), (2, .int y2), (0, .ref m)] [] I S) → AA Ω m_X9_averageLifts (FQ Ω m_X9_averageLifts Q) 0 0 22 [(1, .int w1), (2, .int w2), (0, .ref m)] [] I S := by
  intro f
  induction f with
  | zero =>
    intro w1 w2 o h hR hE
    rw [s_X9_averageLifts_L22] at h
    cases h
  | succ f ih =>
    intro w1 w2 o h hR hE
    rw [s_X9_averageLifts_L22] at h
    refine r_iload_n (pc' := 23) dX9_averageLifts_22 rfl 1 rfl rfl ?_
    refine r_aload_n (pc' := 24) dX9_averageLifts_23 rfl 2 rfl rfl ?_
    refine r_getO (pc' := 27) dX9_averageLifts_24 fa_X9_9 hm.o rfl hm.r1 rfl ?_
    refine r_iconst (pc' := 28) (v := 3) dX9_averageLifts_27 (by decide) rfl ?_
    obtain ⟨g6, h⟩ := gd_e h
    refine r_iaload (pc' := 29) dX9_averageLifts_28 hm.c1 g6 rfl ?_
    refine r_icmp_ge (tgt := 50) (pc' := 32) dX9_averageLifts_29 rfl rfl (fun h7 => ?_) (fun h7 => ?_)
    · have h := ifp h7 h
      cases h
      exact hE _ _ rfl
    · have h := ifn h7 h
      refine r_iload_n (pc' := 33) dX9_averageLifts_32 rfl 0 rfl rfl ?_
      refine r_aload_n (pc' := 34) dX9_averageLifts_33 rfl 2 rfl rfl ?_
      refine r_iload_n (pc' := 35) dX9_averageLifts_34 rfl 1 rfl rfl ?_
      refine r_iconst (pc' := 36) (v := 0) dX9_averageLifts_35 (by decide) rfl ?_
      obtain ⟨v8, ev8, h⟩ := bd_e h
      refine r_callV2 (pc' := 39) (k' := 0) (n' := 0) dX9_averageLifts_36 mb_X9_ofCard mi_X9_ofCard hm.o (by decide) rfl lk_X9_232 rfl rfl rfl (Nat.le_of_ble_eq_true rfl) rfl (c_X9_ofCard hm ev8 (cpI ?_))
      obtain ⟨v9, ev9, h⟩ := bd_e h
      refine r_callS1 (pc' := 42) (k' := 0) (n' := 0) dX9_averageLifts_39 mb_X9_countOf ms_X9_countOf lk_X9_430 rfl rfl rfl (Nat.le_of_ble_eq_true rfl) rfl (c_X9_countOf ev9 (cpI ?_))
      refine r_iadd (pc' := 43) dX9_averageLifts_42 rfl ?_
      refine r_istore_n (pc' := 44) (lv' := [(1, _), (2, _), (0, _)]) dX9_averageLifts_43 rfl (by decide) rfl rfl ?_
      refine r_iinc (pc' := 47) (v := _ + 1) (lv' := [(2, _), (1, _), (0, _)]) dX9_averageLifts_44 1 rfl rfl (by decide) rfl rfl ?_
      refine r_goto (tgt := 22) dX9_averageLifts_47 rfl ?_
      refine aa_locs (ks := [1, 0, 2]) (lv' := [(1, _), (2, _), (0, _)]) rfl ?_
      exact ih _ _ _ h hR hE
set_option maxHeartbeats 4000000 in
theorem c_X9_averageLifts {Ω : JO} {I : JI} {S : JS} {Q : JQ} {m : Nat} {r : UInt64} {J : JI} (hm : Is9 S m) (h : s_X9_averageLifts I m = some (r, J)) (hQ : Q (.inl (some (.double r))) J S) : Call Ω m_X9_averageLifts [.ref m] I S Q := by
  refine call_of (by decide +kernel) rfl (Nat.le_of_ble_eq_true rfl) ?_
  change AA Ω m_X9_averageLifts (FQ Ω m_X9_averageLifts Q) 0 0 0 [(0, .ref m)] [] I S
  unfold s_X9_averageLifts at h
  refine r_aload_n (pc' := 1) dX9_averageLifts_0 rfl 0 rfl rfl ?_
  obtain ⟨z2, I1, ez2, h⟩ := bd2_e h
  refine r_callV0 (pc' := 4) (k' := 0) (n' := 0) dX9_averageLifts_1 mb_X9_mayLook mi_X9_mayLook hm.o (by decide) rfl lk_X9_409 rfl rfl rfl (Nat.le_of_ble_eq_true rfl) rfl (c_X9_mayLook hm ez2 (cpI ?_))
  refine r_if_eq (tgt := 16) (pc' := 7) dX9_averageLifts_4 rfl rfl (fun h3 => ?_) (fun h3 => ?_)
  · have h := ifn (zb_n0 h3) h
    refine r_dconst0 (pc' := 17) dX9_averageLifts_16 rfl ?_
    cases h
    exact r_dret dX9_averageLifts_17 rfl (by decide) (by decide) hQ
  · have h := ifp (zb_p0 h3) h
    refine r_aload_n (pc' := 8) dX9_averageLifts_7 rfl 0 rfl rfl ?_
    refine r_getO (pc' := 11) dX9_averageLifts_8 fa_X9_9 hm.o rfl hm.r1 rfl ?_
    refine r_iconst (pc' := 12) (v := 3) dX9_averageLifts_11 (by decide) rfl ?_
    obtain ⟨g4, h⟩ := gd_e h
    refine r_iaload (pc' := 13) dX9_averageLifts_12 hm.c1 g4 rfl ?_
    refine r_if_ne (tgt := 18) (pc' := 16) dX9_averageLifts_13 rfl rfl (fun h5 => ?_) (fun h5 => ?_)
    · have h := ifn h5 h
      refine r_iconst (pc' := 19) (v := 0) dX9_averageLifts_18 (by decide) rfl ?_
      refine r_istore_n (pc' := 20) (lv' := [(1, _), (0, _)]) dX9_averageLifts_19 rfl (by decide) rfl rfl ?_
      refine r_iconst (pc' := 21) (v := 0) dX9_averageLifts_20 (by decide) rfl ?_
      refine r_istore_n (pc' := 22) (lv' := [(2, _), (1, _), (0, _)]) dX9_averageLifts_21 rfl (by decide) rfl rfl ?_
      refine aa_locs (ks := [1, 0, 2]) (lv' := [(1, _), (2, _), (0, _)]) rfl ?_
      obtain ⟨o12, eo12, h⟩ := bd_e h
      refine l_X9_averageLifts_L22 (Ω := Ω) hm _ _ _ _ eo12 trivial (fun y10 y11 q => ?_)
      subst q
      refine r_iload_n (pc' := 51) dX9_averageLifts_50 rfl 0 rfl rfl ?_
      refine r_i2d (pc' := 52) dX9_averageLifts_51 rfl ?_
      refine r_aload_n (pc' := 53) dX9_averageLifts_52 rfl 2 rfl rfl ?_
      refine r_getO (pc' := 56) dX9_averageLifts_53 fa_X9_9 hm.o rfl hm.r1 rfl ?_
      refine r_iconst (pc' := 57) (v := 3) dX9_averageLifts_56 (by decide) rfl ?_
      obtain ⟨g13, h⟩ := gd_e h
      refine r_iaload (pc' := 58) dX9_averageLifts_57 hm.c1 g13 rfl ?_
      refine r_i2d (pc' := 59) dX9_averageLifts_58 rfl ?_
      obtain ⟨g14, h⟩ := gd_e h
      refine r_ddiv (pc' := 60) dX9_averageLifts_59 g14 rfl ?_
      cases h
      exact r_dret dX9_averageLifts_60 rfl (by decide) (by decide) hQ
    · have h := ifp h5 h
      refine r_dconst0 (pc' := 17) dX9_averageLifts_16 rfl ?_
      cases h
      exact r_dret dX9_averageLifts_17 rfl (by decide) (by decide) hQ
set_option maxHeartbeats 4000000 in
theorem fr_X9_averageLifts {I : JI} {m : Nat} {r : UInt64} {J : JI} {z : Nat} (h : s_X9_averageLifts I m = some (r, J)) (hz_m : z ≠ m) : J z = I z := by
  unfold s_X9_averageLifts at h
  obtain ⟨z2, I1, e1, h⟩ := bd2_e h
  rcases if_e h with h | h
  · obtain ⟨g2, h⟩ := gd_e h
    rcases if_e h with h | h
    · cases h
      exact ((fr_X9_mayLook e1 (by omega)).trans rfl)
    · obtain ⟨o3, e3, h⟩ := bd_e h
      obtain ⟨y10, y11⟩ := o3
      obtain ⟨g4, h⟩ := gd_e h
      obtain ⟨g5, h⟩ := gd_e h
      cases h
      exact ((fr_X9_mayLook e1 (by omega)).trans rfl)
  · cases h
    exact ((fr_X9_mayLook e1 (by omega)).trans rfl)
set_option maxHeartbeats 4000000 in
theorem ff_X9_averageLifts {I : JI} {m : Nat} {r : UInt64} {J : JI} {k : Nat} (h : s_X9_averageLifts I m = some (r, J)) (hk0 : k ≠ 0) : J m k = I m k := by
  unfold s_X9_averageLifts at h
  obtain ⟨z2, I1, e1, h⟩ := bd2_e h
  rcases if_e h with h | h
  · obtain ⟨g2, h⟩ := gd_e h
    rcases if_e h with h | h
    · cases h
      exact ((ff_X9_mayLook e1 hk0).trans rfl)
    · obtain ⟨o3, e3, h⟩ := bd_e h
      obtain ⟨y10, y11⟩ := o3
      obtain ⟨g4, h⟩ := gd_e h
      obtain ⟨g5, h⟩ := gd_e h
      cases h
      exact ((ff_X9_mayLook e1 hk0).trans rfl)
  · cases h
    exact ((ff_X9_mayLook e1 hk0).trans rfl)
noncomputable def s_X9_isWrong (I : JI) (m : Nat) (x1 : Int32) : Option (Bool × JI) :=
  bd2 (s_X9_mayRow I m x1) fun z2 I1 => if z2 = true then (bd (s_X9_isWrongRow I1 m x1) fun z4 => if z4 = true then (some (true, I1)) else (some (false, I1))) else (some (false, I1))
set_option maxHeartbeats 4000000 in
theorem c_X9_isWrong {Ω : JO} {I : JI} {S : JS} {Q : JQ} {m : Nat} {x1 : Int32} {r : Bool} {J : JI} (hm : Is9 S m) (h : s_X9_isWrong I m x1 = some (r, J)) (hQ : Q (.inl (some (.int (zb r)))) J S) : Call Ω m_X9_isWrong [.ref m, .int x1] I S Q := by
  refine call_of (by decide +kernel) rfl (Nat.le_of_ble_eq_true rfl) ?_
  change AA Ω m_X9_isWrong (FQ Ω m_X9_isWrong Q) 0 0 0 [(0, .ref m), (1, .int x1)] [] I S
  unfold s_X9_isWrong at h
  refine r_aload_n (pc' := 1) dX9_isWrong_0 rfl 0 rfl rfl ?_
  refine r_iload_n (pc' := 2) dX9_isWrong_1 rfl 1 rfl rfl ?_
  obtain ⟨z2, I1, ez2, h⟩ := bd2_e h
  refine r_callV1 (pc' := 5) (k' := 0) (n' := 0) dX9_isWrong_2 mb_X9_mayRow mi_X9_mayRow hm.o (by decide) rfl lk_X9_442 rfl rfl rfl (Nat.le_of_ble_eq_true rfl) rfl (c_X9_mayRow hm ez2 (cpI ?_))
  refine r_if_eq (tgt := 20) (pc' := 8) dX9_isWrong_5 rfl rfl (fun h3 => ?_) (fun h3 => ?_)
  · have h := ifn (zb_n0 h3) h
    refine r_iconst (pc' := 21) (v := 0) dX9_isWrong_20 (by decide) rfl ?_
    cases h
    exact r_zret dX9_isWrong_21 rfl (by decide) (by decide) (by decide) hQ
  · have h := ifp (zb_p0 h3) h
    refine r_aload_n (pc' := 9) dX9_isWrong_8 rfl 0 rfl rfl ?_
    refine r_iload_n (pc' := 10) dX9_isWrong_9 rfl 1 rfl rfl ?_
    obtain ⟨z4, ez4, h⟩ := bd_e h
    refine r_callV1 (pc' := 13) (k' := 0) (n' := 0) dX9_isWrong_10 mb_X9_isWrongRow mi_X9_isWrongRow hm.o (by decide) rfl lk_X9_381 rfl rfl rfl (Nat.le_of_ble_eq_true rfl) rfl (c_X9_isWrongRow hm ez4 (cpI ?_))
    refine r_if_eq (tgt := 20) (pc' := 16) dX9_isWrong_13 rfl rfl (fun h5 => ?_) (fun h5 => ?_)
    · have h := ifn (zb_n0 h5) h
      refine r_iconst (pc' := 21) (v := 0) dX9_isWrong_20 (by decide) rfl ?_
      cases h
      exact r_zret dX9_isWrong_21 rfl (by decide) (by decide) (by decide) hQ
    · have h := ifp (zb_p0 h5) h
      refine r_iconst (pc' := 17) (v := 1) dX9_isWrong_16 (by decide) rfl ?_
      refine r_goto (tgt := 21) dX9_isWrong_17 rfl ?_
      cases h
      exact r_zret dX9_isWrong_21 rfl (by decide) (by decide) (by decide) hQ
set_option maxHeartbeats 4000000 in
theorem fr_X9_isWrong {I : JI} {m : Nat} {x1 : Int32} {r : Bool} {J : JI} {z : Nat} (h : s_X9_isWrong I m x1 = some (r, J)) (hz_m : z ≠ m) : J z = I z := by
  unfold s_X9_isWrong at h
  obtain ⟨z2, I1, e1, h⟩ := bd2_e h
  rcases if_e h with h | h
  · obtain ⟨o2, e2, h⟩ := bd_e h
    rcases if_e h with h | h
    · cases h
      exact ((fr_X9_mayRow e1 (by omega)).trans rfl)
    · cases h
      exact ((fr_X9_mayRow e1 (by omega)).trans rfl)
  · cases h
    exact ((fr_X9_mayRow e1 (by omega)).trans rfl)
set_option maxHeartbeats 4000000 in
theorem ff_X9_isWrong {I : JI} {m : Nat} {x1 : Int32} {r : Bool} {J : JI} {k : Nat} (h : s_X9_isWrong I m x1 = some (r, J)) (hk0 : k ≠ 0) : J m k = I m k := by
  unfold s_X9_isWrong at h
  obtain ⟨z2, I1, e1, h⟩ := bd2_e h
  rcases if_e h with h | h
  · obtain ⟨o2, e2, h⟩ := bd_e h
    rcases if_e h with h | h
    · cases h
      exact ((ff_X9_mayRow e1 hk0).trans rfl)
    · cases h
      exact ((ff_X9_mayRow e1 hk0).trans rfl)
  · cases h
    exact ((ff_X9_mayRow e1 hk0).trans rfl)
noncomputable def s_X9_wrongCount (I : JI) (m : Nat) : Option (Int32 × JI) :=
  bd2 (s_X9_mayLook I m) fun z2 I1 => if z2 = true then (bd (s_X9_wrongs I1 m) fun v4 => some (v4, I1)) else (some (0, I1))
set_option maxHeartbeats 4000000 in
theorem c_X9_wrongCount {Ω : JO} {I : JI} {S : JS} {Q : JQ} {m : Nat} {r : Int32} {J : JI} (hm : Is9 S m) (h : s_X9_wrongCount I m = some (r, J)) (hQ : Q (.inl (some (.int r))) J S) : Call Ω m_X9_wrongCount [.ref m] I S Q := by
  refine call_of (by decide +kernel) rfl (Nat.le_of_ble_eq_true rfl) ?_
  change AA Ω m_X9_wrongCount (FQ Ω m_X9_wrongCount Q) 0 0 0 [(0, .ref m)] [] I S
  unfold s_X9_wrongCount at h
  refine r_aload_n (pc' := 1) dX9_wrongCount_0 rfl 0 rfl rfl ?_
  obtain ⟨z2, I1, ez2, h⟩ := bd2_e h
  refine r_callV0 (pc' := 4) (k' := 0) (n' := 0) dX9_wrongCount_1 mb_X9_mayLook mi_X9_mayLook hm.o (by decide) rfl lk_X9_409 rfl rfl rfl (Nat.le_of_ble_eq_true rfl) rfl (c_X9_mayLook hm ez2 (cpI ?_))
  refine r_if_eq (tgt := 14) (pc' := 7) dX9_wrongCount_4 rfl rfl (fun h3 => ?_) (fun h3 => ?_)
  · have h := ifn (zb_n0 h3) h
    refine r_iconst (pc' := 15) (v := 0) dX9_wrongCount_14 (by decide) rfl ?_
    cases h
    exact r_iret dX9_wrongCount_15 rfl (by decide) (by decide) hQ
  · have h := ifp (zb_p0 h3) h
    refine r_aload_n (pc' := 8) dX9_wrongCount_7 rfl 0 rfl rfl ?_
    obtain ⟨v4, ev4, h⟩ := bd_e h
    refine r_callV0 (pc' := 11) (k' := 0) (n' := 0) dX9_wrongCount_8 mb_X9_wrongs mi_X9_wrongs hm.o (by decide) rfl lk_X9_384 rfl rfl rfl (Nat.le_of_ble_eq_true rfl) rfl (c_X9_wrongs hm ev4 (cpI ?_))
    refine r_goto (tgt := 15) dX9_wrongCount_11 rfl ?_
    cases h
    exact r_iret dX9_wrongCount_15 rfl (by decide) (by decide) hQ
set_option maxHeartbeats 4000000 in
theorem fr_X9_wrongCount {I : JI} {m : Nat} {r : Int32} {J : JI} {z : Nat} (h : s_X9_wrongCount I m = some (r, J)) (hz_m : z ≠ m) : J z = I z := by
  unfold s_X9_wrongCount at h
  obtain ⟨z2, I1, e1, h⟩ := bd2_e h
  rcases if_e h with h | h
  · obtain ⟨o2, e2, h⟩ := bd_e h
    cases h
    exact ((fr_X9_mayLook e1 (by omega)).trans rfl)
  · cases h
    exact ((fr_X9_mayLook e1 (by omega)).trans rfl)
set_option maxHeartbeats 4000000 in
theorem ff_X9_wrongCount {I : JI} {m : Nat} {r : Int32} {J : JI} {k : Nat} (h : s_X9_wrongCount I m = some (r, J)) (hk0 : k ≠ 0) : J m k = I m k := by
  unfold s_X9_wrongCount at h
  obtain ⟨z2, I1, e1, h⟩ := bd2_e h
  rcases if_e h with h | h
  · obtain ⟨o2, e2, h⟩ := bd_e h
    cases h
    exact ((ff_X9_mayLook e1 hk0).trans rfl)
  · cases h
    exact ((ff_X9_mayLook e1 hk0).trans rfl)
noncomputable def s_X9_firstWrongRow_L11 (I : JI) (m : Nat) : Nat → Int32 → Option ((Int32 × JI) ⊕ (Int32))
  | 0, _ => none
  | f + 1, w1 => gd (vp_in 5 2030) <| if (I (m + 1) (Int32.toNatClampNeg 5)) ≤ w1 then (some (.inr (w1))) else (bd (s_X9_isWrongRow I m w1) fun z6 => if z6 = true then (some (.inl (w1, I))) else (s_X9_firstWrongRow_L11 I m f (w1 + 1)))
noncomputable def s_X9_firstWrongRow (I : JI) (m : Nat) : Option (Int32 × JI) :=
  bd2 (s_X9_mayLook I m) fun z2 I1 => if z2 = true then (bl (s_X9_firstWrongRow_L11 I1 m lf 0) fun y8 => some ((-1), I1)) else (some (0, I1))
set_option maxHeartbeats 4000000 in
theorem l_X9_firstWrongRow_L11 {Ω : JO} {S : JS} {Q : JQ} {I : JI} {m : Nat} (hm : Is9 S m) : ∀ (f : Nat) (w1 : Int32) (o : ((Int32 × JI) ⊕ (Int32))), s_X9_firstWrongRow_L11 I m f w1 = some o → (∀ (r : Int32) (J : JI), o = .inl (r, J) → Q (.inl (some (.int r))) J S) → (∀ (y1 : Int32) , o = .inr (y1) → AA Ω m_X9_firstWrongRow (FQ Ω m_X9_firstWrongRow Q) 0 0 37 [(1, .int y1), (0, .ref m)] [] I S) → AA Ω m_X9_firstWrongRow (FQ Ω m_X9_firstWrongRow Q) 0 0 11 [(1, .int w1), (0, .ref m)] [] I S := by
  intro f
  induction f with
  | zero =>
    intro w1 o h hR hE
    rw [s_X9_firstWrongRow_L11] at h
    cases h
  | succ f ih =>
    intro w1 o h hR hE
    rw [s_X9_firstWrongRow_L11] at h
    refine r_iload_n (pc' := 12) dX9_firstWrongRow_11 rfl 0 rfl rfl ?_
    refine r_aload_n (pc' := 13) dX9_firstWrongRow_12 rfl 1 rfl rfl ?_
    refine r_getO (pc' := 16) dX9_firstWrongRow_13 fa_X9_9 hm.o rfl hm.r1 rfl ?_
    refine r_iconst (pc' := 17) (v := 5) dX9_firstWrongRow_16 (by decide) rfl ?_
    obtain ⟨g4, h⟩ := gd_e h
    refine r_iaload (pc' := 18) dX9_firstWrongRow_17 hm.c1 g4 rfl ?_
    refine r_icmp_ge (tgt := 37) (pc' := 21) dX9_firstWrongRow_18 rfl rfl (fun h5 => ?_) (fun h5 => ?_)
    · have h := ifp h5 h
      cases h
      exact hE _ rfl
    · have h := ifn h5 h
      refine r_aload_n (pc' := 22) dX9_firstWrongRow_21 rfl 1 rfl rfl ?_
      refine r_iload_n (pc' := 23) dX9_firstWrongRow_22 rfl 0 rfl rfl ?_
      obtain ⟨z6, ez6, h⟩ := bd_e h
      refine r_callV1 (pc' := 26) (k' := 0) (n' := 0) dX9_firstWrongRow_23 mb_X9_isWrongRow mi_X9_isWrongRow hm.o (by decide) rfl lk_X9_381 rfl rfl rfl (Nat.le_of_ble_eq_true rfl) rfl (c_X9_isWrongRow hm ez6 (cpI ?_))
      refine r_if_eq (tgt := 31) (pc' := 29) dX9_firstWrongRow_26 rfl rfl (fun h7 => ?_) (fun h7 => ?_)
      · have h := ifn (zb_n0 h7) h
        refine r_iinc (pc' := 34) (v := _ + 1) (lv' := [(1, _), (0, _)]) dX9_firstWrongRow_31 0 rfl rfl (by decide) rfl rfl ?_
        refine r_goto (tgt := 11) dX9_firstWrongRow_34 rfl ?_
        exact ih _ _ h hR hE
      · have h := ifp (zb_p0 h7) h
        refine r_iload_n (pc' := 30) dX9_firstWrongRow_29 rfl 0 rfl rfl ?_
        cases h
        exact r_iret dX9_firstWrongRow_30 rfl (by decide) (by decide) (hR _ _ rfl)
set_option maxHeartbeats 4000000 in
theorem c_X9_firstWrongRow {Ω : JO} {I : JI} {S : JS} {Q : JQ} {m : Nat} {r : Int32} {J : JI} (hm : Is9 S m) (h : s_X9_firstWrongRow I m = some (r, J)) (hQ : Q (.inl (some (.int r))) J S) : Call Ω m_X9_firstWrongRow [.ref m] I S Q := by
  refine call_of (by decide +kernel) rfl (Nat.le_of_ble_eq_true rfl) ?_
  change AA Ω m_X9_firstWrongRow (FQ Ω m_X9_firstWrongRow Q) 0 0 0 [(0, .ref m)] [] I S
  unfold s_X9_firstWrongRow at h
  refine r_aload_n (pc' := 1) dX9_firstWrongRow_0 rfl 0 rfl rfl ?_
  obtain ⟨z2, I1, ez2, h⟩ := bd2_e h
  refine r_callV0 (pc' := 4) (k' := 0) (n' := 0) dX9_firstWrongRow_1 mb_X9_mayLook mi_X9_mayLook hm.o (by decide) rfl lk_X9_409 rfl rfl rfl (Nat.le_of_ble_eq_true rfl) rfl (c_X9_mayLook hm ez2 (cpI ?_))
  refine r_if_ne (tgt := 9) (pc' := 7) dX9_firstWrongRow_4 rfl rfl (fun h3 => ?_) (fun h3 => ?_)
  · have h := ifp (zb_p0 h3) h
    refine r_iconst (pc' := 10) (v := 0) dX9_firstWrongRow_9 (by decide) rfl ?_
    refine r_istore_n (pc' := 11) (lv' := [(1, _), (0, _)]) dX9_firstWrongRow_10 rfl (by decide) rfl rfl ?_
    obtain ⟨o9, eo9, h1, h⟩ := bl_e h
    refine l_X9_firstWrongRow_L11 (Ω := Ω) hm _ _ _ eo9 (fun r J q => ?_) (fun y8 q => ?_)
    · have h1 := h1 _ q
      cases h1
      exact hQ
    have h := h _ q
    refine r_iconst (pc' := 38) (v := -1) dX9_firstWrongRow_37 (by decide) rfl ?_
    cases h
    exact r_iret dX9_firstWrongRow_38 rfl (by decide) (by decide) hQ
  · have h := ifn (zb_n0 h3) h
    refine r_iconst (pc' := 8) (v := 0) dX9_firstWrongRow_7 (by decide) rfl ?_
    cases h
    exact r_iret dX9_firstWrongRow_8 rfl (by decide) (by decide) hQ
theorem frl_X9_firstWrongRow_L11 {I : JI} {m : Nat} {z : Nat} (hz_m : z ≠ m) : ∀ (f : Nat) (w1 : Int32) (o : ((Int32 × JI) ⊕ (Int32))), s_X9_firstWrongRow_L11 I m f w1 = some o → (∀ (r : Int32) (J : JI), o = .inl (r, J) → J z = I z) := by
  intro f
  induction f with
  | zero =>
    intro w1 o h
    rw [s_X9_firstWrongRow_L11] at h
    cases h
  | succ f ih =>
    intro w1 o h
    rw [s_X9_firstWrongRow_L11] at h
    obtain ⟨g1, h⟩ := gd_e h
    rcases if_e h with h | h
    · cases h
      intro _ _ q
      cases q
    · obtain ⟨o2, e2, h⟩ := bd_e h
      rcases if_e h with h | h
      · cases h
        intro _ _ q
        cases q
        exact rfl
      · exact (ih _ _ h)
set_option maxHeartbeats 4000000 in
theorem fr_X9_firstWrongRow {I : JI} {m : Nat} {r : Int32} {J : JI} {z : Nat} (h : s_X9_firstWrongRow I m = some (r, J)) (hz_m : z ≠ m) : J z = I z := by
  unfold s_X9_firstWrongRow at h
  obtain ⟨z2, I1, e1, h⟩ := bd2_e h
  rcases if_e h with h | h
  · obtain ⟨o2, e2, h1, h⟩ := bl_e h
    rcases o2 with y2 | y2
    · have h1 := h1 _ rfl
      cases h1
      exact (((frl_X9_firstWrongRow_L11 hz_m _ _ _ e2) _ _ rfl).trans ((fr_X9_mayLook e1 (by omega)).trans rfl))
    have h := h _ rfl
    cases h
    exact ((fr_X9_mayLook e1 (by omega)).trans rfl)
  · cases h
    exact ((fr_X9_mayLook e1 (by omega)).trans rfl)
theorem ffl_X9_firstWrongRow_L11 {I : JI} {m : Nat} {k : Nat} (hk0 : k ≠ 0) : ∀ (f : Nat) (w1 : Int32) (o : ((Int32 × JI) ⊕ (Int32))), s_X9_firstWrongRow_L11 I m f w1 = some o → (∀ (r : Int32) (J : JI), o = .inl (r, J) → J m k = I m k) := by
  intro f
  induction f with
  | zero =>
    intro w1 o h
    rw [s_X9_firstWrongRow_L11] at h
    cases h
  | succ f ih =>
    intro w1 o h
    rw [s_X9_firstWrongRow_L11] at h
    obtain ⟨g1, h⟩ := gd_e h
    rcases if_e h with h | h
    · cases h
      intro _ _ q
      cases q
    · obtain ⟨o2, e2, h⟩ := bd_e h
      rcases if_e h with h | h
      · cases h
        intro _ _ q
        cases q
        exact rfl
      · exact (ih _ _ h)
set_option maxHeartbeats 4000000 in
theorem ff_X9_firstWrongRow {I : JI} {m : Nat} {r : Int32} {J : JI} {k : Nat} (h : s_X9_firstWrongRow I m = some (r, J)) (hk0 : k ≠ 0) : J m k = I m k := by
  unfold s_X9_firstWrongRow at h
  obtain ⟨z2, I1, e1, h⟩ := bd2_e h
  rcases if_e h with h | h
  · obtain ⟨o2, e2, h1, h⟩ := bl_e h
    rcases o2 with y2 | y2
    · have h1 := h1 _ rfl
      cases h1
      exact (((ffl_X9_firstWrongRow_L11 hk0 _ _ _ e2) _ _ rfl).trans ((ff_X9_mayLook e1 hk0).trans rfl))
    have h := h _ rfl
    cases h
    exact ((ff_X9_mayLook e1 hk0).trans rfl)
  · cases h
    exact ((ff_X9_mayLook e1 hk0).trans rfl)
noncomputable def s_X9_swapFirst (I : JI) (m : Nat) : Option (Int32 × JI) :=
  bd2 (s_X9_mayLook I m) fun z2 I1 => if z2 = true then (bd (s_X9_suspicion I1 m) fun v4 => if v4 = (-1) then (some ((-1), I1)) else (some ((v4 / 12), I1))) else (some (0, I1))
set_option maxHeartbeats 4000000 in
theorem c_X9_swapFirst {Ω : JO} {I : JI} {S : JS} {Q : JQ} {m : Nat} {r : Int32} {J : JI} (hm : Is9 S m) (h : s_X9_swapFirst I m = some (r, J)) (hQ : Q (.inl (some (.int r))) J S) : Call Ω m_X9_swapFirst [.ref m] I S Q := by
  refine call_of (by decide +kernel) rfl (Nat.le_of_ble_eq_true rfl) ?_
  change AA Ω m_X9_swapFirst (FQ Ω m_X9_swapFirst Q) 0 0 0 [(0, .ref m)] [] I S
  unfold s_X9_swapFirst at h
  refine r_aload_n (pc' := 1) dX9_swapFirst_0 rfl 0 rfl rfl ?_
  obtain ⟨z2, I1, ez2, h⟩ := bd2_e h
  refine r_callV0 (pc' := 4) (k' := 0) (n' := 0) dX9_swapFirst_1 mb_X9_mayLook mi_X9_mayLook hm.o (by decide) rfl lk_X9_409 rfl rfl rfl (Nat.le_of_ble_eq_true rfl) rfl (c_X9_mayLook hm ez2 (cpI ?_))
  refine r_if_ne (tgt := 9) (pc' := 7) dX9_swapFirst_4 rfl rfl (fun h3 => ?_) (fun h3 => ?_)
  · have h := ifp (zb_p0 h3) h
    refine r_aload_n (pc' := 10) dX9_swapFirst_9 rfl 0 rfl rfl ?_
    obtain ⟨v4, ev4, h⟩ := bd_e h
    refine r_callV0 (pc' := 13) (k' := 0) (n' := 0) dX9_swapFirst_10 mb_X9_suspicion mi_X9_suspicion hm.o (by decide) rfl lk_X9_454 rfl rfl rfl (Nat.le_of_ble_eq_true rfl) rfl (c_X9_suspicion hm ev4 (cpI ?_))
    refine r_istore_n (pc' := 14) (lv' := [(1, _), (0, _)]) dX9_swapFirst_13 rfl (by decide) rfl rfl ?_
    refine r_iload_n (pc' := 15) dX9_swapFirst_14 rfl 0 rfl rfl ?_
    refine r_iconst (pc' := 16) (v := -1) dX9_swapFirst_15 (by decide) rfl ?_
    refine r_icmp_ne (tgt := 23) (pc' := 19) dX9_swapFirst_16 rfl rfl (fun h5 => ?_) (fun h5 => ?_)
    · have h := ifn h5 h
      refine r_iload_n (pc' := 24) dX9_swapFirst_23 rfl 0 rfl rfl ?_
      refine r_bipush (pc' := 26) (v := 12) dX9_swapFirst_24 (by decide) rfl ?_
      refine r_idiv (pc' := 27) dX9_swapFirst_26 (by decide) rfl ?_
      cases h
      exact r_iret dX9_swapFirst_27 rfl (by decide) (by decide) hQ
    · have h := ifp h5 h
      refine r_iconst (pc' := 20) (v := -1) dX9_swapFirst_19 (by decide) rfl ?_
      refine r_goto (tgt := 27) dX9_swapFirst_20 rfl ?_
      cases h
      exact r_iret dX9_swapFirst_27 rfl (by decide) (by decide) hQ
  · have h := ifn (zb_n0 h3) h
    refine r_iconst (pc' := 8) (v := 0) dX9_swapFirst_7 (by decide) rfl ?_
    cases h
    exact r_iret dX9_swapFirst_8 rfl (by decide) (by decide) hQ
set_option maxHeartbeats 4000000 in
theorem fr_X9_swapFirst {I : JI} {m : Nat} {r : Int32} {J : JI} {z : Nat} (h : s_X9_swapFirst I m = some (r, J)) (hz_m : z ≠ m) : J z = I z := by
  unfold s_X9_swapFirst at h
  obtain ⟨z2, I1, e1, h⟩ := bd2_e h
  rcases if_e h with h | h
  · obtain ⟨o2, e2, h⟩ := bd_e h
    rcases if_e h with h | h
    · cases h
      exact ((fr_X9_mayLook e1 (by omega)).trans rfl)
    · cases h
      exact ((fr_X9_mayLook e1 (by omega)).trans rfl)
  · cases h
    exact ((fr_X9_mayLook e1 (by omega)).trans rfl)
set_option maxHeartbeats 4000000 in
theorem ff_X9_swapFirst {I : JI} {m : Nat} {r : Int32} {J : JI} {k : Nat} (h : s_X9_swapFirst I m = some (r, J)) (hk0 : k ≠ 0) : J m k = I m k := by
  unfold s_X9_swapFirst at h
  obtain ⟨z2, I1, e1, h⟩ := bd2_e h
  rcases if_e h with h | h
  · obtain ⟨o2, e2, h⟩ := bd_e h
    rcases if_e h with h | h
    · cases h
      exact ((ff_X9_mayLook e1 hk0).trans rfl)
    · cases h
      exact ((ff_X9_mayLook e1 hk0).trans rfl)
  · cases h
    exact ((ff_X9_mayLook e1 hk0).trans rfl)
noncomputable def s_X9_swapSecond (I : JI) (m : Nat) : Option (Int32 × JI) :=
  bd2 (s_X9_mayLook I m) fun z2 I1 => if z2 = true then (bd (s_X9_suspicion I1 m) fun v4 => if v4 = (-1) then (some ((-1), I1)) else (some ((v4 - v4 / 12 * 12), I1))) else (some (0, I1))
set_option maxHeartbeats 4000000 in
theorem c_X9_swapSecond {Ω : JO} {I : JI} {S : JS} {Q : JQ} {m : Nat} {r : Int32} {J : JI} (hm : Is9 S m) (h : s_X9_swapSecond I m = some (r, J)) (hQ : Q (.inl (some (.int r))) J S) : Call Ω m_X9_swapSecond [.ref m] I S Q := by
  refine call_of (by decide +kernel) rfl (Nat.le_of_ble_eq_true rfl) ?_
  change AA Ω m_X9_swapSecond (FQ Ω m_X9_swapSecond Q) 0 0 0 [(0, .ref m)] [] I S
  unfold s_X9_swapSecond at h
  refine r_aload_n (pc' := 1) dX9_swapSecond_0 rfl 0 rfl rfl ?_
  obtain ⟨z2, I1, ez2, h⟩ := bd2_e h
  refine r_callV0 (pc' := 4) (k' := 0) (n' := 0) dX9_swapSecond_1 mb_X9_mayLook mi_X9_mayLook hm.o (by decide) rfl lk_X9_409 rfl rfl rfl (Nat.le_of_ble_eq_true rfl) rfl (c_X9_mayLook hm ez2 (cpI ?_))
  refine r_if_ne (tgt := 9) (pc' := 7) dX9_swapSecond_4 rfl rfl (fun h3 => ?_) (fun h3 => ?_)
  · have h := ifp (zb_p0 h3) h
    refine r_aload_n (pc' := 10) dX9_swapSecond_9 rfl 0 rfl rfl ?_
    obtain ⟨v4, ev4, h⟩ := bd_e h
    refine r_callV0 (pc' := 13) (k' := 0) (n' := 0) dX9_swapSecond_10 mb_X9_suspicion mi_X9_suspicion hm.o (by decide) rfl lk_X9_454 rfl rfl rfl (Nat.le_of_ble_eq_true rfl) rfl (c_X9_suspicion hm ev4 (cpI ?_))
    refine r_istore_n (pc' := 14) (lv' := [(1, _), (0, _)]) dX9_swapSecond_13 rfl (by decide) rfl rfl ?_
    refine r_iload_n (pc' := 15) dX9_swapSecond_14 rfl 0 rfl rfl ?_
    refine r_iconst (pc' := 16) (v := -1) dX9_swapSecond_15 (by decide) rfl ?_
    refine r_icmp_ne (tgt := 23) (pc' := 19) dX9_swapSecond_16 rfl rfl (fun h5 => ?_) (fun h5 => ?_)
    · have h := ifn h5 h
      refine r_iload_n (pc' := 24) dX9_swapSecond_23 rfl 0 rfl rfl ?_
      refine r_bipush (pc' := 26) (v := 12) dX9_swapSecond_24 (by decide) rfl ?_
      refine r_irem (pc' := 27) dX9_swapSecond_26 (by decide) rfl ?_
      cases h
      exact r_iret dX9_swapSecond_27 rfl (by decide) (by decide) hQ
    · have h := ifp h5 h
      refine r_iconst (pc' := 20) (v := -1) dX9_swapSecond_19 (by decide) rfl ?_
      refine r_goto (tgt := 27) dX9_swapSecond_20 rfl ?_
      cases h
      exact r_iret dX9_swapSecond_27 rfl (by decide) (by decide) hQ
  · have h := ifn (zb_n0 h3) h
    refine r_iconst (pc' := 8) (v := 0) dX9_swapSecond_7 (by decide) rfl ?_
    cases h
    exact r_iret dX9_swapSecond_8 rfl (by decide) (by decide) hQ
set_option maxHeartbeats 4000000 in
theorem fr_X9_swapSecond {I : JI} {m : Nat} {r : Int32} {J : JI} {z : Nat} (h : s_X9_swapSecond I m = some (r, J)) (hz_m : z ≠ m) : J z = I z := by
  unfold s_X9_swapSecond at h
  obtain ⟨z2, I1, e1, h⟩ := bd2_e h
  rcases if_e h with h | h
  · obtain ⟨o2, e2, h⟩ := bd_e h
    rcases if_e h with h | h
    · cases h
      exact ((fr_X9_mayLook e1 (by omega)).trans rfl)
    · cases h
      exact ((fr_X9_mayLook e1 (by omega)).trans rfl)
  · cases h
    exact ((fr_X9_mayLook e1 (by omega)).trans rfl)
set_option maxHeartbeats 4000000 in
theorem ff_X9_swapSecond {I : JI} {m : Nat} {r : Int32} {J : JI} {k : Nat} (h : s_X9_swapSecond I m = some (r, J)) (hk0 : k ≠ 0) : J m k = I m k := by
  unfold s_X9_swapSecond at h
  obtain ⟨z2, I1, e1, h⟩ := bd2_e h
  rcases if_e h with h | h
  · obtain ⟨o2, e2, h⟩ := bd_e h
    rcases if_e h with h | h
    · cases h
      exact ((ff_X9_mayLook e1 hk0).trans rfl)
    · cases h
      exact ((ff_X9_mayLook e1 hk0).trans rfl)
  · cases h
    exact ((ff_X9_mayLook e1 hk0).trans rfl)
noncomputable def s_X9_yarn (I : JI) (m : Nat) (x1 : Int32) : Option (Int32 × JI) :=
  bd2 (s_X9_mayColour I m x1) fun z2 I1 => if z2 = true then (gd (vp_in (110 + x1) 2030) <| some ((I1 (m + 1) (Int32.toNatClampNeg (110 + x1))), I1)) else (some (0, I1))
set_option maxHeartbeats 4000000 in
theorem c_X9_yarn {Ω : JO} {I : JI} {S : JS} {Q : JQ} {m : Nat} {x1 : Int32} {r : Int32} {J : JI} (hm : Is9 S m) (h : s_X9_yarn I m x1 = some (r, J)) (hQ : Q (.inl (some (.int r))) J S) : Call Ω m_X9_yarn [.ref m, .int x1] I S Q := by
  refine call_of (by decide +kernel) rfl (Nat.le_of_ble_eq_true rfl) ?_
  change AA Ω m_X9_yarn (FQ Ω m_X9_yarn Q) 0 0 0 [(0, .ref m), (1, .int x1)] [] I S
  unfold s_X9_yarn at h
  refine r_aload_n (pc' := 1) dX9_yarn_0 rfl 0 rfl rfl ?_
  refine r_iload_n (pc' := 2) dX9_yarn_1 rfl 1 rfl rfl ?_
  obtain ⟨z2, I1, ez2, h⟩ := bd2_e h
  refine r_callV1 (pc' := 5) (k' := 0) (n' := 0) dX9_yarn_2 mb_X9_mayColour mi_X9_mayColour hm.o (by decide) rfl lk_X9_445 rfl rfl rfl (Nat.le_of_ble_eq_true rfl) rfl (c_X9_mayColour hm ez2 (cpI ?_))
  refine r_if_eq (tgt := 20) (pc' := 8) dX9_yarn_5 rfl rfl (fun h3 => ?_) (fun h3 => ?_)
  · have h := ifn (zb_n0 h3) h
    refine r_iconst (pc' := 21) (v := 0) dX9_yarn_20 (by decide) rfl ?_
    cases h
    exact r_iret dX9_yarn_21 rfl (by decide) (by decide) hQ
  · have h := ifp (zb_p0 h3) h
    refine r_aload_n (pc' := 9) dX9_yarn_8 rfl 0 rfl rfl ?_
    refine r_getO (pc' := 12) dX9_yarn_9 fa_X9_9 hm.o rfl hm.r1 rfl ?_
    refine r_bipush (pc' := 14) (v := 110) dX9_yarn_12 (by decide) rfl ?_
    refine r_iload_n (pc' := 15) dX9_yarn_14 rfl 1 rfl rfl ?_
    refine r_iadd (pc' := 16) dX9_yarn_15 rfl ?_
    obtain ⟨g4, h⟩ := gd_e h
    refine r_iaload (pc' := 17) dX9_yarn_16 hm.c1 g4 rfl ?_
    refine r_goto (tgt := 21) dX9_yarn_17 rfl ?_
    cases h
    exact r_iret dX9_yarn_21 rfl (by decide) (by decide) hQ
set_option maxHeartbeats 4000000 in
theorem fr_X9_yarn {I : JI} {m : Nat} {x1 : Int32} {r : Int32} {J : JI} {z : Nat} (h : s_X9_yarn I m x1 = some (r, J)) (hz_m : z ≠ m) : J z = I z := by
  unfold s_X9_yarn at h
  obtain ⟨z2, I1, e1, h⟩ := bd2_e h
  rcases if_e h with h | h
  · obtain ⟨g2, h⟩ := gd_e h
    cases h
    exact ((fr_X9_mayColour e1 (by omega)).trans rfl)
  · cases h
    exact ((fr_X9_mayColour e1 (by omega)).trans rfl)
set_option maxHeartbeats 4000000 in
theorem ff_X9_yarn {I : JI} {m : Nat} {x1 : Int32} {r : Int32} {J : JI} {k : Nat} (h : s_X9_yarn I m x1 = some (r, J)) (hk0 : k ≠ 0) : J m k = I m k := by
  unfold s_X9_yarn at h
  obtain ⟨z2, I1, e1, h⟩ := bd2_e h
  rcases if_e h with h | h
  · obtain ⟨g2, h⟩ := gd_e h
    cases h
    exact ((ff_X9_mayColour e1 hk0).trans rfl)
  · cases h
    exact ((ff_X9_mayColour e1 hk0).trans rfl)
noncomputable def s_X9_yarnNeeded_L35 (I : JI) (m : Nat) (q1 : Int32) : Nat → Int32 → Int32 → Option (Int32 × Int32)
  | 0, _, _ => none
  | f + 1, w2, w3 => gd (vp_in 4 2030) <| if (I (m + 1) (Int32.toNatClampNeg 4)) ≤ w3 then (some (w2, w3)) else (gd (vp_in (164 + w3) 2030) <| bd (s_X9_ofCard I m (I (m + 1) (Int32.toNatClampNeg (164 + w3))) 1) fun v13 => if v13 = q1 then (lx (w2 + (s_X9_one true)) fun v16 => s_X9_yarnNeeded_L35 I m q1 f v16 (w3 + 1)) else (lx (w2 + (s_X9_one false)) fun v15 => s_X9_yarnNeeded_L35 I m q1 f v15 (w3 + 1)))
noncomputable def s_X9_yarnNeeded (I : JI) (m : Nat) (x1 : Int32) : Option (Int32 × JI) :=
  bd2 (s_X9_mayColour I m x1) fun z2 I1 => if z2 = true then (gd (vp_in 4 2030) <| if (I1 (m + 1) (Int32.toNatClampNeg 4)) = 0 then (some (0, I1)) else (gd (vp_in 5 2030) <| gd (vp_in 4 2030) <| gd (¬ (I1 (m + 1) (Int32.toNatClampNeg 4)) = 0) <| lx ((I1 (m + 1) (Int32.toNatClampNeg 5)) - (I1 (m + 1) (Int32.toNatClampNeg 5)) / (I1 (m + 1) (Int32.toNatClampNeg 4)) * (I1 (m + 1) (Int32.toNatClampNeg 4))) fun v9 => bd (s_X9_yarnNeeded_L35 I1 m x1 lf 0 v9) fun (y17, y18) => gd (vp_in 2 2030) <| some ((y17 * (I1 (m + 1) (Int32.toNatClampNeg 2))), I1))) else (some (0, I1))
set_option maxHeartbeats 4000000 in
theorem l_X9_yarnNeeded_L35 {Ω : JO} {S : JS} {Q : JQ} {I : JI} {m : Nat} {q1 : Int32} (hm : Is9 S m) : ∀ (f : Nat) (w2 : Int32) (w3 : Int32) (o : (Int32 × Int32)), s_X9_yarnNeeded_L35 I m q1 f w2 w3 = some o → True → (∀ (y2 : Int32) (y3 : Int32) , o = (y2, y3) → AA Ω m_X9_yarnNeeded (FQ Ω m_X9_yarnNeeded Q) 0 0 81 [(2, .int y2), (3, .int y3), (0, .ref m), (1, .int q1)] [] I S) → AA Ω m_X9_yarnNeeded (FQ Ω m_X9_yarnNeeded Q) 0 0 35 [(2, .int w2), (3, .int w3), (0, .ref m), (1, .int q1)] [] I S := by
  intro f
  induction f with
  | zero =>
    intro w2 w3 o h hR hE
    rw [s_X9_yarnNeeded_L35] at h
    cases h
  | succ f ih =>
    intro w2 w3 o h hR hE
    rw [s_X9_yarnNeeded_L35] at h
    refine r_iload_n (pc' := 36) dX9_yarnNeeded_35 rfl 1 rfl rfl ?_
    refine r_aload_n (pc' := 37) dX9_yarnNeeded_36 rfl 2 rfl rfl ?_
    refine r_getO (pc' := 40) dX9_yarnNeeded_37 fa_X9_9 hm.o rfl hm.r1 rfl ?_
    refine r_iconst (pc' := 41) (v := 4) dX9_yarnNeeded_40 (by decide) rfl ?_
    obtain ⟨g10, h⟩ := gd_e h
    refine r_iaload (pc' := 42) dX9_yarnNeeded_41 hm.c1 g10 rfl ?_
    refine r_icmp_ge (tgt := 81) (pc' := 45) dX9_yarnNeeded_42 rfl rfl (fun h11 => ?_) (fun h11 => ?_)
    · have h := ifp h11 h
      cases h
      exact hE _ _ rfl
    · have h := ifn h11 h
      refine r_iload_n (pc' := 46) dX9_yarnNeeded_45 rfl 0 rfl rfl ?_
      refine r_aload_n (pc' := 47) dX9_yarnNeeded_46 rfl 2 rfl rfl ?_
      refine r_aload_n (pc' := 48) dX9_yarnNeeded_47 rfl 2 rfl rfl ?_
      refine r_getO (pc' := 51) dX9_yarnNeeded_48 fa_X9_9 hm.o rfl hm.r1 rfl ?_
      refine r_sipush (pc' := 54) (v := 164) dX9_yarnNeeded_51 (by decide) rfl ?_
      refine r_iload_n (pc' := 55) dX9_yarnNeeded_54 rfl 1 rfl rfl ?_
      refine r_iadd (pc' := 56) dX9_yarnNeeded_55 rfl ?_
      obtain ⟨g12, h⟩ := gd_e h
      refine r_iaload (pc' := 57) dX9_yarnNeeded_56 hm.c1 g12 rfl ?_
      refine r_iconst (pc' := 58) (v := 1) dX9_yarnNeeded_57 (by decide) rfl ?_
      obtain ⟨v13, ev13, h⟩ := bd_e h
      refine r_callV2 (pc' := 61) (k' := 0) (n' := 0) dX9_yarnNeeded_58 mb_X9_ofCard mi_X9_ofCard hm.o (by decide) rfl lk_X9_232 rfl rfl rfl (Nat.le_of_ble_eq_true rfl) rfl (c_X9_ofCard hm ev13 (cpI ?_))
      refine r_iload_n (pc' := 62) dX9_yarnNeeded_61 rfl 3 rfl rfl ?_
      refine r_icmp_ne (tgt := 69) (pc' := 65) dX9_yarnNeeded_62 rfl rfl (fun h14 => ?_) (fun h14 => ?_)
      · have h := ifn h14 h
        refine r_iconst (pc' := 70) (v := 0) dX9_yarnNeeded_69 (by decide) rfl ?_
        refine r_callS1 (pc' := 73) (k' := 0) (n' := 0) dX9_yarnNeeded_70 mb_X9_one ms_X9_one lk_X9_324 rfl rfl rfl (Nat.le_of_ble_eq_true rfl) rfl (c_X9_one (b0 := false) rfl (cpI ?_))
        refine r_iadd (pc' := 74) dX9_yarnNeeded_73 rfl ?_
        refine r_istore_n (pc' := 75) (lv' := [(2, _), (3, _), (0, _), (1, _)]) dX9_yarnNeeded_74 rfl (by decide) rfl rfl ?_
        have h := lx_e h
        refine r_iinc (pc' := 78) (v := _ + 1) (lv' := [(3, _), (2, _), (0, _), (1, _)]) dX9_yarnNeeded_75 1 rfl rfl (by decide) rfl rfl ?_
        refine r_goto (tgt := 35) dX9_yarnNeeded_78 rfl ?_
        refine aa_locs (ks := [1, 0, 2, 3]) (lv' := [(2, _), (3, _), (0, _), (1, _)]) rfl ?_
        exact ih _ _ _ h hR hE
      · have h := ifp h14 h
        refine r_iconst (pc' := 66) (v := 1) dX9_yarnNeeded_65 (by decide) rfl ?_
        refine r_goto (tgt := 70) dX9_yarnNeeded_66 rfl ?_
        refine r_callS1 (pc' := 73) (k' := 0) (n' := 0) dX9_yarnNeeded_70 mb_X9_one ms_X9_one lk_X9_324 rfl rfl rfl (Nat.le_of_ble_eq_true rfl) rfl (c_X9_one (b0 := true) rfl (cpI ?_))
        refine r_iadd (pc' := 74) dX9_yarnNeeded_73 rfl ?_
        refine r_istore_n (pc' := 75) (lv' := [(2, _), (3, _), (0, _), (1, _)]) dX9_yarnNeeded_74 rfl (by decide) rfl rfl ?_
        have h := lx_e h
        refine r_iinc (pc' := 78) (v := _ + 1) (lv' := [(3, _), (2, _), (0, _), (1, _)]) dX9_yarnNeeded_75 1 rfl rfl (by decide) rfl rfl ?_
        refine r_goto (tgt := 35) dX9_yarnNeeded_78 rfl ?_
        refine aa_locs (ks := [1, 0, 2, 3]) (lv' := [(2, _), (3, _), (0, _), (1, _)]) rfl ?_
        exact ih _ _ _ h hR hE
set_option maxHeartbeats 4000000 in
theorem c_X9_yarnNeeded {Ω : JO} {I : JI} {S : JS} {Q : JQ} {m : Nat} {x1 : Int32} {r : Int32} {J : JI} (hm : Is9 S m) (h : s_X9_yarnNeeded I m x1 = some (r, J)) (hQ : Q (.inl (some (.int r))) J S) : Call Ω m_X9_yarnNeeded [.ref m, .int x1] I S Q := by
  refine call_of (by decide +kernel) rfl (Nat.le_of_ble_eq_true rfl) ?_
  change AA Ω m_X9_yarnNeeded (FQ Ω m_X9_yarnNeeded Q) 0 0 0 [(0, .ref m), (1, .int x1)] [] I S
  unfold s_X9_yarnNeeded at h
  refine r_aload_n (pc' := 1) dX9_yarnNeeded_0 rfl 0 rfl rfl ?_
  refine r_iload_n (pc' := 2) dX9_yarnNeeded_1 rfl 1 rfl rfl ?_
  obtain ⟨z2, I1, ez2, h⟩ := bd2_e h
  refine r_callV1 (pc' := 5) (k' := 0) (n' := 0) dX9_yarnNeeded_2 mb_X9_mayColour mi_X9_mayColour hm.o (by decide) rfl lk_X9_445 rfl rfl rfl (Nat.le_of_ble_eq_true rfl) rfl (c_X9_mayColour hm ez2 (cpI ?_))
  refine r_if_eq (tgt := 17) (pc' := 8) dX9_yarnNeeded_5 rfl rfl (fun h3 => ?_) (fun h3 => ?_)
  · have h := ifn (zb_n0 h3) h
    refine r_iconst (pc' := 18) (v := 0) dX9_yarnNeeded_17 (by decide) rfl ?_
    cases h
    exact r_iret dX9_yarnNeeded_18 rfl (by decide) (by decide) hQ
  · have h := ifp (zb_p0 h3) h
    refine r_aload_n (pc' := 9) dX9_yarnNeeded_8 rfl 0 rfl rfl ?_
    refine r_getO (pc' := 12) dX9_yarnNeeded_9 fa_X9_9 hm.o rfl hm.r1 rfl ?_
    refine r_iconst (pc' := 13) (v := 4) dX9_yarnNeeded_12 (by decide) rfl ?_
    obtain ⟨g4, h⟩ := gd_e h
    refine r_iaload (pc' := 14) dX9_yarnNeeded_13 hm.c1 g4 rfl ?_
    refine r_if_ne (tgt := 19) (pc' := 17) dX9_yarnNeeded_14 rfl rfl (fun h5 => ?_) (fun h5 => ?_)
    · have h := ifn h5 h
      refine r_iconst (pc' := 20) (v := 0) dX9_yarnNeeded_19 (by decide) rfl ?_
      refine r_istore_n (pc' := 21) (lv' := [(2, _), (0, _), (1, _)]) dX9_yarnNeeded_20 rfl (by decide) rfl rfl ?_
      refine r_aload_n (pc' := 22) dX9_yarnNeeded_21 rfl 1 rfl rfl ?_
      refine r_getO (pc' := 25) dX9_yarnNeeded_22 fa_X9_9 hm.o rfl hm.r1 rfl ?_
      refine r_iconst (pc' := 26) (v := 5) dX9_yarnNeeded_25 (by decide) rfl ?_
      obtain ⟨g6, h⟩ := gd_e h
      refine r_iaload (pc' := 27) dX9_yarnNeeded_26 hm.c1 g6 rfl ?_
      refine r_aload_n (pc' := 28) dX9_yarnNeeded_27 rfl 1 rfl rfl ?_
      refine r_getO (pc' := 31) dX9_yarnNeeded_28 fa_X9_9 hm.o rfl hm.r1 rfl ?_
      refine r_iconst (pc' := 32) (v := 4) dX9_yarnNeeded_31 (by decide) rfl ?_
      obtain ⟨g7, h⟩ := gd_e h
      refine r_iaload (pc' := 33) dX9_yarnNeeded_32 hm.c1 g7 rfl ?_
      obtain ⟨g8, h⟩ := gd_e h
      refine r_irem (pc' := 34) dX9_yarnNeeded_33 g8 rfl ?_
      refine r_istore_n (pc' := 35) (lv' := [(3, _), (2, _), (0, _), (1, _)]) dX9_yarnNeeded_34 rfl (by decide) rfl rfl ?_
      have h := lx_e h
      refine aa_locs (ks := [1, 0, 2, 3]) (lv' := [(2, _), (3, _), (0, _), (1, _)]) rfl ?_
      obtain ⟨o19, eo19, h⟩ := bd_e h
      refine l_X9_yarnNeeded_L35 (Ω := Ω) hm _ _ _ _ eo19 trivial (fun y17 y18 q => ?_)
      subst q
      refine r_iload_n (pc' := 82) dX9_yarnNeeded_81 rfl 0 rfl rfl ?_
      refine r_aload_n (pc' := 83) dX9_yarnNeeded_82 rfl 2 rfl rfl ?_
      refine r_getO (pc' := 86) dX9_yarnNeeded_83 fa_X9_9 hm.o rfl hm.r1 rfl ?_
      refine r_iconst (pc' := 87) (v := 2) dX9_yarnNeeded_86 (by decide) rfl ?_
      obtain ⟨g20, h⟩ := gd_e h
      refine r_iaload (pc' := 88) dX9_yarnNeeded_87 hm.c1 g20 rfl ?_
      refine r_imul (pc' := 89) dX9_yarnNeeded_88 rfl ?_
      cases h
      exact r_iret dX9_yarnNeeded_89 rfl (by decide) (by decide) hQ
    · have h := ifp h5 h
      refine r_iconst (pc' := 18) (v := 0) dX9_yarnNeeded_17 (by decide) rfl ?_
      cases h
      exact r_iret dX9_yarnNeeded_18 rfl (by decide) (by decide) hQ
set_option maxHeartbeats 4000000 in
theorem fr_X9_yarnNeeded {I : JI} {m : Nat} {x1 : Int32} {r : Int32} {J : JI} {z : Nat} (h : s_X9_yarnNeeded I m x1 = some (r, J)) (hz_m : z ≠ m) : J z = I z := by
  unfold s_X9_yarnNeeded at h
  obtain ⟨z2, I1, e1, h⟩ := bd2_e h
  rcases if_e h with h | h
  · obtain ⟨g2, h⟩ := gd_e h
    rcases if_e h with h | h
    · cases h
      exact ((fr_X9_mayColour e1 (by omega)).trans rfl)
    · obtain ⟨g3, h⟩ := gd_e h
      obtain ⟨g4, h⟩ := gd_e h
      obtain ⟨g5, h⟩ := gd_e h
      have h := lx_e h
      obtain ⟨o6, e6, h⟩ := bd_e h
      obtain ⟨y17, y18⟩ := o6
      obtain ⟨g7, h⟩ := gd_e h
      cases h
      exact ((fr_X9_mayColour e1 (by omega)).trans rfl)
  · cases h
    exact ((fr_X9_mayColour e1 (by omega)).trans rfl)
set_option maxHeartbeats 4000000 in
theorem ff_X9_yarnNeeded {I : JI} {m : Nat} {x1 : Int32} {r : Int32} {J : JI} {k : Nat} (h : s_X9_yarnNeeded I m x1 = some (r, J)) (hk0 : k ≠ 0) : J m k = I m k := by
  unfold s_X9_yarnNeeded at h
  obtain ⟨z2, I1, e1, h⟩ := bd2_e h
  rcases if_e h with h | h
  · obtain ⟨g2, h⟩ := gd_e h
    rcases if_e h with h | h
    · cases h
      exact ((ff_X9_mayColour e1 hk0).trans rfl)
    · obtain ⟨g3, h⟩ := gd_e h
      obtain ⟨g4, h⟩ := gd_e h
      obtain ⟨g5, h⟩ := gd_e h
      have h := lx_e h
      obtain ⟨o6, e6, h⟩ := bd_e h
      obtain ⟨y17, y18⟩ := o6
      obtain ⟨g7, h⟩ := gd_e h
      cases h
      exact ((ff_X9_mayColour e1 hk0).trans rfl)
  · cases h
    exact ((ff_X9_mayColour e1 hk0).trans rfl)
noncomputable def s_X9_nextCard (I : JI) (m : Nat) : Option (Int32 × JI) :=
  bd2 (s_X9_mayLook I m) fun z2 I1 => if z2 = true then (bd (s_X9_next I1 m) fun v4 => some (v4, I1)) else (some (0, I1))
set_option maxHeartbeats 4000000 in
theorem c_X9_nextCard {Ω : JO} {I : JI} {S : JS} {Q : JQ} {m : Nat} {r : Int32} {J : JI} (hm : Is9 S m) (h : s_X9_nextCard I m = some (r, J)) (hQ : Q (.inl (some (.int r))) J S) : Call Ω m_X9_nextCard [.ref m] I S Q := by
  refine call_of (by decide +kernel) rfl (Nat.le_of_ble_eq_true rfl) ?_
  change AA Ω m_X9_nextCard (FQ Ω m_X9_nextCard Q) 0 0 0 [(0, .ref m)] [] I S
  unfold s_X9_nextCard at h
  refine r_aload_n (pc' := 1) dX9_nextCard_0 rfl 0 rfl rfl ?_
  obtain ⟨z2, I1, ez2, h⟩ := bd2_e h
  refine r_callV0 (pc' := 4) (k' := 0) (n' := 0) dX9_nextCard_1 mb_X9_mayLook mi_X9_mayLook hm.o (by decide) rfl lk_X9_409 rfl rfl rfl (Nat.le_of_ble_eq_true rfl) rfl (c_X9_mayLook hm ez2 (cpI ?_))
  refine r_if_eq (tgt := 14) (pc' := 7) dX9_nextCard_4 rfl rfl (fun h3 => ?_) (fun h3 => ?_)
  · have h := ifn (zb_n0 h3) h
    refine r_iconst (pc' := 15) (v := 0) dX9_nextCard_14 (by decide) rfl ?_
    cases h
    exact r_iret dX9_nextCard_15 rfl (by decide) (by decide) hQ
  · have h := ifp (zb_p0 h3) h
    refine r_aload_n (pc' := 8) dX9_nextCard_7 rfl 0 rfl rfl ?_
    obtain ⟨v4, ev4, h⟩ := bd_e h
    refine r_callV0 (pc' := 11) (k' := 0) (n' := 0) dX9_nextCard_8 mb_X9_next mi_X9_next hm.o (by decide) rfl lk_X9_334 rfl rfl rfl (Nat.le_of_ble_eq_true rfl) rfl (c_X9_next hm ev4 (cpI ?_))
    refine r_goto (tgt := 15) dX9_nextCard_11 rfl ?_
    cases h
    exact r_iret dX9_nextCard_15 rfl (by decide) (by decide) hQ
set_option maxHeartbeats 4000000 in
theorem fr_X9_nextCard {I : JI} {m : Nat} {r : Int32} {J : JI} {z : Nat} (h : s_X9_nextCard I m = some (r, J)) (hz_m : z ≠ m) : J z = I z := by
  unfold s_X9_nextCard at h
  obtain ⟨z2, I1, e1, h⟩ := bd2_e h
  rcases if_e h with h | h
  · obtain ⟨o2, e2, h⟩ := bd_e h
    cases h
    exact ((fr_X9_mayLook e1 (by omega)).trans rfl)
  · cases h
    exact ((fr_X9_mayLook e1 (by omega)).trans rfl)
set_option maxHeartbeats 4000000 in
theorem ff_X9_nextCard {I : JI} {m : Nat} {r : Int32} {J : JI} {k : Nat} (h : s_X9_nextCard I m = some (r, J)) (hk0 : k ≠ 0) : J m k = I m k := by
  unfold s_X9_nextCard at h
  obtain ⟨z2, I1, e1, h⟩ := bd2_e h
  rcases if_e h with h | h
  · obtain ⟨o2, e2, h⟩ := bd_e h
    cases h
    exact ((ff_X9_mayLook e1 hk0).trans rfl)
  · cases h
    exact ((ff_X9_mayLook e1 hk0).trans rfl)
noncomputable def s_X9_weaveObstacle (I : JI) (m : Nat) : Option (Int32 × JI) :=
  bd2 (s_X9_mayLook I m) fun z2 I1 => if z2 = true then (bd (s_X9_why I1 m) fun v4 => some (v4, I1)) else (some (0, I1))
set_option maxHeartbeats 4000000 in
theorem c_X9_weaveObstacle {Ω : JO} {I : JI} {S : JS} {Q : JQ} {m : Nat} {r : Int32} {J : JI} (hm : Is9 S m) (h : s_X9_weaveObstacle I m = some (r, J)) (hQ : Q (.inl (some (.int r))) J S) : Call Ω m_X9_weaveObstacle [.ref m] I S Q := by
  refine call_of (by decide +kernel) rfl (Nat.le_of_ble_eq_true rfl) ?_
  change AA Ω m_X9_weaveObstacle (FQ Ω m_X9_weaveObstacle Q) 0 0 0 [(0, .ref m)] [] I S
  unfold s_X9_weaveObstacle at h
  refine r_aload_n (pc' := 1) dX9_weaveObstacle_0 rfl 0 rfl rfl ?_
  obtain ⟨z2, I1, ez2, h⟩ := bd2_e h
  refine r_callV0 (pc' := 4) (k' := 0) (n' := 0) dX9_weaveObstacle_1 mb_X9_mayLook mi_X9_mayLook hm.o (by decide) rfl lk_X9_409 rfl rfl rfl (Nat.le_of_ble_eq_true rfl) rfl (c_X9_mayLook hm ez2 (cpI ?_))
  refine r_if_eq (tgt := 14) (pc' := 7) dX9_weaveObstacle_4 rfl rfl (fun h3 => ?_) (fun h3 => ?_)
  · have h := ifn (zb_n0 h3) h
    refine r_iconst (pc' := 15) (v := 0) dX9_weaveObstacle_14 (by decide) rfl ?_
    cases h
    exact r_iret dX9_weaveObstacle_15 rfl (by decide) (by decide) hQ
  · have h := ifp (zb_p0 h3) h
    refine r_aload_n (pc' := 8) dX9_weaveObstacle_7 rfl 0 rfl rfl ?_
    obtain ⟨v4, ev4, h⟩ := bd_e h
    refine r_callV0 (pc' := 11) (k' := 0) (n' := 0) dX9_weaveObstacle_8 mb_X9_why mi_X9_why hm.o (by decide) rfl lk_X9_363 rfl rfl rfl (Nat.le_of_ble_eq_true rfl) rfl (c_X9_why hm ev4 (cpI ?_))
    refine r_goto (tgt := 15) dX9_weaveObstacle_11 rfl ?_
    cases h
    exact r_iret dX9_weaveObstacle_15 rfl (by decide) (by decide) hQ
set_option maxHeartbeats 4000000 in
theorem fr_X9_weaveObstacle {I : JI} {m : Nat} {r : Int32} {J : JI} {z : Nat} (h : s_X9_weaveObstacle I m = some (r, J)) (hz_m : z ≠ m) : J z = I z := by
  unfold s_X9_weaveObstacle at h
  obtain ⟨z2, I1, e1, h⟩ := bd2_e h
  rcases if_e h with h | h
  · obtain ⟨o2, e2, h⟩ := bd_e h
    cases h
    exact ((fr_X9_mayLook e1 (by omega)).trans rfl)
  · cases h
    exact ((fr_X9_mayLook e1 (by omega)).trans rfl)
set_option maxHeartbeats 4000000 in
theorem ff_X9_weaveObstacle {I : JI} {m : Nat} {r : Int32} {J : JI} {k : Nat} (h : s_X9_weaveObstacle I m = some (r, J)) (hk0 : k ≠ 0) : J m k = I m k := by
  unfold s_X9_weaveObstacle at h
  obtain ⟨z2, I1, e1, h⟩ := bd2_e h
  rcases if_e h with h | h
  · obtain ⟨o2, e2, h⟩ := bd_e h
    cases h
    exact ((ff_X9_mayLook e1 hk0).trans rfl)
  · cases h
    exact ((ff_X9_mayLook e1 hk0).trans rfl)
noncomputable def s_X9_picksPossible (I : JI) (m : Nat) : Option (Int32 × JI) :=
  bd2 (s_X9_mayLook I m) fun z2 I1 => if z2 = true then (bd (s_X9_thinks I1 m) fun I4 => bd2 (s_X9_weaves I4 m 60) fun v6 I5 => bd2 (s_X9_back I5 m v6) fun v8 I7 => some (v8, I7)) else (some (0, I1))
set_option maxHeartbeats 4000000 in
theorem c_X9_picksPossible {Ω : JO} {I : JI} {S : JS} {Q : JQ} {m : Nat} {r : Int32} {J : JI} (hm : Is9 S m) (h : s_X9_picksPossible I m = some (r, J)) (hQ : Q (.inl (some (.int r))) J S) : Call Ω m_X9_picksPossible [.ref m] I S Q := by
  refine call_of (by decide +kernel) rfl (Nat.le_of_ble_eq_true rfl) ?_
  change AA Ω m_X9_picksPossible (FQ Ω m_X9_picksPossible Q) 0 0 0 [(0, .ref m)] [] I S
  unfold s_X9_picksPossible at h
  refine r_aload_n (pc' := 1) dX9_picksPossible_0 rfl 0 rfl rfl ?_
  obtain ⟨z2, I1, ez2, h⟩ := bd2_e h
  refine r_callV0 (pc' := 4) (k' := 0) (n' := 0) dX9_picksPossible_1 mb_X9_mayLook mi_X9_mayLook hm.o (by decide) rfl lk_X9_409 rfl rfl rfl (Nat.le_of_ble_eq_true rfl) rfl (c_X9_mayLook hm ez2 (cpI ?_))
  refine r_if_ne (tgt := 9) (pc' := 7) dX9_picksPossible_4 rfl rfl (fun h3 => ?_) (fun h3 => ?_)
  · have h := ifp (zb_p0 h3) h
    refine r_aload_n (pc' := 10) dX9_picksPossible_9 rfl 0 rfl rfl ?_
    obtain ⟨I4, eI4, h⟩ := bd_e h
    refine r_callV0 (pc' := 13) (k' := 0) (n' := 0) dX9_picksPossible_10 mb_X9_thinks mi_X9_thinks hm.o (by decide) rfl lk_X9_313 rfl rfl rfl (Nat.le_of_ble_eq_true rfl) rfl (c_X9_thinks hm eI4 (cpV ?_))
    refine r_aload_n (pc' := 14) dX9_picksPossible_13 rfl 0 rfl rfl ?_
    refine r_aload_n (pc' := 15) dX9_picksPossible_14 rfl 0 rfl rfl ?_
    refine r_bipush (pc' := 17) (v := 60) dX9_picksPossible_15 (by decide) rfl ?_
    obtain ⟨v6, I5, ev6, h⟩ := bd2_e h
    refine r_callV1 (pc' := 20) (k' := 0) (n' := 0) dX9_picksPossible_17 mb_X9_weaves mi_X9_weaves hm.o (by decide) rfl lk_X9_211 rfl rfl rfl (Nat.le_of_ble_eq_true rfl) rfl (c_X9_weaves hm ev6 (cpI ?_))
    obtain ⟨v8, I7, ev8, h⟩ := bd2_e h
    refine r_callV1 (pc' := 23) (k' := 0) (n' := 0) dX9_picksPossible_20 mb_X9_back mi_X9_back hm.o (by decide) rfl lk_X9_319 rfl rfl rfl (Nat.le_of_ble_eq_true rfl) rfl (c_X9_back hm ev8 (cpI ?_))
    cases h
    exact r_iret dX9_picksPossible_23 rfl (by decide) (by decide) hQ
  · have h := ifn (zb_n0 h3) h
    refine r_iconst (pc' := 8) (v := 0) dX9_picksPossible_7 (by decide) rfl ?_
    cases h
    exact r_iret dX9_picksPossible_8 rfl (by decide) (by decide) hQ
set_option maxHeartbeats 4000000 in
theorem fr_X9_picksPossible {I : JI} {m : Nat} {r : Int32} {J : JI} {z : Nat} (h : s_X9_picksPossible I m = some (r, J)) (hz_m1 : z ≠ (m + 1)) (hz_m2 : z ≠ (m + 2)) (hz_m : z ≠ m) : J z = I z := by
  unfold s_X9_picksPossible at h
  obtain ⟨z2, I1, e1, h⟩ := bd2_e h
  rcases if_e h with h | h
  · obtain ⟨I4, e2, h⟩ := bd_e h
    obtain ⟨v6, I5, e3, h⟩ := bd2_e h
    obtain ⟨v8, I7, e4, h⟩ := bd2_e h
    cases h
    exact ((fr_X9_back e4 (by omega)).trans ((fr_X9_weaves e3 (by omega)).trans ((fr_X9_thinks e2 (by omega)).trans ((fr_X9_mayLook e1 (by omega)).trans rfl))))
  · cases h
    exact ((fr_X9_mayLook e1 (by omega)).trans rfl)
set_option maxHeartbeats 4000000 in
theorem ff_X9_picksPossible {I : JI} {m : Nat} {r : Int32} {J : JI} {k : Nat} (h : s_X9_picksPossible I m = some (r, J)) (hk0 : k ≠ 0) : J m k = I m k := by
  unfold s_X9_picksPossible at h
  obtain ⟨z2, I1, e1, h⟩ := bd2_e h
  rcases if_e h with h | h
  · obtain ⟨I4, e2, h⟩ := bd_e h
    obtain ⟨v6, I5, e3, h⟩ := bd2_e h
    obtain ⟨v8, I7, e4, h⟩ := bd2_e h
    cases h
    exact ((congrFun (fr_X9_back e4 (by omega)) k).trans ((congrFun (fr_X9_weaves e3 (by omega)) k).trans ((congrFun (fr_X9_thinks e2 (by omega)) k).trans ((ff_X9_mayLook e1 hk0).trans rfl))))
  · cases h
    exact ((ff_X9_mayLook e1 hk0).trans rfl)
noncomputable def s_X9_stuckOnes_L4 (I : JI) (m : Nat) : Nat → Int32 → Int32 → Option (Int32 × Int32)
  | 0, _, _ => none
  | f + 1, w1, w2 => gd (vp_in 0 2030) <| if (I (m + 1) (Int32.toNatClampNeg 0)) ≤ w2 then (some (w1, w2)) else (bd (s_X9_ofHarness I m w2 2) fun v3 => s_X9_stuckOnes_L4 I m f (w1 + v3) (w2 + 1))
noncomputable def s_X9_stuckOnes (I : JI) (m : Nat) : Option (Int32) :=
  bd (s_X9_stuckOnes_L4 I m lf 0 0) fun (y4, y5) => some y4
set_option maxHeartbeats 4000000 in
theorem l_X9_stuckOnes_L4 {Ω : JO} {S : JS} {Q : JQ} {I : JI} {m : Nat} (hm : Is9 S m) : ∀ (f : Nat) (w1 : Int32) (w2 : Int32) (o : (Int32 × Int32)), s_X9_stuckOnes_L4 I m f w1 w2 = some o → True → (∀ (y1 : Int32) (y2 : Int32) , o = (y1, y2) → AA Ω m_X9_stuckOnes (FQ Ω m_X9_stuckOnes Q) 0 0 29 [(1, .int y1), (2, .int y2), (0, .ref m)] [] I S) → AA Ω m_X9_stuckOnes (FQ Ω m_X9_stuckOnes Q) 0 0 4 [(1, .int w1), (2, .int w2), (0, .ref m)] [] I S := by
  intro f
  induction f with
  | zero =>
    intro w1 w2 o h hR hE
    rw [s_X9_stuckOnes_L4] at h
    cases h
  | succ f ih =>
    intro w1 w2 o h hR hE
    rw [s_X9_stuckOnes_L4] at h
    refine r_iload_n (pc' := 5) dX9_stuckOnes_4 rfl 1 rfl rfl ?_
    refine r_aload_n (pc' := 6) dX9_stuckOnes_5 rfl 2 rfl rfl ?_
    refine r_getO (pc' := 9) dX9_stuckOnes_6 fa_X9_9 hm.o rfl hm.r1 rfl ?_
    refine r_iconst (pc' := 10) (v := 0) dX9_stuckOnes_9 (by decide) rfl ?_
    obtain ⟨g1, h⟩ := gd_e h
    refine r_iaload (pc' := 11) dX9_stuckOnes_10 hm.c1 g1 rfl ?_
    refine r_icmp_ge (tgt := 29) (pc' := 14) dX9_stuckOnes_11 rfl rfl (fun h2 => ?_) (fun h2 => ?_)
    · have h := ifp h2 h
      cases h
      exact hE _ _ rfl
    · have h := ifn h2 h
      refine r_iload_n (pc' := 15) dX9_stuckOnes_14 rfl 0 rfl rfl ?_
      refine r_aload_n (pc' := 16) dX9_stuckOnes_15 rfl 2 rfl rfl ?_
      refine r_iload_n (pc' := 17) dX9_stuckOnes_16 rfl 1 rfl rfl ?_
      refine r_iconst (pc' := 18) (v := 2) dX9_stuckOnes_17 (by decide) rfl ?_
      obtain ⟨v3, ev3, h⟩ := bd_e h
      refine r_callV2 (pc' := 21) (k' := 0) (n' := 0) dX9_stuckOnes_18 mb_X9_ofHarness mi_X9_ofHarness hm.o (by decide) rfl lk_X9_346 rfl rfl rfl (Nat.le_of_ble_eq_true rfl) rfl (c_X9_ofHarness hm ev3 (cpI ?_))
      refine r_iadd (pc' := 22) dX9_stuckOnes_21 rfl ?_
      refine r_istore_n (pc' := 23) (lv' := [(1, _), (2, _), (0, _)]) dX9_stuckOnes_22 rfl (by decide) rfl rfl ?_
      refine r_iinc (pc' := 26) (v := _ + 1) (lv' := [(2, _), (1, _), (0, _)]) dX9_stuckOnes_23 1 rfl rfl (by decide) rfl rfl ?_
      refine r_goto (tgt := 4) dX9_stuckOnes_26 rfl ?_
      refine aa_locs (ks := [1, 0, 2]) (lv' := [(1, _), (2, _), (0, _)]) rfl ?_
      exact ih _ _ _ h hR hE
set_option maxHeartbeats 4000000 in
theorem c_X9_stuckOnes {Ω : JO} {I : JI} {S : JS} {Q : JQ} {m : Nat} {r : Int32} (hm : Is9 S m) (h : s_X9_stuckOnes I m = some r) (hQ : Q (.inl (some (.int r))) I S) : Call Ω m_X9_stuckOnes [.ref m] I S Q := by
  refine call_of (by decide +kernel) rfl (Nat.le_of_ble_eq_true rfl) ?_
  change AA Ω m_X9_stuckOnes (FQ Ω m_X9_stuckOnes Q) 0 0 0 [(0, .ref m)] [] I S
  unfold s_X9_stuckOnes at h
  refine r_iconst (pc' := 1) (v := 0) dX9_stuckOnes_0 (by decide) rfl ?_
  refine r_istore_n (pc' := 2) (lv' := [(1, _), (0, _)]) dX9_stuckOnes_1 rfl (by decide) rfl rfl ?_
  refine r_iconst (pc' := 3) (v := 0) dX9_stuckOnes_2 (by decide) rfl ?_
  refine r_istore_n (pc' := 4) (lv' := [(2, _), (1, _), (0, _)]) dX9_stuckOnes_3 rfl (by decide) rfl rfl ?_
  refine aa_locs (ks := [1, 0, 2]) (lv' := [(1, _), (2, _), (0, _)]) rfl ?_
  obtain ⟨o6, eo6, h⟩ := bd_e h
  refine l_X9_stuckOnes_L4 (Ω := Ω) hm _ _ _ _ eo6 trivial (fun y4 y5 q => ?_)
  subst q
  refine r_iload_n (pc' := 30) dX9_stuckOnes_29 rfl 0 rfl rfl ?_
  cases h
  exact r_iret dX9_stuckOnes_30 rfl (by decide) (by decide) hQ
noncomputable def s_X9_untilStuck_L7 (m : Nat) (q1 : Int32) : Nat → Int32 → JI → Option ((Int32 × JI) ⊕ (Int32 × JI))
  | 0, _, _ => none
  | f + 1, w2, I => if 60 < w2 then (some (.inr (w2, I))) else (bd (s_X9_why I m) fun v3 => if v3 = 0 then (bd (s_X9_weavesOne I m) fun I5 => bd (s_X9_stuckOnes I5 m) fun v6 => if v6 ≤ q1 then (s_X9_untilStuck_L7 m q1 f (w2 + 1) I5) else (some (.inl (w2, I5)))) else (some (.inr (w2, I))))
noncomputable def s_X9_untilStuck (I : JI) (m : Nat) : Option (Int32 × JI) :=
  bd (s_X9_stuckOnes I m) fun v1 => bl (s_X9_untilStuck_L7 m v1 lf 1 I) fun (y8, I9) => some ((-1), I9)
set_option maxHeartbeats 4000000 in
theorem l_X9_untilStuck_L7 {Ω : JO} {S : JS} {Q : JQ} {m : Nat} {q1 : Int32} (hm : Is9 S m) : ∀ (f : Nat) (w2 : Int32) (I : JI) (o : ((Int32 × JI) ⊕ (Int32 × JI))), s_X9_untilStuck_L7 m q1 f w2 I = some o → (∀ (r : Int32) (J : JI), o = .inl (r, J) → Q (.inl (some (.int r))) J S) → (∀ (y2 : Int32) (J : JI) , o = .inr (y2, J) → AA Ω m_X9_untilStuck (FQ Ω m_X9_untilStuck Q) 0 0 40 [(2, .int y2), (1, .int q1), (0, .ref m)] [] J S) → AA Ω m_X9_untilStuck (FQ Ω m_X9_untilStuck Q) 0 0 7 [(2, .int w2), (1, .int q1), (0, .ref m)] [] I S := by
  intro f
  induction f with
  | zero =>
    intro w2 I o h hR hE
    rw [s_X9_untilStuck_L7] at h
    cases h
  | succ f ih =>
    intro w2 I o h hR hE
    rw [s_X9_untilStuck_L7] at h
    refine r_iload_n (pc' := 8) dX9_untilStuck_7 rfl 0 rfl rfl ?_
    refine r_bipush (pc' := 10) (v := 60) dX9_untilStuck_8 (by decide) rfl ?_
    refine r_icmp_gt (tgt := 40) (pc' := 13) dX9_untilStuck_10 rfl rfl (fun h2 => ?_) (fun h2 => ?_)
    · have h := ifp h2 h
      cases h
      exact hE _ _ rfl
    · have h := ifn h2 h
      refine r_aload_n (pc' := 14) dX9_untilStuck_13 rfl 2 rfl rfl ?_
      obtain ⟨v3, ev3, h⟩ := bd_e h
      refine r_callV0 (pc' := 17) (k' := 0) (n' := 0) dX9_untilStuck_14 mb_X9_why mi_X9_why hm.o (by decide) rfl lk_X9_363 rfl rfl rfl (Nat.le_of_ble_eq_true rfl) rfl (c_X9_why hm ev3 (cpI ?_))
      refine r_if_ne (tgt := 40) (pc' := 20) dX9_untilStuck_17 rfl rfl (fun h4 => ?_) (fun h4 => ?_)
      · have h := ifn h4 h
        cases h
        exact hE _ _ rfl
      · have h := ifp h4 h
        refine r_aload_n (pc' := 21) dX9_untilStuck_20 rfl 2 rfl rfl ?_
        obtain ⟨I5, eI5, h⟩ := bd_e h
        refine r_callV0 (pc' := 24) (k' := 0) (n' := 0) dX9_untilStuck_21 mb_X9_weavesOne mi_X9_weavesOne hm.o (by decide) rfl lk_X9_366 rfl rfl rfl (Nat.le_of_ble_eq_true rfl) rfl (c_X9_weavesOne hm eI5 (cpV ?_))
        refine r_aload_n (pc' := 25) dX9_untilStuck_24 rfl 2 rfl rfl ?_
        obtain ⟨v6, ev6, h⟩ := bd_e h
        refine r_callV0 (pc' := 28) (k' := 0) (n' := 0) dX9_untilStuck_25 mb_X9_stuckOnes mi_X9_stuckOnes hm.o (by decide) rfl lk_X9_457 rfl rfl rfl (Nat.le_of_ble_eq_true rfl) rfl (c_X9_stuckOnes hm ev6 (cpI ?_))
        refine r_iload_n (pc' := 29) dX9_untilStuck_28 rfl 1 rfl rfl ?_
        refine r_icmp_le (tgt := 34) (pc' := 32) dX9_untilStuck_29 rfl rfl (fun h7 => ?_) (fun h7 => ?_)
        · have h := ifp h7 h
          refine r_iinc (pc' := 37) (v := _ + 1) (lv' := [(2, _), (1, _), (0, _)]) dX9_untilStuck_34 0 rfl rfl (by decide) rfl rfl ?_
          refine r_goto (tgt := 7) dX9_untilStuck_37 rfl ?_
          exact ih _ _ _ h hR hE
        · have h := ifn h7 h
          refine r_iload_n (pc' := 33) dX9_untilStuck_32 rfl 0 rfl rfl ?_
          cases h
          exact r_iret dX9_untilStuck_33 rfl (by decide) (by decide) (hR _ _ rfl)
set_option maxHeartbeats 4000000 in
theorem c_X9_untilStuck {Ω : JO} {I : JI} {S : JS} {Q : JQ} {m : Nat} {r : Int32} {J : JI} (hm : Is9 S m) (h : s_X9_untilStuck I m = some (r, J)) (hQ : Q (.inl (some (.int r))) J S) : Call Ω m_X9_untilStuck [.ref m] I S Q := by
  refine call_of (by decide +kernel) rfl (Nat.le_of_ble_eq_true rfl) ?_
  change AA Ω m_X9_untilStuck (FQ Ω m_X9_untilStuck Q) 0 0 0 [(0, .ref m)] [] I S
  unfold s_X9_untilStuck at h
  refine r_aload_n (pc' := 1) dX9_untilStuck_0 rfl 0 rfl rfl ?_
  obtain ⟨v1, ev1, h⟩ := bd_e h
  refine r_callV0 (pc' := 4) (k' := 0) (n' := 0) dX9_untilStuck_1 mb_X9_stuckOnes mi_X9_stuckOnes hm.o (by decide) rfl lk_X9_457 rfl rfl rfl (Nat.le_of_ble_eq_true rfl) rfl (c_X9_stuckOnes hm ev1 (cpI ?_))
  refine r_istore_n (pc' := 5) (lv' := [(1, _), (0, _)]) dX9_untilStuck_4 rfl (by decide) rfl rfl ?_
  refine r_iconst (pc' := 6) (v := 1) dX9_untilStuck_5 (by decide) rfl ?_
  refine r_istore_n (pc' := 7) (lv' := [(2, _), (1, _), (0, _)]) dX9_untilStuck_6 rfl (by decide) rfl rfl ?_
  obtain ⟨o10, eo10, h1, h⟩ := bl_e h
  refine l_X9_untilStuck_L7 (Ω := Ω) hm _ _ _ _ eo10 (fun r J q => ?_) (fun y8 I9 q => ?_)
  · have h1 := h1 _ q
    cases h1
    exact hQ
  have h := h _ q
  refine r_iconst (pc' := 41) (v := -1) dX9_untilStuck_40 (by decide) rfl ?_
  cases h
  exact r_iret dX9_untilStuck_41 rfl (by decide) (by decide) hQ
theorem frl_X9_untilStuck_L7 {m : Nat} {q1 : Int32} {z : Nat} (hz_m1 : z ≠ (m + 1)) : ∀ (f : Nat) (w2 : Int32) (I : JI) (o : ((Int32 × JI) ⊕ (Int32 × JI))), s_X9_untilStuck_L7 m q1 f w2 I = some o → (∀ (r : Int32) (J : JI), o = .inl (r, J) → J z = I z) ∧ (∀ (y2 : Int32) (J : JI), o = .inr (y2, J) → J z = I z) := by
  intro f
  induction f with
  | zero =>
    intro w2 I o h
    rw [s_X9_untilStuck_L7] at h
    cases h
  | succ f ih =>
    intro w2 I o h
    rw [s_X9_untilStuck_L7] at h
    rcases if_e h with h | h
    · cases h
      refine ⟨?_, ?_⟩
      · intro _ _ q
        cases q
      · intro _ _ q
        cases q
        exact rfl
    · obtain ⟨o1, e1, h⟩ := bd_e h
      rcases if_e h with h | h
      · obtain ⟨I5, e2, h⟩ := bd_e h
        obtain ⟨o3, e3, h⟩ := bd_e h
        rcases if_e h with h | h
        · refine ⟨?_, ?_⟩
          · intro _ _ q
            exact ((ih _ _ _ h).1 _ _ q).trans ((fr_X9_weavesOne e2 (by omega)).trans rfl)
          · intro _ _ q
            exact ((ih _ _ _ h).2 _ _ q).trans ((fr_X9_weavesOne e2 (by omega)).trans rfl)
        · cases h
          refine ⟨?_, ?_⟩
          · intro _ _ q
            cases q
            exact ((fr_X9_weavesOne e2 (by omega)).trans rfl)
          · intro _ _ q
            cases q
      · cases h
        refine ⟨?_, ?_⟩
        · intro _ _ q
          cases q
        · intro _ _ q
          cases q
          exact rfl
set_option maxHeartbeats 4000000 in
theorem fr_X9_untilStuck {I : JI} {m : Nat} {r : Int32} {J : JI} {z : Nat} (h : s_X9_untilStuck I m = some (r, J)) (hz_m1 : z ≠ (m + 1)) : J z = I z := by
  unfold s_X9_untilStuck at h
  obtain ⟨o1, e1, h⟩ := bd_e h
  obtain ⟨o2, e2, h1, h⟩ := bl_e h
  rcases o2 with y2 | y2
  · have h1 := h1 _ rfl
    cases h1
    exact (((frl_X9_untilStuck_L7 hz_m1 _ _ _ _ e2).1 _ _ rfl).trans rfl)
  have h := h _ rfl
  obtain ⟨y8, I9⟩ := y2
  cases h
  exact (((frl_X9_untilStuck_L7 hz_m1 _ _ _ _ e2).2 _ _ rfl).trans rfl)
