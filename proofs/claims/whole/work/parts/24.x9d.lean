noncomputable def s_X9_breaks (I : JI) (m : Nat) (x1 : Int32) : Option (Bool) :=
  gd (vp_in ((38 + (3 * x1)) + 2) 2030) <| if (I (m + 1) (Int32.toNatClampNeg ((38 + (3 * x1)) + 2))) = 1 then (some true) else (some false)
set_option maxHeartbeats 4000000 in
theorem c_X9_breaks {Ω : JO} {I : JI} {S : JS} {Q : JQ} {m : Nat} {x1 : Int32} {r : Bool} (hm : Is9 S m) (h : s_X9_breaks I m x1 = some r) (hQ : Q (.inl (some (.int (zb r)))) I S) : Call Ω m_X9_breaks [.ref m, .int x1] I S Q := by
  refine call_of (by decide +kernel) rfl (Nat.le_of_ble_eq_true rfl) ?_
  change AA Ω m_X9_breaks (FQ Ω m_X9_breaks Q) 0 0 0 [(0, .ref m), (1, .int x1)] [] I S
  unfold s_X9_breaks at h
  refine r_aload_n (pc' := 1) dX9_breaks_0 rfl 0 rfl rfl ?_
  refine r_getO (pc' := 4) dX9_breaks_1 fa_X9_9 hm.o rfl hm.r1 rfl ?_
  refine r_bipush (pc' := 6) (v := 38) dX9_breaks_4 (by decide) rfl ?_
  refine r_iconst (pc' := 7) (v := 3) dX9_breaks_6 (by decide) rfl ?_
  refine r_iload_n (pc' := 8) dX9_breaks_7 rfl 1 rfl rfl ?_
  refine r_imul (pc' := 9) dX9_breaks_8 rfl ?_
  refine r_iadd (pc' := 10) dX9_breaks_9 rfl ?_
  refine r_iconst (pc' := 11) (v := 2) dX9_breaks_10 (by decide) rfl ?_
  refine r_iadd (pc' := 12) dX9_breaks_11 rfl ?_
  obtain ⟨g1, h⟩ := gd_e h
  refine r_iaload (pc' := 13) dX9_breaks_12 hm.c1 g1 rfl ?_
  refine r_iconst (pc' := 14) (v := 1) dX9_breaks_13 (by decide) rfl ?_
  refine r_icmp_ne (tgt := 21) (pc' := 17) dX9_breaks_14 rfl rfl (fun h2 => ?_) (fun h2 => ?_)
  · have h := ifn h2 h
    refine r_iconst (pc' := 22) (v := 0) dX9_breaks_21 (by decide) rfl ?_
    cases h
    exact r_zret dX9_breaks_22 rfl (by decide) (by decide) (by decide) hQ
  · have h := ifp h2 h
    refine r_iconst (pc' := 18) (v := 1) dX9_breaks_17 (by decide) rfl ?_
    refine r_goto (tgt := 22) dX9_breaks_18 rfl ?_
    cases h
    exact r_zret dX9_breaks_22 rfl (by decide) (by decide) (by decide) hQ
noncomputable def s_X9_colourOf (I : JI) (m : Nat) (x1 : Int32) : Option (Int32) :=
  gd (vp_in ((38 + (3 * x1)) + 1) 2030) <| some (I (m + 1) (Int32.toNatClampNeg ((38 + (3 * x1)) + 1)))
set_option maxHeartbeats 4000000 in
theorem c_X9_colourOf {Ω : JO} {I : JI} {S : JS} {Q : JQ} {m : Nat} {x1 : Int32} {r : Int32} (hm : Is9 S m) (h : s_X9_colourOf I m x1 = some r) (hQ : Q (.inl (some (.int r))) I S) : Call Ω m_X9_colourOf [.ref m, .int x1] I S Q := by
  refine call_of (by decide +kernel) rfl (Nat.le_of_ble_eq_true rfl) ?_
  change AA Ω m_X9_colourOf (FQ Ω m_X9_colourOf Q) 0 0 0 [(0, .ref m), (1, .int x1)] [] I S
  unfold s_X9_colourOf at h
  refine r_aload_n (pc' := 1) dX9_colourOf_0 rfl 0 rfl rfl ?_
  refine r_getO (pc' := 4) dX9_colourOf_1 fa_X9_9 hm.o rfl hm.r1 rfl ?_
  refine r_bipush (pc' := 6) (v := 38) dX9_colourOf_4 (by decide) rfl ?_
  refine r_iconst (pc' := 7) (v := 3) dX9_colourOf_6 (by decide) rfl ?_
  refine r_iload_n (pc' := 8) dX9_colourOf_7 rfl 1 rfl rfl ?_
  refine r_imul (pc' := 9) dX9_colourOf_8 rfl ?_
  refine r_iadd (pc' := 10) dX9_colourOf_9 rfl ?_
  refine r_iconst (pc' := 11) (v := 1) dX9_colourOf_10 (by decide) rfl ?_
  refine r_iadd (pc' := 12) dX9_colourOf_11 rfl ?_
  obtain ⟨g1, h⟩ := gd_e h
  refine r_iaload (pc' := 13) dX9_colourOf_12 hm.c1 g1 rfl ?_
  cases h
  exact r_iret dX9_colourOf_13 rfl (by decide) (by decide) hQ
noncomputable def s_X9_cell (x0 : Int32) (b1 : Bool) : Int32 :=
  ((2 * x0) + (s_X9_one b1))
set_option maxHeartbeats 4000000 in
theorem c_X9_cell {Ω : JO} {I : JI} {S : JS} {Q : JQ} {x0 : Int32} {b1 : Bool} {r : Int32} (h : s_X9_cell x0 b1 = r) (hQ : Q (.inl (some (.int r))) I S) : Call Ω m_X9_cell [.int x0, .int (zb b1)] I S Q := by
  refine call_of (by decide +kernel) rfl (Nat.le_of_ble_eq_true rfl) ?_
  change AA Ω m_X9_cell (FQ Ω m_X9_cell Q) 0 0 0 [(0, .int x0), (1, .int (zb b1))] [] I S
  unfold s_X9_cell at h
  refine r_iconst (pc' := 1) (v := 2) dX9_cell_0 (by decide) rfl ?_
  refine r_iload_n (pc' := 2) dX9_cell_1 rfl 0 rfl rfl ?_
  refine r_imul (pc' := 3) dX9_cell_2 rfl ?_
  refine r_iload_n (pc' := 4) dX9_cell_3 rfl 1 rfl rfl ?_
  refine r_callS1 (pc' := 7) (k' := 0) (n' := 0) dX9_cell_4 mb_X9_one ms_X9_one lk_X9_324 rfl rfl rfl (Nat.le_of_ble_eq_true rfl) rfl (c_X9_one rfl (cpI ?_))
  refine r_iadd (pc' := 8) dX9_cell_7 rfl ?_
  subst h
  exact r_iret dX9_cell_8 rfl (by decide) (by decide) hQ
noncomputable def s_X9_cellOf (I : JI) (m : Nat) (x1 : Int32) (x2 : Int32) : Option (Int32) :=
  gd (vp_in (((264 + (25 * x1)) + 1) + x2) 2030) <| some (I (m + 1) (Int32.toNatClampNeg (((264 + (25 * x1)) + 1) + x2)))
set_option maxHeartbeats 4000000 in
theorem c_X9_cellOf {Ω : JO} {I : JI} {S : JS} {Q : JQ} {m : Nat} {x1 : Int32} {x2 : Int32} {r : Int32} (hm : Is9 S m) (h : s_X9_cellOf I m x1 x2 = some r) (hQ : Q (.inl (some (.int r))) I S) : Call Ω m_X9_cellOf [.ref m, .int x1, .int x2] I S Q := by
  refine call_of (by decide +kernel) rfl (Nat.le_of_ble_eq_true rfl) ?_
  change AA Ω m_X9_cellOf (FQ Ω m_X9_cellOf Q) 0 0 0 [(0, .ref m), (1, .int x1), (2, .int x2)] [] I S
  unfold s_X9_cellOf at h
  refine r_aload_n (pc' := 1) dX9_cellOf_0 rfl 0 rfl rfl ?_
  refine r_getO (pc' := 4) dX9_cellOf_1 fa_X9_9 hm.o rfl hm.r1 rfl ?_
  refine r_sipush (pc' := 7) (v := 264) dX9_cellOf_4 (by decide) rfl ?_
  refine r_bipush (pc' := 9) (v := 25) dX9_cellOf_7 (by decide) rfl ?_
  refine r_iload_n (pc' := 10) dX9_cellOf_9 rfl 1 rfl rfl ?_
  refine r_imul (pc' := 11) dX9_cellOf_10 rfl ?_
  refine r_iadd (pc' := 12) dX9_cellOf_11 rfl ?_
  refine r_iconst (pc' := 13) (v := 1) dX9_cellOf_12 (by decide) rfl ?_
  refine r_iadd (pc' := 14) dX9_cellOf_13 rfl ?_
  refine r_iload_n (pc' := 15) dX9_cellOf_14 rfl 2 rfl rfl ?_
  refine r_iadd (pc' := 16) dX9_cellOf_15 rfl ?_
  obtain ⟨g1, h⟩ := gd_e h
  refine r_iaload (pc' := 17) dX9_cellOf_16 hm.c1 g1 rfl ?_
  cases h
  exact r_iret dX9_cellOf_17 rfl (by decide) (by decide) hQ
noncomputable def s_X9_shows (I : JI) (m : Nat) (x1 : Int32) (x2 : Int32) : Option (Bool) :=
  bd (s_X9_cellOf I m x1 x2) fun v1 => if (v1 - v1 / 2 * 2) = 1 then (some true) else (some false)
set_option maxHeartbeats 4000000 in
theorem c_X9_shows {Ω : JO} {I : JI} {S : JS} {Q : JQ} {m : Nat} {x1 : Int32} {x2 : Int32} {r : Bool} (hm : Is9 S m) (h : s_X9_shows I m x1 x2 = some r) (hQ : Q (.inl (some (.int (zb r)))) I S) : Call Ω m_X9_shows [.ref m, .int x1, .int x2] I S Q := by
  refine call_of (by decide +kernel) rfl (Nat.le_of_ble_eq_true rfl) ?_
  change AA Ω m_X9_shows (FQ Ω m_X9_shows Q) 0 0 0 [(0, .ref m), (1, .int x1), (2, .int x2)] [] I S
  unfold s_X9_shows at h
  refine r_aload_n (pc' := 1) dX9_shows_0 rfl 0 rfl rfl ?_
  refine r_iload_n (pc' := 2) dX9_shows_1 rfl 1 rfl rfl ?_
  refine r_iload_n (pc' := 3) dX9_shows_2 rfl 2 rfl rfl ?_
  obtain ⟨v1, ev1, h⟩ := bd_e h
  refine r_callV2 (pc' := 6) (k' := 0) (n' := 0) dX9_shows_3 mb_X9_cellOf mi_X9_cellOf hm.o (by decide) rfl lk_X9_375 rfl rfl rfl (Nat.le_of_ble_eq_true rfl) rfl (c_X9_cellOf hm ev1 (cpI ?_))
  refine r_iconst (pc' := 7) (v := 2) dX9_shows_6 (by decide) rfl ?_
  refine r_irem (pc' := 8) dX9_shows_7 (by decide) rfl ?_
  refine r_iconst (pc' := 9) (v := 1) dX9_shows_8 (by decide) rfl ?_
  refine r_icmp_ne (tgt := 16) (pc' := 12) dX9_shows_9 rfl rfl (fun h2 => ?_) (fun h2 => ?_)
  · have h := ifn h2 h
    refine r_iconst (pc' := 17) (v := 0) dX9_shows_16 (by decide) rfl ?_
    cases h
    exact r_zret dX9_shows_17 rfl (by decide) (by decide) (by decide) hQ
  · have h := ifp h2 h
    refine r_iconst (pc' := 13) (v := 1) dX9_shows_12 (by decide) rfl ?_
    refine r_goto (tgt := 17) dX9_shows_13 rfl ?_
    cases h
    exact r_zret dX9_shows_17 rfl (by decide) (by decide) (by decide) hQ
noncomputable def s_X9_isStrained_L15 (I : JI) (m : Nat) (q1 : Int32) : Nat → Int32 → Option ((Bool) ⊕ (Int32))
  | 0, _ => none
  | f + 1, w2 => gd (vp_in 5 2030) <| if (I (m + 1) (Int32.toNatClampNeg 5)) ≤ w2 then (some (.inr (w2))) else (bd (s_X9_shows I m w2 q1) fun z6 => if z6 = true then (s_X9_isStrained_L15 I m q1 f (w2 + 1)) else (some (.inl false)))
noncomputable def s_X9_isStrained (I : JI) (m : Nat) (x1 : Int32) : Option (Bool) :=
  gd (vp_in 5 2030) <| gd (vp_in 11 2030) <| lx ((I (m + 1) (Int32.toNatClampNeg 5)) - (I (m + 1) (Int32.toNatClampNeg 11))) fun v3 => bl (s_X9_isStrained_L15 I m x1 lf v3) fun y8 => some true
set_option maxHeartbeats 4000000 in
theorem l_X9_isStrained_L15 {Ω : JO} {S : JS} {Q : JQ} {I : JI} {m : Nat} {q1 : Int32} (hm : Is9 S m) : ∀ (f : Nat) (w2 : Int32) (o : ((Bool) ⊕ (Int32))), s_X9_isStrained_L15 I m q1 f w2 = some o → (∀ (r : Bool), o = .inl r → Q (.inl (some (.int (zb r)))) I S) → (∀ (y2 : Int32) , o = .inr (y2) → AA Ω m_X9_isStrained (FQ Ω m_X9_isStrained Q) 0 0 42 [(2, .int y2), (0, .ref m), (1, .int q1)] [] I S) → AA Ω m_X9_isStrained (FQ Ω m_X9_isStrained Q) 0 0 15 [(2, .int w2), (0, .ref m), (1, .int q1)] [] I S := by
  intro f
  induction f with
  | zero =>
    intro w2 o h hR hE
    rw [s_X9_isStrained_L15] at h
    cases h
  | succ f ih =>
    intro w2 o h hR hE
    rw [s_X9_isStrained_L15] at h
    refine r_iload_n (pc' := 16) dX9_isStrained_15 rfl 0 rfl rfl ?_
    refine r_aload_n (pc' := 17) dX9_isStrained_16 rfl 1 rfl rfl ?_
    refine r_getO (pc' := 20) dX9_isStrained_17 fa_X9_9 hm.o rfl hm.r1 rfl ?_
    refine r_iconst (pc' := 21) (v := 5) dX9_isStrained_20 (by decide) rfl ?_
    obtain ⟨g4, h⟩ := gd_e h
    refine r_iaload (pc' := 22) dX9_isStrained_21 hm.c1 g4 rfl ?_
    refine r_icmp_ge (tgt := 42) (pc' := 25) dX9_isStrained_22 rfl rfl (fun h5 => ?_) (fun h5 => ?_)
    · have h := ifp h5 h
      cases h
      exact hE _ rfl
    · have h := ifn h5 h
      refine r_aload_n (pc' := 26) dX9_isStrained_25 rfl 1 rfl rfl ?_
      refine r_iload_n (pc' := 27) dX9_isStrained_26 rfl 0 rfl rfl ?_
      refine r_iload_n (pc' := 28) dX9_isStrained_27 rfl 2 rfl rfl ?_
      obtain ⟨z6, ez6, h⟩ := bd_e h
      refine r_callV2 (pc' := 31) (k' := 0) (n' := 0) dX9_isStrained_28 mb_X9_shows mi_X9_shows hm.o (by decide) rfl lk_X9_340 rfl rfl rfl (Nat.le_of_ble_eq_true rfl) rfl (c_X9_shows hm ez6 (cpI ?_))
      refine r_if_ne (tgt := 36) (pc' := 34) dX9_isStrained_31 rfl rfl (fun h7 => ?_) (fun h7 => ?_)
      · have h := ifp (zb_p0 h7) h
        refine r_iinc (pc' := 39) (v := _ + 1) (lv' := [(2, _), (0, _), (1, _)]) dX9_isStrained_36 0 rfl rfl (by decide) rfl rfl ?_
        refine r_goto (tgt := 15) dX9_isStrained_39 rfl ?_
        exact ih _ _ h hR hE
      · have h := ifn (zb_n0 h7) h
        refine r_iconst (pc' := 35) (v := 0) dX9_isStrained_34 (by decide) rfl ?_
        cases h
        exact r_zret dX9_isStrained_35 rfl (by decide) (by decide) (by decide) (hR _ rfl)
set_option maxHeartbeats 4000000 in
theorem c_X9_isStrained {Ω : JO} {I : JI} {S : JS} {Q : JQ} {m : Nat} {x1 : Int32} {r : Bool} (hm : Is9 S m) (h : s_X9_isStrained I m x1 = some r) (hQ : Q (.inl (some (.int (zb r)))) I S) : Call Ω m_X9_isStrained [.ref m, .int x1] I S Q := by
  refine call_of (by decide +kernel) rfl (Nat.le_of_ble_eq_true rfl) ?_
  change AA Ω m_X9_isStrained (FQ Ω m_X9_isStrained Q) 0 0 0 [(0, .ref m), (1, .int x1)] [] I S
  unfold s_X9_isStrained at h
  refine r_aload_n (pc' := 1) dX9_isStrained_0 rfl 0 rfl rfl ?_
  refine r_getO (pc' := 4) dX9_isStrained_1 fa_X9_9 hm.o rfl hm.r1 rfl ?_
  refine r_iconst (pc' := 5) (v := 5) dX9_isStrained_4 (by decide) rfl ?_
  obtain ⟨g1, h⟩ := gd_e h
  refine r_iaload (pc' := 6) dX9_isStrained_5 hm.c1 g1 rfl ?_
  refine r_aload_n (pc' := 7) dX9_isStrained_6 rfl 0 rfl rfl ?_
  refine r_getO (pc' := 10) dX9_isStrained_7 fa_X9_9 hm.o rfl hm.r1 rfl ?_
  refine r_bipush (pc' := 12) (v := 11) dX9_isStrained_10 (by decide) rfl ?_
  obtain ⟨g2, h⟩ := gd_e h
  refine r_iaload (pc' := 13) dX9_isStrained_12 hm.c1 g2 rfl ?_
  refine r_isub (pc' := 14) dX9_isStrained_13 rfl ?_
  refine r_istore_n (pc' := 15) (lv' := [(2, _), (0, _), (1, _)]) dX9_isStrained_14 rfl (by decide) rfl rfl ?_
  have h := lx_e h
  obtain ⟨o9, eo9, h1, h⟩ := bl_e h
  refine l_X9_isStrained_L15 (Ω := Ω) hm _ _ _ eo9 (fun r q => ?_) (fun y8 q => ?_)
  · have h1 := h1 _ q
    cases h1
    exact hQ
  have h := h _ q
  refine r_iconst (pc' := 43) (v := 1) dX9_isStrained_42 (by decide) rfl ?_
  cases h
  exact r_zret dX9_isStrained_43 rfl (by decide) (by decide) (by decide) hQ
noncomputable def s_X9_strains_L29 (m : Nat) : Nat → Int32 → JI → Option (Int32 × JI)
  | 0, _, _ => none
  | f + 1, w1, I => gd (vp_in 2 2030) <| if (I (m + 1) (Int32.toNatClampNeg 2)) ≤ w1 then (some (w1, I)) else (bd (s_X9_isStrained I m w1) fun z8 => if z8 = true then (bd (s_X9_putsWarp I m w1 2 1) fun I10 => gd (vp_in 13 2030) <| lx (stI I10 (m + 1) (Int32.toNatClampNeg 13) 1) fun I12 => s_X9_strains_L29 m f (w1 + 1) I12) else (s_X9_strains_L29 m f (w1 + 1) I))
noncomputable def s_X9_strains (I : JI) (m : Nat) : Option (JI) :=
  gd (vp_in 11 2030) <| if (I (m + 1) (Int32.toNatClampNeg 11)) = 0 then (some I) else (gd (vp_in 5 2030) <| gd (vp_in 11 2030) <| if (I (m + 1) (Int32.toNatClampNeg 11)) ≤ (I (m + 1) (Int32.toNatClampNeg 5)) then (bd (s_X9_strains_L29 m lf 0 I) fun (y13, I14) => some I14) else (some I))
set_option maxHeartbeats 4000000 in
theorem l_X9_strains_L29 {Ω : JO} {S : JS} {Q : JQ} {m : Nat} (hm : Is9 S m) : ∀ (f : Nat) (w1 : Int32) (I : JI) (o : (Int32 × JI)), s_X9_strains_L29 m f w1 I = some o → True → (∀ (y1 : Int32) (J : JI) , o = (y1, J) → AA Ω m_X9_strains (FQ Ω m_X9_strains Q) 0 0 71 [(1, .int y1), (0, .ref m)] [] J S) → AA Ω m_X9_strains (FQ Ω m_X9_strains Q) 0 0 29 [(1, .int w1), (0, .ref m)] [] I S := by
  intro f
  induction f with
  | zero =>
    intro w1 I o h hR hE
    rw [s_X9_strains_L29] at h
    cases h
  | succ f ih =>
    intro w1 I o h hR hE
    rw [s_X9_strains_L29] at h
    refine r_iload_n (pc' := 30) dX9_strains_29 rfl 0 rfl rfl ?_
    refine r_aload_n (pc' := 31) dX9_strains_30 rfl 1 rfl rfl ?_
    refine r_getO (pc' := 34) dX9_strains_31 fa_X9_9 hm.o rfl hm.r1 rfl ?_
    refine r_iconst (pc' := 35) (v := 2) dX9_strains_34 (by decide) rfl ?_
    obtain ⟨g6, h⟩ := gd_e h
    refine r_iaload (pc' := 36) dX9_strains_35 hm.c1 g6 rfl ?_
    refine r_icmp_ge (tgt := 71) (pc' := 39) dX9_strains_36 rfl rfl (fun h7 => ?_) (fun h7 => ?_)
    · have h := ifp h7 h
      cases h
      exact hE _ _ rfl
    · have h := ifn h7 h
      refine r_aload_n (pc' := 40) dX9_strains_39 rfl 1 rfl rfl ?_
      refine r_iload_n (pc' := 41) dX9_strains_40 rfl 0 rfl rfl ?_
      obtain ⟨z8, ez8, h⟩ := bd_e h
      refine r_callV1 (pc' := 44) (k' := 0) (n' := 0) dX9_strains_41 mb_X9_isStrained mi_X9_isStrained hm.o (by decide) rfl lk_X9_343 rfl rfl rfl (Nat.le_of_ble_eq_true rfl) rfl (c_X9_isStrained hm ez8 (cpI ?_))
      refine r_if_ne (tgt := 50) (pc' := 47) dX9_strains_44 rfl rfl (fun h9 => ?_) (fun h9 => ?_)
      · have h := ifp (zb_p0 h9) h
        refine r_aload_n (pc' := 51) dX9_strains_50 rfl 1 rfl rfl ?_
        refine r_iload_n (pc' := 52) dX9_strains_51 rfl 0 rfl rfl ?_
        refine r_iconst (pc' := 53) (v := 2) dX9_strains_52 (by decide) rfl ?_
        refine r_iconst (pc' := 54) (v := 1) dX9_strains_53 (by decide) rfl ?_
        obtain ⟨I10, eI10, h⟩ := bd_e h
        refine r_callV3 (pc' := 57) (k' := 0) (n' := 0) dX9_strains_54 mb_X9_putsWarp mi_X9_putsWarp hm.o (by decide) rfl lk_X9_134 rfl rfl rfl (Nat.le_of_ble_eq_true rfl) rfl (c_X9_putsWarp hm eI10 (cpV ?_))
        refine r_aload_n (pc' := 58) dX9_strains_57 rfl 1 rfl rfl ?_
        refine r_getO (pc' := 61) dX9_strains_58 fa_X9_9 hm.o rfl hm.r1 rfl ?_
        refine r_bipush (pc' := 63) (v := 13) dX9_strains_61 (by decide) rfl ?_
        refine r_iconst (pc' := 64) (v := 1) dX9_strains_63 (by decide) rfl ?_
        obtain ⟨g11, h⟩ := gd_e h
        refine r_iastore (pc' := 65) dX9_strains_64 hm.c1 g11 rfl ?_
        have h := lx_e h
        refine r_iinc (pc' := 68) (v := _ + 1) (lv' := [(1, _), (0, _)]) dX9_strains_65 0 rfl rfl (by decide) rfl rfl ?_
        refine r_goto (tgt := 29) dX9_strains_68 rfl ?_
        exact ih _ _ _ h hR hE
      · have h := ifn (zb_n0 h9) h
        refine r_goto (tgt := 65) dX9_strains_47 rfl ?_
        refine r_iinc (pc' := 68) (v := _ + 1) (lv' := [(1, _), (0, _)]) dX9_strains_65 0 rfl rfl (by decide) rfl rfl ?_
        refine r_goto (tgt := 29) dX9_strains_68 rfl ?_
        exact ih _ _ _ h hR hE
set_option maxHeartbeats 4000000 in
theorem c_X9_strains {Ω : JO} {I : JI} {S : JS} {Q : JQ} {m : Nat} {J : JI} (hm : Is9 S m) (h : s_X9_strains I m = some J) (hQ : Q (.inl none) J S) : Call Ω m_X9_strains [.ref m] I S Q := by
  refine call_of (by decide +kernel) rfl (Nat.le_of_ble_eq_true rfl) ?_
  change AA Ω m_X9_strains (FQ Ω m_X9_strains Q) 0 0 0 [(0, .ref m)] [] I S
  unfold s_X9_strains at h
  refine r_aload_n (pc' := 1) dX9_strains_0 rfl 0 rfl rfl ?_
  refine r_getO (pc' := 4) dX9_strains_1 fa_X9_9 hm.o rfl hm.r1 rfl ?_
  refine r_bipush (pc' := 6) (v := 11) dX9_strains_4 (by decide) rfl ?_
  obtain ⟨g1, h⟩ := gd_e h
  refine r_iaload (pc' := 7) dX9_strains_6 hm.c1 g1 rfl ?_
  refine r_if_eq (tgt := 26) (pc' := 10) dX9_strains_7 rfl rfl (fun h2 => ?_) (fun h2 => ?_)
  · have h := ifp h2 h
    cases h
    exact r_ret dX9_strains_26 rfl (by decide) (by decide) hQ
  · have h := ifn h2 h
    refine r_aload_n (pc' := 11) dX9_strains_10 rfl 0 rfl rfl ?_
    refine r_getO (pc' := 14) dX9_strains_11 fa_X9_9 hm.o rfl hm.r1 rfl ?_
    refine r_iconst (pc' := 15) (v := 5) dX9_strains_14 (by decide) rfl ?_
    obtain ⟨g3, h⟩ := gd_e h
    refine r_iaload (pc' := 16) dX9_strains_15 hm.c1 g3 rfl ?_
    refine r_aload_n (pc' := 17) dX9_strains_16 rfl 0 rfl rfl ?_
    refine r_getO (pc' := 20) dX9_strains_17 fa_X9_9 hm.o rfl hm.r1 rfl ?_
    refine r_bipush (pc' := 22) (v := 11) dX9_strains_20 (by decide) rfl ?_
    obtain ⟨g4, h⟩ := gd_e h
    refine r_iaload (pc' := 23) dX9_strains_22 hm.c1 g4 rfl ?_
    refine r_icmp_ge (tgt := 27) (pc' := 26) dX9_strains_23 rfl rfl (fun h5 => ?_) (fun h5 => ?_)
    · have h := ifp h5 h
      refine r_iconst (pc' := 28) (v := 0) dX9_strains_27 (by decide) rfl ?_
      refine r_istore_n (pc' := 29) (lv' := [(1, _), (0, _)]) dX9_strains_28 rfl (by decide) rfl rfl ?_
      obtain ⟨o15, eo15, h⟩ := bd_e h
      refine l_X9_strains_L29 (Ω := Ω) hm _ _ _ _ eo15 trivial (fun y13 I14 q => ?_)
      subst q
      cases h
      exact r_ret dX9_strains_71 rfl (by decide) (by decide) hQ
    · have h := ifn h5 h
      cases h
      exact r_ret dX9_strains_26 rfl (by decide) (by decide) hQ
theorem frl_X9_strains_L29 {m : Nat} {z : Nat} (hz_m1 : z ≠ (m + 1)) : ∀ (f : Nat) (w1 : Int32) (I : JI) (o : (Int32 × JI)), s_X9_strains_L29 m f w1 I = some o → (∀ (y1 : Int32) (J : JI), o = (y1, J) → J z = I z) := by
  intro f
  induction f with
  | zero =>
    intro w1 I o h
    rw [s_X9_strains_L29] at h
    cases h
  | succ f ih =>
    intro w1 I o h
    rw [s_X9_strains_L29] at h
    obtain ⟨g1, h⟩ := gd_e h
    rcases if_e h with h | h
    · cases h
      intro _ _ q
      cases q
      exact rfl
    · obtain ⟨o2, e2, h⟩ := bd_e h
      rcases if_e h with h | h
      · obtain ⟨I10, e3, h⟩ := bd_e h
        obtain ⟨g4, h⟩ := gd_e h
        have h := lx_e h
        intro _ _ q
        exact ((ih _ _ _ h) _ _ q).trans ((fr_stI (by omega)).trans ((fr_X9_putsWarp e3 (by omega)).trans rfl))
      · intro _ _ q
        exact ((ih _ _ _ h) _ _ q).trans rfl
set_option maxHeartbeats 4000000 in
theorem fr_X9_strains {I : JI} {m : Nat} {J : JI} {z : Nat} (h : s_X9_strains I m = some J) (hz_m1 : z ≠ (m + 1)) : J z = I z := by
  unfold s_X9_strains at h
  obtain ⟨g1, h⟩ := gd_e h
  rcases if_e h with h | h
  · cases h
    exact rfl
  · obtain ⟨g2, h⟩ := gd_e h
    obtain ⟨g3, h⟩ := gd_e h
    rcases if_e h with h | h
    · obtain ⟨o4, e4, h⟩ := bd_e h
      obtain ⟨y13, I14⟩ := o4
      cases h
      exact (((frl_X9_strains_L29 hz_m1 _ _ _ _ e4) _ _ rfl).trans rfl)
    · cases h
      exact rfl
noncomputable def s_X9_weavesOne_L32 (m : Nat) (q2 : Int32) (q1 : Int32) : Nat → Int32 → JI → Option (Int32 × JI)
  | 0, _, _ => none
  | f + 1, w3, I => gd (vp_in 0 2030) <| if (I (m + 1) (Int32.toNatClampNeg 0)) ≤ w3 then (some (w3, I)) else (bd (s_X9_ofCard I m q1 0) fun v9 => bd (s_X9_moves I m w3 (s_X9_has v9 w3)) fun I10 => s_X9_weavesOne_L32 m q2 q1 f (w3 + 1) I10)
noncomputable def s_X9_weavesOne_L87 (m : Nat) (q3 : Int32) (q2 : Int32) (q1 : Int32) : Nat → Int32 → JI → Option (Int32 × JI)
  | 0, _, _ => none
  | f + 1, w4, I => gd (vp_in 2 2030) <| if (I (m + 1) (Int32.toNatClampNeg 2)) ≤ w4 then (some (w4, I)) else (bd (s_X9_harnessOf I m w4) fun v20 => bd (s_X9_ofHarness I m v20 0) fun v21 => if v21 = 1 then (bd (s_X9_breaks I m w4) fun z26 => if z26 = true then (gd (vp_in ((q3 + 1) + w4) 2030) <| lx (stI I (m + 1) (Int32.toNatClampNeg ((q3 + 1) + w4)) (s_X9_cell q2 false)) fun I30 => s_X9_weavesOne_L87 m q3 q2 q1 f (w4 + 1) I30) else (bd (s_X9_colourOf I m w4) fun v32 => gd (vp_in ((q3 + 1) + w4) 2030) <| lx (stI I (m + 1) (Int32.toNatClampNeg ((q3 + 1) + w4)) (s_X9_cell v32 true)) fun I34 => s_X9_weavesOne_L87 m q3 q2 q1 f (w4 + 1) I34)) else (gd (vp_in ((q3 + 1) + w4) 2030) <| lx (stI I (m + 1) (Int32.toNatClampNeg ((q3 + 1) + w4)) (s_X9_cell q2 false)) fun I25 => s_X9_weavesOne_L87 m q3 q2 q1 f (w4 + 1) I25))
noncomputable def s_X9_weavesOne (I : JI) (m : Nat) : Option (JI) :=
  bd (s_X9_next I m) fun v1 => bd (s_X9_ofCard I m v1 1) fun v2 => gd (vp_in (110 + v2) 2030) <| gd (vp_in 2 2030) <| gd (vp_in (110 + v2) 2030) <| lx (stI I (m + 1) (Int32.toNatClampNeg (110 + v2)) ((I (m + 1) (Int32.toNatClampNeg (110 + v2))) - (I (m + 1) (Int32.toNatClampNeg 2)))) fun I6 => bd (s_X9_weavesOne_L32 m v2 v1 lf 0 I6) fun (y11, I12) => gd (vp_in 5 2030) <| lx (264 + (25 * (I12 (m + 1) (Int32.toNatClampNeg 5)))) fun v15 => gd (vp_in v15 2030) <| lx (stI I12 (m + 1) (Int32.toNatClampNeg v15) v2) fun I17 => bd (s_X9_weavesOne_L87 m v15 v2 v1 lf 0 I17) fun (y35, I36) => gd (vp_in 5 2030) <| gd (vp_in 5 2030) <| lx (stI I36 (m + 1) (Int32.toNatClampNeg 5) ((I36 (m + 1) (Int32.toNatClampNeg 5)) + 1)) fun I40 => bd (s_X9_strains I40 m) fun I41 => some I41
set_option maxHeartbeats 4000000 in
theorem l_X9_weavesOne_L32 {Ω : JO} {S : JS} {Q : JQ} {m : Nat} {q2 : Int32} {q1 : Int32} (hm : Is9 S m) : ∀ (f : Nat) (w3 : Int32) (I : JI) (o : (Int32 × JI)), s_X9_weavesOne_L32 m q2 q1 f w3 I = some o → True → (∀ (y3 : Int32) (J : JI) , o = (y3, J) → AA Ω m_X9_weavesOne (FQ Ω m_X9_weavesOne Q) 0 0 63 [(3, .int y3), (2, .int q2), (1, .int q1), (0, .ref m)] [] J S) → AA Ω m_X9_weavesOne (FQ Ω m_X9_weavesOne Q) 0 0 32 [(3, .int w3), (2, .int q2), (1, .int q1), (0, .ref m)] [] I S := by
  intro f
  induction f with
  | zero =>
    intro w3 I o h hR hE
    rw [s_X9_weavesOne_L32] at h
    cases h
  | succ f ih =>
    intro w3 I o h hR hE
    rw [s_X9_weavesOne_L32] at h
    refine r_iload_n (pc' := 33) dX9_weavesOne_32 rfl 0 rfl rfl ?_
    refine r_aload_n (pc' := 34) dX9_weavesOne_33 rfl 3 rfl rfl ?_
    refine r_getO (pc' := 37) dX9_weavesOne_34 fa_X9_9 hm.o rfl hm.r1 rfl ?_
    refine r_iconst (pc' := 38) (v := 0) dX9_weavesOne_37 (by decide) rfl ?_
    obtain ⟨g7, h⟩ := gd_e h
    refine r_iaload (pc' := 39) dX9_weavesOne_38 hm.c1 g7 rfl ?_
    refine r_icmp_ge (tgt := 63) (pc' := 42) dX9_weavesOne_39 rfl rfl (fun h8 => ?_) (fun h8 => ?_)
    · have h := ifp h8 h
      cases h
      exact hE _ _ rfl
    · have h := ifn h8 h
      refine r_aload_n (pc' := 43) dX9_weavesOne_42 rfl 3 rfl rfl ?_
      refine r_iload_n (pc' := 44) dX9_weavesOne_43 rfl 0 rfl rfl ?_
      refine r_aload_n (pc' := 45) dX9_weavesOne_44 rfl 3 rfl rfl ?_
      refine r_iload_n (pc' := 46) dX9_weavesOne_45 rfl 2 rfl rfl ?_
      refine r_iconst (pc' := 47) (v := 0) dX9_weavesOne_46 (by decide) rfl ?_
      obtain ⟨v9, ev9, h⟩ := bd_e h
      refine r_callV2 (pc' := 50) (k' := 0) (n' := 0) dX9_weavesOne_47 mb_X9_ofCard mi_X9_ofCard hm.o (by decide) rfl lk_X9_232 rfl rfl rfl (Nat.le_of_ble_eq_true rfl) rfl (c_X9_ofCard hm ev9 (cpI ?_))
      refine r_iload_n (pc' := 51) dX9_weavesOne_50 rfl 0 rfl rfl ?_
      refine r_callS2 (pc' := 54) (k' := 0) (n' := 0) dX9_weavesOne_51 mb_X9_has ms_X9_has lk_X9_147 rfl rfl rfl (Nat.le_of_ble_eq_true rfl) rfl (c_X9_has rfl (cpI ?_))
      obtain ⟨I10, eI10, h⟩ := bd_e h
      refine r_callV2 (pc' := 57) (k' := 0) (n' := 0) dX9_weavesOne_54 mb_X9_moves mi_X9_moves hm.o (by decide) rfl lk_X9_349 rfl rfl rfl (Nat.le_of_ble_eq_true rfl) rfl (c_X9_moves hm eI10 (cpV ?_))
      refine r_iinc (pc' := 60) (v := _ + 1) (lv' := [(3, _), (2, _), (1, _), (0, _)]) dX9_weavesOne_57 0 rfl rfl (by decide) rfl rfl ?_
      refine r_goto (tgt := 32) dX9_weavesOne_60 rfl ?_
      exact ih _ _ _ h hR hE
set_option maxHeartbeats 4000000 in
theorem l_X9_weavesOne_L87 {Ω : JO} {S : JS} {Q : JQ} {m : Nat} {q3 : Int32} {q2 : Int32} {q1 : Int32} (hm : Is9 S m) : ∀ (f : Nat) (w4 : Int32) (I : JI) (o : (Int32 × JI)), s_X9_weavesOne_L87 m q3 q2 q1 f w4 I = some o → True → (∀ (y4 : Int32) (J : JI) , o = (y4, J) → AA Ω m_X9_weavesOne (FQ Ω m_X9_weavesOne Q) 0 0 166 [(4, .int y4), (3, .int q3), (2, .int q2), (1, .int q1), (0, .ref m)] [] J S) → AA Ω m_X9_weavesOne (FQ Ω m_X9_weavesOne Q) 0 0 87 [(4, .int w4), (3, .int q3), (2, .int q2), (1, .int q1), (0, .ref m)] [] I S := by
  intro f
  induction f with
  | zero =>
    intro w4 I o h hR hE
    rw [s_X9_weavesOne_L87] at h
    cases h
  | succ f ih =>
    intro w4 I o h hR hE
    rw [s_X9_weavesOne_L87] at h
    refine r_iload (pc' := 89) dX9_weavesOne_87 0 rfl rfl ?_
    refine r_aload_n (pc' := 90) dX9_weavesOne_89 rfl 4 rfl rfl ?_
    refine r_getO (pc' := 93) dX9_weavesOne_90 fa_X9_9 hm.o rfl hm.r1 rfl ?_
    refine r_iconst (pc' := 94) (v := 2) dX9_weavesOne_93 (by decide) rfl ?_
    obtain ⟨g18, h⟩ := gd_e h
    refine r_iaload (pc' := 95) dX9_weavesOne_94 hm.c1 g18 rfl ?_
    refine r_icmp_ge (tgt := 166) (pc' := 98) dX9_weavesOne_95 rfl rfl (fun h19 => ?_) (fun h19 => ?_)
    · have h := ifp h19 h
      cases h
      exact hE _ _ rfl
    · have h := ifn h19 h
      refine r_aload_n (pc' := 99) dX9_weavesOne_98 rfl 4 rfl rfl ?_
      refine r_aload_n (pc' := 100) dX9_weavesOne_99 rfl 4 rfl rfl ?_
      refine r_iload (pc' := 102) dX9_weavesOne_100 0 rfl rfl ?_
      obtain ⟨v20, ev20, h⟩ := bd_e h
      refine r_callV1 (pc' := 105) (k' := 0) (n' := 0) dX9_weavesOne_102 mb_X9_harnessOf mi_X9_harnessOf hm.o (by decide) rfl lk_X9_328 rfl rfl rfl (Nat.le_of_ble_eq_true rfl) rfl (c_X9_harnessOf hm ev20 (cpI ?_))
      refine r_iconst (pc' := 106) (v := 0) dX9_weavesOne_105 (by decide) rfl ?_
      obtain ⟨v21, ev21, h⟩ := bd_e h
      refine r_callV2 (pc' := 109) (k' := 0) (n' := 0) dX9_weavesOne_106 mb_X9_ofHarness mi_X9_ofHarness hm.o (by decide) rfl lk_X9_346 rfl rfl rfl (Nat.le_of_ble_eq_true rfl) rfl (c_X9_ofHarness hm ev21 (cpI ?_))
      refine r_iconst (pc' := 110) (v := 1) dX9_weavesOne_109 (by decide) rfl ?_
      refine r_icmp_ne (tgt := 126) (pc' := 113) dX9_weavesOne_110 rfl rfl (fun h22 => ?_) (fun h22 => ?_)
      · have h := ifn h22 h
        refine r_iconst (pc' := 127) (v := 0) dX9_weavesOne_126 (by decide) rfl ?_
        refine r_istore (pc' := 129) (lv' := [(5, _), (4, _), (3, _), (2, _), (1, _), (0, _)]) dX9_weavesOne_127 (by decide) rfl rfl ?_
        refine r_aload_n (pc' := 130) dX9_weavesOne_129 rfl 5 rfl rfl ?_
        refine r_getO (pc' := 133) dX9_weavesOne_130 fa_X9_9 hm.o rfl hm.r1 rfl ?_
        refine r_iload_n (pc' := 134) dX9_weavesOne_133 rfl 2 rfl rfl ?_
        refine r_iconst (pc' := 135) (v := 1) dX9_weavesOne_134 (by decide) rfl ?_
        refine r_iadd (pc' := 136) dX9_weavesOne_135 rfl ?_
        refine r_iload (pc' := 138) dX9_weavesOne_136 1 rfl rfl ?_
        refine r_iadd (pc' := 139) dX9_weavesOne_138 rfl ?_
        refine r_iload (pc' := 141) dX9_weavesOne_139 0 rfl rfl ?_
        refine r_if_eq (tgt := 153) (pc' := 144) dX9_weavesOne_141 rfl rfl (fun _ => ?_) (fun h23 => absurd (by decide) h23)
        refine r_iload_n (pc' := 154) dX9_weavesOne_153 rfl 3 rfl rfl ?_
        refine r_iload (pc' := 156) dX9_weavesOne_154 0 rfl rfl ?_
        refine r_callS2 (pc' := 159) (k' := 0) (n' := 0) dX9_weavesOne_156 mb_X9_cell ms_X9_cell lk_X9_356 rfl rfl rfl (Nat.le_of_ble_eq_true rfl) rfl (c_X9_cell (b1 := false) rfl (cpI ?_))
        obtain ⟨g24, h⟩ := gd_e h
        refine r_iastore (pc' := 160) dX9_weavesOne_159 hm.c1 g24 rfl ?_
        have h := lx_e h
        refine r_iinc (pc' := 163) (v := _ + 1) (lv' := [(4, _), (5, _), (3, _), (2, _), (1, _), (0, _)]) dX9_weavesOne_160 1 rfl rfl (by decide) rfl rfl ?_
        refine r_goto (tgt := 87) dX9_weavesOne_163 rfl ?_
        refine aa_locs (ks := [0, 2, 3, 4, 5]) (lv' := [(4, _), (3, _), (2, _), (1, _), (0, _)]) rfl ?_
        exact ih _ _ _ h hR hE
      · have h := ifp h22 h
        refine r_aload_n (pc' := 114) dX9_weavesOne_113 rfl 4 rfl rfl ?_
        refine r_iload (pc' := 116) dX9_weavesOne_114 0 rfl rfl ?_
        obtain ⟨z26, ez26, h⟩ := bd_e h
        refine r_callV1 (pc' := 119) (k' := 0) (n' := 0) dX9_weavesOne_116 mb_X9_breaks mi_X9_breaks hm.o (by decide) rfl lk_X9_235 rfl rfl rfl (Nat.le_of_ble_eq_true rfl) rfl (c_X9_breaks hm ez26 (cpI ?_))
        refine r_if_ne (tgt := 126) (pc' := 122) dX9_weavesOne_119 rfl rfl (fun h27 => ?_) (fun h27 => ?_)
        · have h := ifp (zb_p0 h27) h
          refine r_iconst (pc' := 127) (v := 0) dX9_weavesOne_126 (by decide) rfl ?_
          refine r_istore (pc' := 129) (lv' := [(5, _), (4, _), (3, _), (2, _), (1, _), (0, _)]) dX9_weavesOne_127 (by decide) rfl rfl ?_
          refine r_aload_n (pc' := 130) dX9_weavesOne_129 rfl 5 rfl rfl ?_
          refine r_getO (pc' := 133) dX9_weavesOne_130 fa_X9_9 hm.o rfl hm.r1 rfl ?_
          refine r_iload_n (pc' := 134) dX9_weavesOne_133 rfl 2 rfl rfl ?_
          refine r_iconst (pc' := 135) (v := 1) dX9_weavesOne_134 (by decide) rfl ?_
          refine r_iadd (pc' := 136) dX9_weavesOne_135 rfl ?_
          refine r_iload (pc' := 138) dX9_weavesOne_136 1 rfl rfl ?_
          refine r_iadd (pc' := 139) dX9_weavesOne_138 rfl ?_
          refine r_iload (pc' := 141) dX9_weavesOne_139 0 rfl rfl ?_
          refine r_if_eq (tgt := 153) (pc' := 144) dX9_weavesOne_141 rfl rfl (fun _ => ?_) (fun h28 => absurd (by decide) h28)
          refine r_iload_n (pc' := 154) dX9_weavesOne_153 rfl 3 rfl rfl ?_
          refine r_iload (pc' := 156) dX9_weavesOne_154 0 rfl rfl ?_
          refine r_callS2 (pc' := 159) (k' := 0) (n' := 0) dX9_weavesOne_156 mb_X9_cell ms_X9_cell lk_X9_356 rfl rfl rfl (Nat.le_of_ble_eq_true rfl) rfl (c_X9_cell (b1 := false) rfl (cpI ?_))
          obtain ⟨g29, h⟩ := gd_e h
          refine r_iastore (pc' := 160) dX9_weavesOne_159 hm.c1 g29 rfl ?_
          have h := lx_e h
          refine r_iinc (pc' := 163) (v := _ + 1) (lv' := [(4, _), (5, _), (3, _), (2, _), (1, _), (0, _)]) dX9_weavesOne_160 1 rfl rfl (by decide) rfl rfl ?_
          refine r_goto (tgt := 87) dX9_weavesOne_163 rfl ?_
          refine aa_locs (ks := [0, 2, 3, 4, 5]) (lv' := [(4, _), (3, _), (2, _), (1, _), (0, _)]) rfl ?_
          exact ih _ _ _ h hR hE
        · have h := ifn (zb_n0 h27) h
          refine r_iconst (pc' := 123) (v := 1) dX9_weavesOne_122 (by decide) rfl ?_
          refine r_goto (tgt := 127) dX9_weavesOne_123 rfl ?_
          refine r_istore (pc' := 129) (lv' := [(5, _), (4, _), (3, _), (2, _), (1, _), (0, _)]) dX9_weavesOne_127 (by decide) rfl rfl ?_
          refine r_aload_n (pc' := 130) dX9_weavesOne_129 rfl 5 rfl rfl ?_
          refine r_getO (pc' := 133) dX9_weavesOne_130 fa_X9_9 hm.o rfl hm.r1 rfl ?_
          refine r_iload_n (pc' := 134) dX9_weavesOne_133 rfl 2 rfl rfl ?_
          refine r_iconst (pc' := 135) (v := 1) dX9_weavesOne_134 (by decide) rfl ?_
          refine r_iadd (pc' := 136) dX9_weavesOne_135 rfl ?_
          refine r_iload (pc' := 138) dX9_weavesOne_136 1 rfl rfl ?_
          refine r_iadd (pc' := 139) dX9_weavesOne_138 rfl ?_
          refine r_iload (pc' := 141) dX9_weavesOne_139 0 rfl rfl ?_
          refine r_if_eq (tgt := 153) (pc' := 144) dX9_weavesOne_141 rfl rfl (fun h31 => absurd h31 (by decide)) (fun _ => ?_)
          refine r_aload_n (pc' := 145) dX9_weavesOne_144 rfl 5 rfl rfl ?_
          refine r_iload (pc' := 147) dX9_weavesOne_145 1 rfl rfl ?_
          obtain ⟨v32, ev32, h⟩ := bd_e h
          refine r_callV1 (pc' := 150) (k' := 0) (n' := 0) dX9_weavesOne_147 mb_X9_colourOf mi_X9_colourOf hm.o (by decide) rfl lk_X9_353 rfl rfl rfl (Nat.le_of_ble_eq_true rfl) rfl (c_X9_colourOf hm ev32 (cpI ?_))
          refine r_goto (tgt := 154) dX9_weavesOne_150 rfl ?_
          refine r_iload (pc' := 156) dX9_weavesOne_154 0 rfl rfl ?_
          refine r_callS2 (pc' := 159) (k' := 0) (n' := 0) dX9_weavesOne_156 mb_X9_cell ms_X9_cell lk_X9_356 rfl rfl rfl (Nat.le_of_ble_eq_true rfl) rfl (c_X9_cell (b1 := true) rfl (cpI ?_))
          obtain ⟨g33, h⟩ := gd_e h
          refine r_iastore (pc' := 160) dX9_weavesOne_159 hm.c1 g33 rfl ?_
          have h := lx_e h
          refine r_iinc (pc' := 163) (v := _ + 1) (lv' := [(4, _), (5, _), (3, _), (2, _), (1, _), (0, _)]) dX9_weavesOne_160 1 rfl rfl (by decide) rfl rfl ?_
          refine r_goto (tgt := 87) dX9_weavesOne_163 rfl ?_
          refine aa_locs (ks := [0, 2, 3, 4, 5]) (lv' := [(4, _), (3, _), (2, _), (1, _), (0, _)]) rfl ?_
          exact ih _ _ _ h hR hE
set_option maxHeartbeats 4000000 in
theorem c_X9_weavesOne {Ω : JO} {I : JI} {S : JS} {Q : JQ} {m : Nat} {J : JI} (hm : Is9 S m) (h : s_X9_weavesOne I m = some J) (hQ : Q (.inl none) J S) : Call Ω m_X9_weavesOne [.ref m] I S Q := by
  refine call_of (by decide +kernel) rfl (Nat.le_of_ble_eq_true rfl) ?_
  change AA Ω m_X9_weavesOne (FQ Ω m_X9_weavesOne Q) 0 0 0 [(0, .ref m)] [] I S
  unfold s_X9_weavesOne at h
  refine r_aload_n (pc' := 1) dX9_weavesOne_0 rfl 0 rfl rfl ?_
  obtain ⟨v1, ev1, h⟩ := bd_e h
  refine r_callV0 (pc' := 4) (k' := 0) (n' := 0) dX9_weavesOne_1 mb_X9_next mi_X9_next hm.o (by decide) rfl lk_X9_334 rfl rfl rfl (Nat.le_of_ble_eq_true rfl) rfl (c_X9_next hm ev1 (cpI ?_))
  refine r_istore_n (pc' := 5) (lv' := [(1, _), (0, _)]) dX9_weavesOne_4 rfl (by decide) rfl rfl ?_
  refine r_aload_n (pc' := 6) dX9_weavesOne_5 rfl 1 rfl rfl ?_
  refine r_iload_n (pc' := 7) dX9_weavesOne_6 rfl 0 rfl rfl ?_
  refine r_iconst (pc' := 8) (v := 1) dX9_weavesOne_7 (by decide) rfl ?_
  obtain ⟨v2, ev2, h⟩ := bd_e h
  refine r_callV2 (pc' := 11) (k' := 0) (n' := 0) dX9_weavesOne_8 mb_X9_ofCard mi_X9_ofCard hm.o (by decide) rfl lk_X9_232 rfl rfl rfl (Nat.le_of_ble_eq_true rfl) rfl (c_X9_ofCard hm ev2 (cpI ?_))
  refine r_istore_n (pc' := 12) (lv' := [(2, _), (1, _), (0, _)]) dX9_weavesOne_11 rfl (by decide) rfl rfl ?_
  refine r_aload_n (pc' := 13) dX9_weavesOne_12 rfl 2 rfl rfl ?_
  refine r_getO (pc' := 16) dX9_weavesOne_13 fa_X9_9 hm.o rfl hm.r1 rfl ?_
  refine r_bipush (pc' := 18) (v := 110) dX9_weavesOne_16 (by decide) rfl ?_
  refine r_iload_n (pc' := 19) dX9_weavesOne_18 rfl 0 rfl rfl ?_
  refine r_iadd (pc' := 20) dX9_weavesOne_19 rfl ?_
  refine r_dup2 (pc' := 21) dX9_weavesOne_20 rfl rfl rfl ?_
  obtain ⟨g3, h⟩ := gd_e h
  refine r_iaload (pc' := 22) dX9_weavesOne_21 hm.c1 g3 rfl ?_
  refine r_aload_n (pc' := 23) dX9_weavesOne_22 rfl 2 rfl rfl ?_
  refine r_getO (pc' := 26) dX9_weavesOne_23 fa_X9_9 hm.o rfl hm.r1 rfl ?_
  refine r_iconst (pc' := 27) (v := 2) dX9_weavesOne_26 (by decide) rfl ?_
  obtain ⟨g4, h⟩ := gd_e h
  refine r_iaload (pc' := 28) dX9_weavesOne_27 hm.c1 g4 rfl ?_
  refine r_isub (pc' := 29) dX9_weavesOne_28 rfl ?_
  obtain ⟨g5, h⟩ := gd_e h
  refine r_iastore (pc' := 30) dX9_weavesOne_29 hm.c1 g5 rfl ?_
  have h := lx_e h
  refine r_iconst (pc' := 31) (v := 0) dX9_weavesOne_30 (by decide) rfl ?_
  refine r_istore_n (pc' := 32) (lv' := [(3, _), (2, _), (1, _), (0, _)]) dX9_weavesOne_31 rfl (by decide) rfl rfl ?_
  obtain ⟨o13, eo13, h⟩ := bd_e h
  refine l_X9_weavesOne_L32 (Ω := Ω) hm _ _ _ _ eo13 trivial (fun y11 I12 q => ?_)
  subst q
  refine r_sipush (pc' := 66) (v := 264) dX9_weavesOne_63 (by decide) rfl ?_
  refine r_bipush (pc' := 68) (v := 25) dX9_weavesOne_66 (by decide) rfl ?_
  refine r_aload_n (pc' := 69) dX9_weavesOne_68 rfl 3 rfl rfl ?_
  refine r_getO (pc' := 72) dX9_weavesOne_69 fa_X9_9 hm.o rfl hm.r1 rfl ?_
  refine r_iconst (pc' := 73) (v := 5) dX9_weavesOne_72 (by decide) rfl ?_
  obtain ⟨g14, h⟩ := gd_e h
  refine r_iaload (pc' := 74) dX9_weavesOne_73 hm.c1 g14 rfl ?_
  refine r_imul (pc' := 75) dX9_weavesOne_74 rfl ?_
  refine r_iadd (pc' := 76) dX9_weavesOne_75 rfl ?_
  refine r_istore_n (pc' := 77) (lv' := [(3, _), (2, _), (1, _), (0, _)]) dX9_weavesOne_76 rfl (by decide) rfl rfl ?_
  have h := lx_e h
  refine r_aload_n (pc' := 78) dX9_weavesOne_77 rfl 3 rfl rfl ?_
  refine r_getO (pc' := 81) dX9_weavesOne_78 fa_X9_9 hm.o rfl hm.r1 rfl ?_
  refine r_iload_n (pc' := 82) dX9_weavesOne_81 rfl 0 rfl rfl ?_
  refine r_iload_n (pc' := 83) dX9_weavesOne_82 rfl 1 rfl rfl ?_
  obtain ⟨g16, h⟩ := gd_e h
  refine r_iastore (pc' := 84) dX9_weavesOne_83 hm.c1 g16 rfl ?_
  have h := lx_e h
  refine r_iconst (pc' := 85) (v := 0) dX9_weavesOne_84 (by decide) rfl ?_
  refine r_istore (pc' := 87) (lv' := [(4, _), (3, _), (2, _), (1, _), (0, _)]) dX9_weavesOne_85 (by decide) rfl rfl ?_
  obtain ⟨o37, eo37, h⟩ := bd_e h
  refine l_X9_weavesOne_L87 (Ω := Ω) hm _ _ _ _ eo37 trivial (fun y35 I36 q => ?_)
  subst q
  refine r_aload_n (pc' := 167) dX9_weavesOne_166 rfl 4 rfl rfl ?_
  refine r_getO (pc' := 170) dX9_weavesOne_167 fa_X9_9 hm.o rfl hm.r1 rfl ?_
  refine r_iconst (pc' := 171) (v := 5) dX9_weavesOne_170 (by decide) rfl ?_
  refine r_dup2 (pc' := 172) dX9_weavesOne_171 rfl rfl rfl ?_
  obtain ⟨g38, h⟩ := gd_e h
  refine r_iaload (pc' := 173) dX9_weavesOne_172 hm.c1 g38 rfl ?_
  refine r_iconst (pc' := 174) (v := 1) dX9_weavesOne_173 (by decide) rfl ?_
  refine r_iadd (pc' := 175) dX9_weavesOne_174 rfl ?_
  obtain ⟨g39, h⟩ := gd_e h
  refine r_iastore (pc' := 176) dX9_weavesOne_175 hm.c1 g39 rfl ?_
  have h := lx_e h
  refine r_aload_n (pc' := 177) dX9_weavesOne_176 rfl 4 rfl rfl ?_
  obtain ⟨I41, eI41, h⟩ := bd_e h
  refine r_callV0 (pc' := 180) (k' := 0) (n' := 0) dX9_weavesOne_177 mb_X9_strains mi_X9_strains hm.o (by decide) rfl lk_X9_360 rfl rfl rfl (Nat.le_of_ble_eq_true rfl) rfl (c_X9_strains hm eI41 (cpV ?_))
  cases h
  exact r_ret dX9_weavesOne_180 rfl (by decide) (by decide) hQ
theorem frl_X9_weavesOne_L32 {m : Nat} {q2 : Int32} {q1 : Int32} {z : Nat} (hz_m1 : z ≠ (m + 1)) : ∀ (f : Nat) (w3 : Int32) (I : JI) (o : (Int32 × JI)), s_X9_weavesOne_L32 m q2 q1 f w3 I = some o → (∀ (y3 : Int32) (J : JI), o = (y3, J) → J z = I z) := by
  intro f
  induction f with
  | zero =>
    intro w3 I o h
    rw [s_X9_weavesOne_L32] at h
    cases h
  | succ f ih =>
    intro w3 I o h
    rw [s_X9_weavesOne_L32] at h
    obtain ⟨g1, h⟩ := gd_e h
    rcases if_e h with h | h
    · cases h
      intro _ _ q
      cases q
      exact rfl
    · obtain ⟨o2, e2, h⟩ := bd_e h
      obtain ⟨I10, e3, h⟩ := bd_e h
      intro _ _ q
      exact ((ih _ _ _ h) _ _ q).trans ((fr_X9_moves e3 (by omega)).trans rfl)
theorem frl_X9_weavesOne_L87 {m : Nat} {q3 : Int32} {q2 : Int32} {q1 : Int32} {z : Nat} (hz_m1 : z ≠ (m + 1)) : ∀ (f : Nat) (w4 : Int32) (I : JI) (o : (Int32 × JI)), s_X9_weavesOne_L87 m q3 q2 q1 f w4 I = some o → (∀ (y4 : Int32) (J : JI), o = (y4, J) → J z = I z) := by
  intro f
  induction f with
  | zero =>
    intro w4 I o h
    rw [s_X9_weavesOne_L87] at h
    cases h
  | succ f ih =>
    intro w4 I o h
    rw [s_X9_weavesOne_L87] at h
    obtain ⟨g1, h⟩ := gd_e h
    rcases if_e h with h | h
    · cases h
      intro _ _ q
      cases q
      exact rfl
    · obtain ⟨o2, e2, h⟩ := bd_e h
      obtain ⟨o3, e3, h⟩ := bd_e h
      rcases if_e h with h | h
      · obtain ⟨o4, e4, h⟩ := bd_e h
        rcases if_e h with h | h
        · obtain ⟨g5, h⟩ := gd_e h
          have h := lx_e h
          intro _ _ q
          exact ((ih _ _ _ h) _ _ q).trans ((fr_stI (by omega)).trans rfl)
        · obtain ⟨o6, e6, h⟩ := bd_e h
          obtain ⟨g7, h⟩ := gd_e h
          have h := lx_e h
          intro _ _ q
          exact ((ih _ _ _ h) _ _ q).trans ((fr_stI (by omega)).trans rfl)
      · obtain ⟨g8, h⟩ := gd_e h
        have h := lx_e h
        intro _ _ q
        exact ((ih _ _ _ h) _ _ q).trans ((fr_stI (by omega)).trans rfl)
set_option maxHeartbeats 4000000 in
theorem fr_X9_weavesOne {I : JI} {m : Nat} {J : JI} {z : Nat} (h : s_X9_weavesOne I m = some J) (hz_m1 : z ≠ (m + 1)) : J z = I z := by
  unfold s_X9_weavesOne at h
  obtain ⟨o1, e1, h⟩ := bd_e h
  obtain ⟨o2, e2, h⟩ := bd_e h
  obtain ⟨g3, h⟩ := gd_e h
  obtain ⟨g4, h⟩ := gd_e h
  obtain ⟨g5, h⟩ := gd_e h
  have h := lx_e h
  obtain ⟨o6, e6, h⟩ := bd_e h
  obtain ⟨y11, I12⟩ := o6
  obtain ⟨g7, h⟩ := gd_e h
  have h := lx_e h
  obtain ⟨g8, h⟩ := gd_e h
  have h := lx_e h
  obtain ⟨o9, e9, h⟩ := bd_e h
  obtain ⟨y35, I36⟩ := o9
  obtain ⟨g10, h⟩ := gd_e h
  obtain ⟨g11, h⟩ := gd_e h
  have h := lx_e h
  obtain ⟨I41, e12, h⟩ := bd_e h
  cases h
  exact ((fr_X9_strains e12 (by omega)).trans ((fr_stI (by omega)).trans (((frl_X9_weavesOne_L87 hz_m1 _ _ _ _ e9) _ _ rfl).trans ((fr_stI (by omega)).trans (((frl_X9_weavesOne_L32 hz_m1 _ _ _ _ e6) _ _ rfl).trans ((fr_stI (by omega)).trans rfl))))))
noncomputable def s_X9_weaves_L2 (m : Nat) (q1 : Int32) : Nat → Int32 → JI → Option (Int32 × JI)
  | 0, _, _ => none
  | f + 1, w2, I => if q1 ≤ w2 then (some (w2, I)) else (bd (s_X9_why I m) fun v2 => if v2 = 0 then (bd (s_X9_weavesOne I m) fun I4 => s_X9_weaves_L2 m q1 f (w2 + 1) I4) else (some (w2, I)))
noncomputable def s_X9_weaves (I : JI) (m : Nat) (x1 : Int32) : Option (Int32 × JI) :=
  bd (s_X9_weaves_L2 m x1 lf 0 I) fun (y5, I6) => some (y5, I6)
set_option maxHeartbeats 4000000 in
theorem l_X9_weaves_L2 {Ω : JO} {S : JS} {Q : JQ} {m : Nat} {q1 : Int32} (hm : Is9 S m) : ∀ (f : Nat) (w2 : Int32) (I : JI) (o : (Int32 × JI)), s_X9_weaves_L2 m q1 f w2 I = some o → True → (∀ (y2 : Int32) (J : JI) , o = (y2, J) → AA Ω m_X9_weaves (FQ Ω m_X9_weaves Q) 0 0 24 [(2, .int y2), (0, .ref m), (1, .int q1)] [] J S) → AA Ω m_X9_weaves (FQ Ω m_X9_weaves Q) 0 0 2 [(2, .int w2), (0, .ref m), (1, .int q1)] [] I S := by
  intro f
  induction f with
  | zero =>
    intro w2 I o h hR hE
    rw [s_X9_weaves_L2] at h
    cases h
  | succ f ih =>
    intro w2 I o h hR hE
    rw [s_X9_weaves_L2] at h
    refine r_iload_n (pc' := 3) dX9_weaves_2 rfl 0 rfl rfl ?_
    refine r_iload_n (pc' := 4) dX9_weaves_3 rfl 2 rfl rfl ?_
    refine r_icmp_ge (tgt := 24) (pc' := 7) dX9_weaves_4 rfl rfl (fun h1 => ?_) (fun h1 => ?_)
    · have h := ifp h1 h
      cases h
      exact hE _ _ rfl
    · have h := ifn h1 h
      refine r_aload_n (pc' := 8) dX9_weaves_7 rfl 1 rfl rfl ?_
      obtain ⟨v2, ev2, h⟩ := bd_e h
      refine r_callV0 (pc' := 11) (k' := 0) (n' := 0) dX9_weaves_8 mb_X9_why mi_X9_why hm.o (by decide) rfl lk_X9_363 rfl rfl rfl (Nat.le_of_ble_eq_true rfl) rfl (c_X9_why hm ev2 (cpI ?_))
      refine r_if_ne (tgt := 24) (pc' := 14) dX9_weaves_11 rfl rfl (fun h3 => ?_) (fun h3 => ?_)
      · have h := ifn h3 h
        cases h
        exact hE _ _ rfl
      · have h := ifp h3 h
        refine r_aload_n (pc' := 15) dX9_weaves_14 rfl 1 rfl rfl ?_
        obtain ⟨I4, eI4, h⟩ := bd_e h
        refine r_callV0 (pc' := 18) (k' := 0) (n' := 0) dX9_weaves_15 mb_X9_weavesOne mi_X9_weavesOne hm.o (by decide) rfl lk_X9_366 rfl rfl rfl (Nat.le_of_ble_eq_true rfl) rfl (c_X9_weavesOne hm eI4 (cpV ?_))
        refine r_iinc (pc' := 21) (v := _ + 1) (lv' := [(2, _), (0, _), (1, _)]) dX9_weaves_18 0 rfl rfl (by decide) rfl rfl ?_
        refine r_goto (tgt := 2) dX9_weaves_21 rfl ?_
        exact ih _ _ _ h hR hE
set_option maxHeartbeats 4000000 in
theorem c_X9_weaves {Ω : JO} {I : JI} {S : JS} {Q : JQ} {m : Nat} {x1 : Int32} {r : Int32} {J : JI} (hm : Is9 S m) (h : s_X9_weaves I m x1 = some (r, J)) (hQ : Q (.inl (some (.int r))) J S) : Call Ω m_X9_weaves [.ref m, .int x1] I S Q := by
  refine call_of (by decide +kernel) rfl (Nat.le_of_ble_eq_true rfl) ?_
  change AA Ω m_X9_weaves (FQ Ω m_X9_weaves Q) 0 0 0 [(0, .ref m), (1, .int x1)] [] I S
  unfold s_X9_weaves at h
  refine r_iconst (pc' := 1) (v := 0) dX9_weaves_0 (by decide) rfl ?_
  refine r_istore_n (pc' := 2) (lv' := [(2, _), (0, _), (1, _)]) dX9_weaves_1 rfl (by decide) rfl rfl ?_
  obtain ⟨o7, eo7, h⟩ := bd_e h
  refine l_X9_weaves_L2 (Ω := Ω) hm _ _ _ _ eo7 trivial (fun y5 I6 q => ?_)
  subst q
  refine r_iload_n (pc' := 25) dX9_weaves_24 rfl 0 rfl rfl ?_
  cases h
  exact r_iret dX9_weaves_25 rfl (by decide) (by decide) hQ
theorem frl_X9_weaves_L2 {m : Nat} {q1 : Int32} {z : Nat} (hz_m1 : z ≠ (m + 1)) : ∀ (f : Nat) (w2 : Int32) (I : JI) (o : (Int32 × JI)), s_X9_weaves_L2 m q1 f w2 I = some o → (∀ (y2 : Int32) (J : JI), o = (y2, J) → J z = I z) := by
  intro f
  induction f with
  | zero =>
    intro w2 I o h
    rw [s_X9_weaves_L2] at h
    cases h
  | succ f ih =>
    intro w2 I o h
    rw [s_X9_weaves_L2] at h
    rcases if_e h with h | h
    · cases h
      intro _ _ q
      cases q
      exact rfl
    · obtain ⟨o1, e1, h⟩ := bd_e h
      rcases if_e h with h | h
      · obtain ⟨I4, e2, h⟩ := bd_e h
        intro _ _ q
        exact ((ih _ _ _ h) _ _ q).trans ((fr_X9_weavesOne e2 (by omega)).trans rfl)
      · cases h
        intro _ _ q
        cases q
        exact rfl
set_option maxHeartbeats 4000000 in
theorem fr_X9_weaves {I : JI} {m : Nat} {x1 : Int32} {r : Int32} {J : JI} {z : Nat} (h : s_X9_weaves I m x1 = some (r, J)) (hz_m1 : z ≠ (m + 1)) : J z = I z := by
  unfold s_X9_weaves at h
  obtain ⟨o1, e1, h⟩ := bd_e h
  obtain ⟨y5, I6⟩ := o1
  cases h
  exact (((frl_X9_weaves_L2 hz_m1 _ _ _ _ e1) _ _ rfl).trans rfl)
noncomputable def s_X9_readsWeave (I : JI) (m : Nat) : Option (JI) :=
  bd (s_X9_goes I m) fun I1 => bd2 (s_X9_numberHere I1 m 1 60) fun v3 I2 => if (I2 m 10) ≤ 0 then (bd2 (s_X9_weaves I2 m v3) fun v6 I5 => if v3 ≤ v6 then (lx (s_X9_refuses I5 m false) fun I8 => bd (s_X9_goes I8 m) fun I9 => some I9) else (lx (s_X9_refuses I5 m true) fun I10 => bd (s_X9_goes I10 m) fun I11 => some I11)) else (if v3 ≤ v3 then (lx (s_X9_refuses I2 m false) fun I13 => bd (s_X9_goes I13 m) fun I14 => some I14) else (lx (s_X9_refuses I2 m true) fun I15 => bd (s_X9_goes I15 m) fun I16 => some I16))
set_option maxHeartbeats 4000000 in
theorem c_X9_readsWeave {Ω : JO} {I : JI} {S : JS} {Q : JQ} {m : Nat} {J : JI} (hm : Is9 S m) (h : s_X9_readsWeave I m = some J) (hQ : Q (.inl none) J S) : Call Ω m_X9_readsWeave [.ref m] I S Q := by
  refine call_of (by decide +kernel) rfl (Nat.le_of_ble_eq_true rfl) ?_
  change AA Ω m_X9_readsWeave (FQ Ω m_X9_readsWeave Q) 0 0 0 [(0, .ref m)] [] I S
  unfold s_X9_readsWeave at h
  refine r_aload_n (pc' := 1) dX9_readsWeave_0 rfl 0 rfl rfl ?_
  obtain ⟨I1, eI1, h⟩ := bd_e h
  refine r_callV0 (pc' := 4) (k' := 0) (n' := 0) dX9_readsWeave_1 mb_X9_goes mi_X9_goes hm.o (by decide) rfl lk_X9_124 rfl rfl rfl (Nat.le_of_ble_eq_true rfl) rfl (c_X9_goes hm eI1 (cpV ?_))
  refine r_aload_n (pc' := 5) dX9_readsWeave_4 rfl 0 rfl rfl ?_
  refine r_iconst (pc' := 6) (v := 1) dX9_readsWeave_5 (by decide) rfl ?_
  refine r_bipush (pc' := 8) (v := 60) dX9_readsWeave_6 (by decide) rfl ?_
  obtain ⟨v3, I2, ev3, h⟩ := bd2_e h
  refine r_callV2 (pc' := 11) (k' := 0) (n' := 0) dX9_readsWeave_8 mb_X9_numberHere mi_X9_numberHere hm.o (by decide) rfl lk_X9_120 rfl rfl rfl (Nat.le_of_ble_eq_true rfl) rfl (c_X9_numberHere hm ev3 (cpI ?_))
  refine r_istore_n (pc' := 12) (lv' := [(1, _), (0, _)]) dX9_readsWeave_11 rfl (by decide) rfl rfl ?_
  refine r_aload_n (pc' := 13) dX9_readsWeave_12 rfl 1 rfl rfl ?_
  refine r_getI (pc' := 16) dX9_readsWeave_13 fa_X9_68 hm.o rfl rfl ?_
  refine r_if_le (tgt := 23) (pc' := 19) dX9_readsWeave_16 rfl rfl (fun h4 => ?_) (fun h4 => ?_)
  · have h := ifp h4 h
    refine r_aload_n (pc' := 24) dX9_readsWeave_23 rfl 1 rfl rfl ?_
    refine r_iload_n (pc' := 25) dX9_readsWeave_24 rfl 0 rfl rfl ?_
    obtain ⟨v6, I5, ev6, h⟩ := bd2_e h
    refine r_callV1 (pc' := 28) (k' := 0) (n' := 0) dX9_readsWeave_25 mb_X9_weaves mi_X9_weaves hm.o (by decide) rfl lk_X9_211 rfl rfl rfl (Nat.le_of_ble_eq_true rfl) rfl (c_X9_weaves hm ev6 (cpI ?_))
    refine r_istore_n (pc' := 29) (lv' := [(2, _), (1, _), (0, _)]) dX9_readsWeave_28 rfl (by decide) rfl rfl ?_
    refine r_aload_n (pc' := 30) dX9_readsWeave_29 rfl 2 rfl rfl ?_
    refine r_iload_n (pc' := 31) dX9_readsWeave_30 rfl 0 rfl rfl ?_
    refine r_iload_n (pc' := 32) dX9_readsWeave_31 rfl 1 rfl rfl ?_
    refine r_icmp_ge (tgt := 39) (pc' := 35) dX9_readsWeave_32 rfl rfl (fun h7 => ?_) (fun h7 => ?_)
    · have h := ifp h7 h
      refine r_iconst (pc' := 40) (v := 0) dX9_readsWeave_39 (by decide) rfl ?_
      refine r_callV1 (pc' := 43) (k' := 0) (n' := 0) dX9_readsWeave_40 mb_X9_refuses mi_X9_refuses hm.o (by decide) rfl lk_X9_138 rfl rfl rfl (Nat.le_of_ble_eq_true rfl) rfl (c_X9_refuses (b1 := false) hm rfl (cpV ?_))
      have h := lx_e h
      refine r_aload_n (pc' := 44) dX9_readsWeave_43 rfl 2 rfl rfl ?_
      obtain ⟨I9, eI9, h⟩ := bd_e h
      refine r_callV0 (pc' := 47) (k' := 0) (n' := 0) dX9_readsWeave_44 mb_X9_goes mi_X9_goes hm.o (by decide) rfl lk_X9_124 rfl rfl rfl (Nat.le_of_ble_eq_true rfl) rfl (c_X9_goes hm eI9 (cpV ?_))
      cases h
      exact r_ret dX9_readsWeave_47 rfl (by decide) (by decide) hQ
    · have h := ifn h7 h
      refine r_iconst (pc' := 36) (v := 1) dX9_readsWeave_35 (by decide) rfl ?_
      refine r_goto (tgt := 40) dX9_readsWeave_36 rfl ?_
      refine r_callV1 (pc' := 43) (k' := 0) (n' := 0) dX9_readsWeave_40 mb_X9_refuses mi_X9_refuses hm.o (by decide) rfl lk_X9_138 rfl rfl rfl (Nat.le_of_ble_eq_true rfl) rfl (c_X9_refuses (b1 := true) hm rfl (cpV ?_))
      have h := lx_e h
      refine r_aload_n (pc' := 44) dX9_readsWeave_43 rfl 2 rfl rfl ?_
      obtain ⟨I11, eI11, h⟩ := bd_e h
      refine r_callV0 (pc' := 47) (k' := 0) (n' := 0) dX9_readsWeave_44 mb_X9_goes mi_X9_goes hm.o (by decide) rfl lk_X9_124 rfl rfl rfl (Nat.le_of_ble_eq_true rfl) rfl (c_X9_goes hm eI11 (cpV ?_))
      cases h
      exact r_ret dX9_readsWeave_47 rfl (by decide) (by decide) hQ
  · have h := ifn h4 h
    refine r_iload_n (pc' := 20) dX9_readsWeave_19 rfl 0 rfl rfl ?_
    refine r_goto (tgt := 28) dX9_readsWeave_20 rfl ?_
    refine r_istore_n (pc' := 29) (lv' := [(2, _), (1, _), (0, _)]) dX9_readsWeave_28 rfl (by decide) rfl rfl ?_
    refine r_aload_n (pc' := 30) dX9_readsWeave_29 rfl 2 rfl rfl ?_
    refine r_iload_n (pc' := 31) dX9_readsWeave_30 rfl 0 rfl rfl ?_
    refine r_iload_n (pc' := 32) dX9_readsWeave_31 rfl 1 rfl rfl ?_
    refine r_icmp_ge (tgt := 39) (pc' := 35) dX9_readsWeave_32 rfl rfl (fun h12 => ?_) (fun h12 => ?_)
    · have h := ifp h12 h
      refine r_iconst (pc' := 40) (v := 0) dX9_readsWeave_39 (by decide) rfl ?_
      refine r_callV1 (pc' := 43) (k' := 0) (n' := 0) dX9_readsWeave_40 mb_X9_refuses mi_X9_refuses hm.o (by decide) rfl lk_X9_138 rfl rfl rfl (Nat.le_of_ble_eq_true rfl) rfl (c_X9_refuses (b1 := false) hm rfl (cpV ?_))
      have h := lx_e h
      refine r_aload_n (pc' := 44) dX9_readsWeave_43 rfl 2 rfl rfl ?_
      obtain ⟨I14, eI14, h⟩ := bd_e h
      refine r_callV0 (pc' := 47) (k' := 0) (n' := 0) dX9_readsWeave_44 mb_X9_goes mi_X9_goes hm.o (by decide) rfl lk_X9_124 rfl rfl rfl (Nat.le_of_ble_eq_true rfl) rfl (c_X9_goes hm eI14 (cpV ?_))
      cases h
      exact r_ret dX9_readsWeave_47 rfl (by decide) (by decide) hQ
    · have h := ifn h12 h
      refine r_iconst (pc' := 36) (v := 1) dX9_readsWeave_35 (by decide) rfl ?_
      refine r_goto (tgt := 40) dX9_readsWeave_36 rfl ?_
      refine r_callV1 (pc' := 43) (k' := 0) (n' := 0) dX9_readsWeave_40 mb_X9_refuses mi_X9_refuses hm.o (by decide) rfl lk_X9_138 rfl rfl rfl (Nat.le_of_ble_eq_true rfl) rfl (c_X9_refuses (b1 := true) hm rfl (cpV ?_))
      have h := lx_e h
      refine r_aload_n (pc' := 44) dX9_readsWeave_43 rfl 2 rfl rfl ?_
      obtain ⟨I16, eI16, h⟩ := bd_e h
      refine r_callV0 (pc' := 47) (k' := 0) (n' := 0) dX9_readsWeave_44 mb_X9_goes mi_X9_goes hm.o (by decide) rfl lk_X9_124 rfl rfl rfl (Nat.le_of_ble_eq_true rfl) rfl (c_X9_goes hm eI16 (cpV ?_))
      cases h
      exact r_ret dX9_readsWeave_47 rfl (by decide) (by decide) hQ
set_option maxHeartbeats 4000000 in
theorem fr_X9_readsWeave {I : JI} {m : Nat} {J : JI} {z : Nat} (h : s_X9_readsWeave I m = some J) (hz_m1 : z ≠ (m + 1)) (hz_m : z ≠ m) : J z = I z := by
  unfold s_X9_readsWeave at h
  obtain ⟨I1, e1, h⟩ := bd_e h
  obtain ⟨v3, I2, e2, h⟩ := bd2_e h
  rcases if_e h with h | h
  · obtain ⟨v6, I5, e3, h⟩ := bd2_e h
    rcases if_e h with h | h
    · have h := lx_e h
      obtain ⟨I9, e4, h⟩ := bd_e h
      cases h
      exact ((fr_X9_goes e4 (by omega)).trans ((fr_X9_refuses (by omega)).trans ((fr_X9_weaves e3 (by omega)).trans ((fr_X9_numberHere e2 (by omega)).trans ((fr_X9_goes e1 (by omega)).trans rfl)))))
    · have h := lx_e h
      obtain ⟨I11, e5, h⟩ := bd_e h
      cases h
      exact ((fr_X9_goes e5 (by omega)).trans ((fr_X9_refuses (by omega)).trans ((fr_X9_weaves e3 (by omega)).trans ((fr_X9_numberHere e2 (by omega)).trans ((fr_X9_goes e1 (by omega)).trans rfl)))))
  · rcases if_e h with h | h
    · have h := lx_e h
      obtain ⟨I14, e6, h⟩ := bd_e h
      cases h
      exact ((fr_X9_goes e6 (by omega)).trans ((fr_X9_refuses (by omega)).trans ((fr_X9_numberHere e2 (by omega)).trans ((fr_X9_goes e1 (by omega)).trans rfl))))
    · have h := lx_e h
      obtain ⟨I16, e7, h⟩ := bd_e h
      cases h
      exact ((fr_X9_goes e7 (by omega)).trans ((fr_X9_refuses (by omega)).trans ((fr_X9_numberHere e2 (by omega)).trans ((fr_X9_goes e1 (by omega)).trans rfl))))
set_option maxHeartbeats 4000000 in
theorem ff_X9_readsWeave {I : JI} {m : Nat} {J : JI} {k : Nat} (h : s_X9_readsWeave I m = some J) (hk10 : k ≠ 10) (hk11 : k ≠ 11) (hk13 : k ≠ 13) (hk14 : k ≠ 14) (hk15 : k ≠ 15) (hk16 : k ≠ 16) : J m k = I m k := by
  unfold s_X9_readsWeave at h
  obtain ⟨I1, e1, h⟩ := bd_e h
  obtain ⟨v3, I2, e2, h⟩ := bd2_e h
  rcases if_e h with h | h
  · obtain ⟨v6, I5, e3, h⟩ := bd2_e h
    rcases if_e h with h | h
    · have h := lx_e h
      obtain ⟨I9, e4, h⟩ := bd_e h
      cases h
      exact ((ff_X9_goes e4 hk13 hk14 hk15 hk16).trans ((ff_X9_refuses hk10 hk11).trans ((congrFun (fr_X9_weaves e3 (by omega)) k).trans ((ff_X9_numberHere e2 hk10 hk11).trans ((ff_X9_goes e1 hk13 hk14 hk15 hk16).trans rfl)))))
    · have h := lx_e h
      obtain ⟨I11, e5, h⟩ := bd_e h
      cases h
      exact ((ff_X9_goes e5 hk13 hk14 hk15 hk16).trans ((ff_X9_refuses hk10 hk11).trans ((congrFun (fr_X9_weaves e3 (by omega)) k).trans ((ff_X9_numberHere e2 hk10 hk11).trans ((ff_X9_goes e1 hk13 hk14 hk15 hk16).trans rfl)))))
  · rcases if_e h with h | h
    · have h := lx_e h
      obtain ⟨I14, e6, h⟩ := bd_e h
      cases h
      exact ((ff_X9_goes e6 hk13 hk14 hk15 hk16).trans ((ff_X9_refuses hk10 hk11).trans ((ff_X9_numberHere e2 hk10 hk11).trans ((ff_X9_goes e1 hk13 hk14 hk15 hk16).trans rfl))))
    · have h := lx_e h
      obtain ⟨I16, e7, h⟩ := bd_e h
      cases h
      exact ((ff_X9_goes e7 hk13 hk14 hk15 hk16).trans ((ff_X9_refuses hk10 hk11).trans ((ff_X9_numberHere e2 hk10 hk11).trans ((ff_X9_goes e1 hk13 hk14 hk15 hk16).trans rfl))))
noncomputable def s_X9_weftOf (I : JI) (m : Nat) (x1 : Int32) : Option (Int32) :=
  gd (vp_in (264 + (25 * x1)) 2030) <| some (I (m + 1) (Int32.toNatClampNeg (264 + (25 * x1))))
set_option maxHeartbeats 4000000 in
theorem c_X9_weftOf {Ω : JO} {I : JI} {S : JS} {Q : JQ} {m : Nat} {x1 : Int32} {r : Int32} (hm : Is9 S m) (h : s_X9_weftOf I m x1 = some r) (hQ : Q (.inl (some (.int r))) I S) : Call Ω m_X9_weftOf [.ref m, .int x1] I S Q := by
  refine call_of (by decide +kernel) rfl (Nat.le_of_ble_eq_true rfl) ?_
  change AA Ω m_X9_weftOf (FQ Ω m_X9_weftOf Q) 0 0 0 [(0, .ref m), (1, .int x1)] [] I S
  unfold s_X9_weftOf at h
  refine r_aload_n (pc' := 1) dX9_weftOf_0 rfl 0 rfl rfl ?_
  refine r_getO (pc' := 4) dX9_weftOf_1 fa_X9_9 hm.o rfl hm.r1 rfl ?_
  refine r_sipush (pc' := 7) (v := 264) dX9_weftOf_4 (by decide) rfl ?_
  refine r_bipush (pc' := 9) (v := 25) dX9_weftOf_7 (by decide) rfl ?_
  refine r_iload_n (pc' := 10) dX9_weftOf_9 rfl 1 rfl rfl ?_
  refine r_imul (pc' := 11) dX9_weftOf_10 rfl ?_
  refine r_iadd (pc' := 12) dX9_weftOf_11 rfl ?_
  obtain ⟨g1, h⟩ := gd_e h
  refine r_iaload (pc' := 13) dX9_weftOf_12 hm.c1 g1 rfl ?_
  cases h
  exact r_iret dX9_weftOf_13 rfl (by decide) (by decide) hQ
noncomputable def s_X9_removes_L2 (m : Nat) (q1 : Int32) : Nat → Int32 → JI → Option (Int32 × JI)
  | 0, _, _ => none
  | f + 1, w2, I => if q1 ≤ w2 then (some (w2, I)) else (gd (vp_in 5 2030) <| gd (vp_in 5 2030) <| lx (stI I (m + 1) (Int32.toNatClampNeg 5) ((I (m + 1) (Int32.toNatClampNeg 5)) - 1)) fun I4 => gd (vp_in 5 2030) <| bd (s_X9_weftOf I4 m (I4 (m + 1) (Int32.toNatClampNeg 5))) fun v6 => gd (vp_in (110 + v6) 2030) <| gd (vp_in 2 2030) <| gd (vp_in (110 + v6) 2030) <| lx (stI I4 (m + 1) (Int32.toNatClampNeg (110 + v6)) ((I4 (m + 1) (Int32.toNatClampNeg (110 + v6))) + (I4 (m + 1) (Int32.toNatClampNeg 2)))) fun I10 => s_X9_removes_L2 m q1 f (w2 + 1) I10)
noncomputable def s_X9_removes (I : JI) (m : Nat) (x1 : Int32) : Option (JI) :=
  bd (s_X9_removes_L2 m x1 lf 0 I) fun (y11, I12) => some I12
set_option maxHeartbeats 4000000 in
theorem l_X9_removes_L2 {Ω : JO} {S : JS} {Q : JQ} {m : Nat} {q1 : Int32} (hm : Is9 S m) : ∀ (f : Nat) (w2 : Int32) (I : JI) (o : (Int32 × JI)), s_X9_removes_L2 m q1 f w2 I = some o → True → (∀ (y2 : Int32) (J : JI) , o = (y2, J) → AA Ω m_X9_removes (FQ Ω m_X9_removes Q) 0 0 50 [(2, .int y2), (0, .ref m), (1, .int q1)] [] J S) → AA Ω m_X9_removes (FQ Ω m_X9_removes Q) 0 0 2 [(2, .int w2), (0, .ref m), (1, .int q1)] [] I S := by
  intro f
  induction f with
  | zero =>
    intro w2 I o h hR hE
    rw [s_X9_removes_L2] at h
    cases h
  | succ f ih =>
    intro w2 I o h hR hE
    rw [s_X9_removes_L2] at h
    refine r_iload_n (pc' := 3) dX9_removes_2 rfl 0 rfl rfl ?_
    refine r_iload_n (pc' := 4) dX9_removes_3 rfl 2 rfl rfl ?_
    refine r_icmp_ge (tgt := 50) (pc' := 7) dX9_removes_4 rfl rfl (fun h1 => ?_) (fun h1 => ?_)
    · have h := ifp h1 h
      cases h
      exact hE _ _ rfl
    · have h := ifn h1 h
      refine r_aload_n (pc' := 8) dX9_removes_7 rfl 1 rfl rfl ?_
      refine r_getO (pc' := 11) dX9_removes_8 fa_X9_9 hm.o rfl hm.r1 rfl ?_
      refine r_iconst (pc' := 12) (v := 5) dX9_removes_11 (by decide) rfl ?_
      refine r_dup2 (pc' := 13) dX9_removes_12 rfl rfl rfl ?_
      obtain ⟨g2, h⟩ := gd_e h
      refine r_iaload (pc' := 14) dX9_removes_13 hm.c1 g2 rfl ?_
      refine r_iconst (pc' := 15) (v := 1) dX9_removes_14 (by decide) rfl ?_
      refine r_isub (pc' := 16) dX9_removes_15 rfl ?_
      obtain ⟨g3, h⟩ := gd_e h
      refine r_iastore (pc' := 17) dX9_removes_16 hm.c1 g3 rfl ?_
      have h := lx_e h
      refine r_aload_n (pc' := 18) dX9_removes_17 rfl 1 rfl rfl ?_
      refine r_getO (pc' := 21) dX9_removes_18 fa_X9_9 hm.o rfl hm.r1 rfl ?_
      refine r_bipush (pc' := 23) (v := 110) dX9_removes_21 (by decide) rfl ?_
      refine r_aload_n (pc' := 24) dX9_removes_23 rfl 1 rfl rfl ?_
      refine r_aload_n (pc' := 25) dX9_removes_24 rfl 1 rfl rfl ?_
      refine r_getO (pc' := 28) dX9_removes_25 fa_X9_9 hm.o rfl hm.r1 rfl ?_
      refine r_iconst (pc' := 29) (v := 5) dX9_removes_28 (by decide) rfl ?_
      obtain ⟨g5, h⟩ := gd_e h
      refine r_iaload (pc' := 30) dX9_removes_29 hm.c1 g5 rfl ?_
      obtain ⟨v6, ev6, h⟩ := bd_e h
      refine r_callV1 (pc' := 33) (k' := 0) (n' := 0) dX9_removes_30 mb_X9_weftOf mi_X9_weftOf hm.o (by decide) rfl lk_X9_369 rfl rfl rfl (Nat.le_of_ble_eq_true rfl) rfl (c_X9_weftOf hm ev6 (cpI ?_))
      refine r_iadd (pc' := 34) dX9_removes_33 rfl ?_
      refine r_dup2 (pc' := 35) dX9_removes_34 rfl rfl rfl ?_
      obtain ⟨g7, h⟩ := gd_e h
      refine r_iaload (pc' := 36) dX9_removes_35 hm.c1 g7 rfl ?_
      refine r_aload_n (pc' := 37) dX9_removes_36 rfl 1 rfl rfl ?_
      refine r_getO (pc' := 40) dX9_removes_37 fa_X9_9 hm.o rfl hm.r1 rfl ?_
      refine r_iconst (pc' := 41) (v := 2) dX9_removes_40 (by decide) rfl ?_
      obtain ⟨g8, h⟩ := gd_e h
      refine r_iaload (pc' := 42) dX9_removes_41 hm.c1 g8 rfl ?_
      refine r_iadd (pc' := 43) dX9_removes_42 rfl ?_
      obtain ⟨g9, h⟩ := gd_e h
      refine r_iastore (pc' := 44) dX9_removes_43 hm.c1 g9 rfl ?_
      have h := lx_e h
      refine r_iinc (pc' := 47) (v := _ + 1) (lv' := [(2, _), (0, _), (1, _)]) dX9_removes_44 0 rfl rfl (by decide) rfl rfl ?_
      refine r_goto (tgt := 2) dX9_removes_47 rfl ?_
      exact ih _ _ _ h hR hE
set_option maxHeartbeats 4000000 in
theorem c_X9_removes {Ω : JO} {I : JI} {S : JS} {Q : JQ} {m : Nat} {x1 : Int32} {J : JI} (hm : Is9 S m) (h : s_X9_removes I m x1 = some J) (hQ : Q (.inl none) J S) : Call Ω m_X9_removes [.ref m, .int x1] I S Q := by
  refine call_of (by decide +kernel) rfl (Nat.le_of_ble_eq_true rfl) ?_
  change AA Ω m_X9_removes (FQ Ω m_X9_removes Q) 0 0 0 [(0, .ref m), (1, .int x1)] [] I S
  unfold s_X9_removes at h
  refine r_iconst (pc' := 1) (v := 0) dX9_removes_0 (by decide) rfl ?_
  refine r_istore_n (pc' := 2) (lv' := [(2, _), (0, _), (1, _)]) dX9_removes_1 rfl (by decide) rfl rfl ?_
  obtain ⟨o13, eo13, h⟩ := bd_e h
  refine l_X9_removes_L2 (Ω := Ω) hm _ _ _ _ eo13 trivial (fun y11 I12 q => ?_)
  subst q
  cases h
  exact r_ret dX9_removes_50 rfl (by decide) (by decide) hQ
theorem frl_X9_removes_L2 {m : Nat} {q1 : Int32} {z : Nat} (hz_m1 : z ≠ (m + 1)) : ∀ (f : Nat) (w2 : Int32) (I : JI) (o : (Int32 × JI)), s_X9_removes_L2 m q1 f w2 I = some o → (∀ (y2 : Int32) (J : JI), o = (y2, J) → J z = I z) := by
  intro f
  induction f with
  | zero =>
    intro w2 I o h
    rw [s_X9_removes_L2] at h
    cases h
  | succ f ih =>
    intro w2 I o h
    rw [s_X9_removes_L2] at h
    rcases if_e h with h | h
    · cases h
      intro _ _ q
      cases q
      exact rfl
    · obtain ⟨g1, h⟩ := gd_e h
      obtain ⟨g2, h⟩ := gd_e h
      have h := lx_e h
      obtain ⟨g3, h⟩ := gd_e h
      obtain ⟨o4, e4, h⟩ := bd_e h
      obtain ⟨g5, h⟩ := gd_e h
      obtain ⟨g6, h⟩ := gd_e h
      obtain ⟨g7, h⟩ := gd_e h
      have h := lx_e h
      intro _ _ q
      exact ((ih _ _ _ h) _ _ q).trans ((fr_stI (by omega)).trans ((fr_stI (by omega)).trans rfl))
set_option maxHeartbeats 4000000 in
theorem fr_X9_removes {I : JI} {m : Nat} {x1 : Int32} {J : JI} {z : Nat} (h : s_X9_removes I m x1 = some J) (hz_m1 : z ≠ (m + 1)) : J z = I z := by
  unfold s_X9_removes at h
  obtain ⟨o1, e1, h⟩ := bd_e h
  obtain ⟨y11, I12⟩ := o1
  cases h
  exact (((frl_X9_removes_L2 hz_m1 _ _ _ _ e1) _ _ rfl).trans rfl)
noncomputable def s_X9_readsUnweave (I : JI) (m : Nat) : Option (JI) :=
  bd (s_X9_goes I m) fun I1 => bd2 (s_X9_numberHere I1 m 1 60) fun v3 I2 => gd (vp_in 5 2030) <| if v3 ≤ (I2 (m + 1) (Int32.toNatClampNeg 5)) then (lx (s_X9_refuses I2 m false) fun I6 => if (I6 m 10) = 0 then (bd (s_X9_removes I6 m v3) fun I9 => bd (s_X9_goes I9 m) fun I10 => some I10) else (bd (s_X9_goes I6 m) fun I8 => some I8)) else (lx (s_X9_refuses I2 m true) fun I11 => if (I11 m 10) = 0 then (bd (s_X9_removes I11 m v3) fun I14 => bd (s_X9_goes I14 m) fun I15 => some I15) else (bd (s_X9_goes I11 m) fun I13 => some I13))
set_option maxHeartbeats 4000000 in
theorem c_X9_readsUnweave {Ω : JO} {I : JI} {S : JS} {Q : JQ} {m : Nat} {J : JI} (hm : Is9 S m) (h : s_X9_readsUnweave I m = some J) (hQ : Q (.inl none) J S) : Call Ω m_X9_readsUnweave [.ref m] I S Q := by
  refine call_of (by decide +kernel) rfl (Nat.le_of_ble_eq_true rfl) ?_
  change AA Ω m_X9_readsUnweave (FQ Ω m_X9_readsUnweave Q) 0 0 0 [(0, .ref m)] [] I S
  unfold s_X9_readsUnweave at h
  refine r_aload_n (pc' := 1) dX9_readsUnweave_0 rfl 0 rfl rfl ?_
  obtain ⟨I1, eI1, h⟩ := bd_e h
  refine r_callV0 (pc' := 4) (k' := 0) (n' := 0) dX9_readsUnweave_1 mb_X9_goes mi_X9_goes hm.o (by decide) rfl lk_X9_124 rfl rfl rfl (Nat.le_of_ble_eq_true rfl) rfl (c_X9_goes hm eI1 (cpV ?_))
  refine r_aload_n (pc' := 5) dX9_readsUnweave_4 rfl 0 rfl rfl ?_
  refine r_iconst (pc' := 6) (v := 1) dX9_readsUnweave_5 (by decide) rfl ?_
  refine r_bipush (pc' := 8) (v := 60) dX9_readsUnweave_6 (by decide) rfl ?_
  obtain ⟨v3, I2, ev3, h⟩ := bd2_e h
  refine r_callV2 (pc' := 11) (k' := 0) (n' := 0) dX9_readsUnweave_8 mb_X9_numberHere mi_X9_numberHere hm.o (by decide) rfl lk_X9_120 rfl rfl rfl (Nat.le_of_ble_eq_true rfl) rfl (c_X9_numberHere hm ev3 (cpI ?_))
  refine r_istore_n (pc' := 12) (lv' := [(1, _), (0, _)]) dX9_readsUnweave_11 rfl (by decide) rfl rfl ?_
  refine r_aload_n (pc' := 13) dX9_readsUnweave_12 rfl 1 rfl rfl ?_
  refine r_iload_n (pc' := 14) dX9_readsUnweave_13 rfl 0 rfl rfl ?_
  refine r_aload_n (pc' := 15) dX9_readsUnweave_14 rfl 1 rfl rfl ?_
  refine r_getO (pc' := 18) dX9_readsUnweave_15 fa_X9_9 hm.o rfl hm.r1 rfl ?_
  refine r_iconst (pc' := 19) (v := 5) dX9_readsUnweave_18 (by decide) rfl ?_
  obtain ⟨g4, h⟩ := gd_e h
  refine r_iaload (pc' := 20) dX9_readsUnweave_19 hm.c1 g4 rfl ?_
  refine r_icmp_le (tgt := 27) (pc' := 23) dX9_readsUnweave_20 rfl rfl (fun h5 => ?_) (fun h5 => ?_)
  · have h := ifp h5 h
    refine r_iconst (pc' := 28) (v := 0) dX9_readsUnweave_27 (by decide) rfl ?_
    refine r_callV1 (pc' := 31) (k' := 0) (n' := 0) dX9_readsUnweave_28 mb_X9_refuses mi_X9_refuses hm.o (by decide) rfl lk_X9_138 rfl rfl rfl (Nat.le_of_ble_eq_true rfl) rfl (c_X9_refuses (b1 := false) hm rfl (cpV ?_))
    have h := lx_e h
    refine r_aload_n (pc' := 32) dX9_readsUnweave_31 rfl 1 rfl rfl ?_
    refine r_getI (pc' := 35) dX9_readsUnweave_32 fa_X9_68 hm.o rfl rfl ?_
    refine r_if_ne (tgt := 43) (pc' := 38) dX9_readsUnweave_35 rfl rfl (fun h7 => ?_) (fun h7 => ?_)
    · have h := ifn h7 h
      refine r_aload_n (pc' := 44) dX9_readsUnweave_43 rfl 1 rfl rfl ?_
      obtain ⟨I8, eI8, h⟩ := bd_e h
      refine r_callV0 (pc' := 47) (k' := 0) (n' := 0) dX9_readsUnweave_44 mb_X9_goes mi_X9_goes hm.o (by decide) rfl lk_X9_124 rfl rfl rfl (Nat.le_of_ble_eq_true rfl) rfl (c_X9_goes hm eI8 (cpV ?_))
      cases h
      exact r_ret dX9_readsUnweave_47 rfl (by decide) (by decide) hQ
    · have h := ifp h7 h
      refine r_aload_n (pc' := 39) dX9_readsUnweave_38 rfl 1 rfl rfl ?_
      refine r_iload_n (pc' := 40) dX9_readsUnweave_39 rfl 0 rfl rfl ?_
      obtain ⟨I9, eI9, h⟩ := bd_e h
      refine r_callV1 (pc' := 43) (k' := 0) (n' := 0) dX9_readsUnweave_40 mb_X9_removes mi_X9_removes hm.o (by decide) rfl lk_X9_214 rfl rfl rfl (Nat.le_of_ble_eq_true rfl) rfl (c_X9_removes hm eI9 (cpV ?_))
      refine r_aload_n (pc' := 44) dX9_readsUnweave_43 rfl 1 rfl rfl ?_
      obtain ⟨I10, eI10, h⟩ := bd_e h
      refine r_callV0 (pc' := 47) (k' := 0) (n' := 0) dX9_readsUnweave_44 mb_X9_goes mi_X9_goes hm.o (by decide) rfl lk_X9_124 rfl rfl rfl (Nat.le_of_ble_eq_true rfl) rfl (c_X9_goes hm eI10 (cpV ?_))
      cases h
      exact r_ret dX9_readsUnweave_47 rfl (by decide) (by decide) hQ
  · have h := ifn h5 h
    refine r_iconst (pc' := 24) (v := 1) dX9_readsUnweave_23 (by decide) rfl ?_
    refine r_goto (tgt := 28) dX9_readsUnweave_24 rfl ?_
    refine r_callV1 (pc' := 31) (k' := 0) (n' := 0) dX9_readsUnweave_28 mb_X9_refuses mi_X9_refuses hm.o (by decide) rfl lk_X9_138 rfl rfl rfl (Nat.le_of_ble_eq_true rfl) rfl (c_X9_refuses (b1 := true) hm rfl (cpV ?_))
    have h := lx_e h
    refine r_aload_n (pc' := 32) dX9_readsUnweave_31 rfl 1 rfl rfl ?_
    refine r_getI (pc' := 35) dX9_readsUnweave_32 fa_X9_68 hm.o rfl rfl ?_
    refine r_if_ne (tgt := 43) (pc' := 38) dX9_readsUnweave_35 rfl rfl (fun h12 => ?_) (fun h12 => ?_)
    · have h := ifn h12 h
      refine r_aload_n (pc' := 44) dX9_readsUnweave_43 rfl 1 rfl rfl ?_
      obtain ⟨I13, eI13, h⟩ := bd_e h
      refine r_callV0 (pc' := 47) (k' := 0) (n' := 0) dX9_readsUnweave_44 mb_X9_goes mi_X9_goes hm.o (by decide) rfl lk_X9_124 rfl rfl rfl (Nat.le_of_ble_eq_true rfl) rfl (c_X9_goes hm eI13 (cpV ?_))
      cases h
      exact r_ret dX9_readsUnweave_47 rfl (by decide) (by decide) hQ
    · have h := ifp h12 h
      refine r_aload_n (pc' := 39) dX9_readsUnweave_38 rfl 1 rfl rfl ?_
      refine r_iload_n (pc' := 40) dX9_readsUnweave_39 rfl 0 rfl rfl ?_
      obtain ⟨I14, eI14, h⟩ := bd_e h
      refine r_callV1 (pc' := 43) (k' := 0) (n' := 0) dX9_readsUnweave_40 mb_X9_removes mi_X9_removes hm.o (by decide) rfl lk_X9_214 rfl rfl rfl (Nat.le_of_ble_eq_true rfl) rfl (c_X9_removes hm eI14 (cpV ?_))
      refine r_aload_n (pc' := 44) dX9_readsUnweave_43 rfl 1 rfl rfl ?_
      obtain ⟨I15, eI15, h⟩ := bd_e h
      refine r_callV0 (pc' := 47) (k' := 0) (n' := 0) dX9_readsUnweave_44 mb_X9_goes mi_X9_goes hm.o (by decide) rfl lk_X9_124 rfl rfl rfl (Nat.le_of_ble_eq_true rfl) rfl (c_X9_goes hm eI15 (cpV ?_))
      cases h
      exact r_ret dX9_readsUnweave_47 rfl (by decide) (by decide) hQ
set_option maxHeartbeats 4000000 in
theorem fr_X9_readsUnweave {I : JI} {m : Nat} {J : JI} {z : Nat} (h : s_X9_readsUnweave I m = some J) (hz_m1 : z ≠ (m + 1)) (hz_m : z ≠ m) : J z = I z := by
  unfold s_X9_readsUnweave at h
  obtain ⟨I1, e1, h⟩ := bd_e h
  obtain ⟨v3, I2, e2, h⟩ := bd2_e h
  obtain ⟨g3, h⟩ := gd_e h
  rcases if_e h with h | h
  · have h := lx_e h
    rcases if_e h with h | h
    · obtain ⟨I9, e4, h⟩ := bd_e h
      obtain ⟨I10, e5, h⟩ := bd_e h
      cases h
      exact ((fr_X9_goes e5 (by omega)).trans ((fr_X9_removes e4 (by omega)).trans ((fr_X9_refuses (by omega)).trans ((fr_X9_numberHere e2 (by omega)).trans ((fr_X9_goes e1 (by omega)).trans rfl)))))
    · obtain ⟨I8, e6, h⟩ := bd_e h
      cases h
      exact ((fr_X9_goes e6 (by omega)).trans ((fr_X9_refuses (by omega)).trans ((fr_X9_numberHere e2 (by omega)).trans ((fr_X9_goes e1 (by omega)).trans rfl))))
  · have h := lx_e h
    rcases if_e h with h | h
    · obtain ⟨I14, e7, h⟩ := bd_e h
      obtain ⟨I15, e8, h⟩ := bd_e h
      cases h
      exact ((fr_X9_goes e8 (by omega)).trans ((fr_X9_removes e7 (by omega)).trans ((fr_X9_refuses (by omega)).trans ((fr_X9_numberHere e2 (by omega)).trans ((fr_X9_goes e1 (by omega)).trans rfl)))))
    · obtain ⟨I13, e9, h⟩ := bd_e h
      cases h
      exact ((fr_X9_goes e9 (by omega)).trans ((fr_X9_refuses (by omega)).trans ((fr_X9_numberHere e2 (by omega)).trans ((fr_X9_goes e1 (by omega)).trans rfl))))
set_option maxHeartbeats 4000000 in
theorem ff_X9_readsUnweave {I : JI} {m : Nat} {J : JI} {k : Nat} (h : s_X9_readsUnweave I m = some J) (hk10 : k ≠ 10) (hk11 : k ≠ 11) (hk13 : k ≠ 13) (hk14 : k ≠ 14) (hk15 : k ≠ 15) (hk16 : k ≠ 16) : J m k = I m k := by
  unfold s_X9_readsUnweave at h
  obtain ⟨I1, e1, h⟩ := bd_e h
  obtain ⟨v3, I2, e2, h⟩ := bd2_e h
  obtain ⟨g3, h⟩ := gd_e h
  rcases if_e h with h | h
  · have h := lx_e h
    rcases if_e h with h | h
    · obtain ⟨I9, e4, h⟩ := bd_e h
      obtain ⟨I10, e5, h⟩ := bd_e h
      cases h
      exact ((ff_X9_goes e5 hk13 hk14 hk15 hk16).trans ((congrFun (fr_X9_removes e4 (by omega)) k).trans ((ff_X9_refuses hk10 hk11).trans ((ff_X9_numberHere e2 hk10 hk11).trans ((ff_X9_goes e1 hk13 hk14 hk15 hk16).trans rfl)))))
    · obtain ⟨I8, e6, h⟩ := bd_e h
      cases h
      exact ((ff_X9_goes e6 hk13 hk14 hk15 hk16).trans ((ff_X9_refuses hk10 hk11).trans ((ff_X9_numberHere e2 hk10 hk11).trans ((ff_X9_goes e1 hk13 hk14 hk15 hk16).trans rfl))))
  · have h := lx_e h
    rcases if_e h with h | h
    · obtain ⟨I14, e7, h⟩ := bd_e h
      obtain ⟨I15, e8, h⟩ := bd_e h
      cases h
      exact ((ff_X9_goes e8 hk13 hk14 hk15 hk16).trans ((congrFun (fr_X9_removes e7 (by omega)) k).trans ((ff_X9_refuses hk10 hk11).trans ((ff_X9_numberHere e2 hk10 hk11).trans ((ff_X9_goes e1 hk13 hk14 hk15 hk16).trans rfl)))))
    · obtain ⟨I13, e9, h⟩ := bd_e h
      cases h
      exact ((ff_X9_goes e9 hk13 hk14 hk15 hk16).trans ((ff_X9_refuses hk10 hk11).trans ((ff_X9_numberHere e2 hk10 hk11).trans ((ff_X9_goes e1 hk13 hk14 hk15 hk16).trans rfl))))
noncomputable def s_X9_swaps_L2 (m : Nat) (q1 : Int32) (q2 : Int32) : Nat → Int32 → JI → Option (Int32 × JI)
  | 0, _, _ => none
  | f + 1, w3, I => if 1 < w3 then (some (w3, I)) else (bd (s_X9_ofCard I m q1 w3) fun v2 => bd (s_X9_ofCard I m q2 w3) fun v3 => bd (s_X9_putsCard I m q1 w3 v3) fun I4 => bd (s_X9_putsCard I4 m q2 w3 v2) fun I5 => s_X9_swaps_L2 m q1 q2 f (w3 + 1) I5)
noncomputable def s_X9_swaps (I : JI) (m : Nat) (x1 : Int32) (x2 : Int32) : Option (JI) :=
  bd (s_X9_swaps_L2 m x1 x2 lf 0 I) fun (y6, I7) => gd (vp_in 8 2030) <| lx (stI I7 (m + 1) (Int32.toNatClampNeg 8) 1) fun I10 => some I10
set_option maxHeartbeats 4000000 in
theorem l_X9_swaps_L2 {Ω : JO} {S : JS} {Q : JQ} {m : Nat} {q1 : Int32} {q2 : Int32} (hm : Is9 S m) : ∀ (f : Nat) (w3 : Int32) (I : JI) (o : (Int32 × JI)), s_X9_swaps_L2 m q1 q2 f w3 I = some o → True → (∀ (y3 : Int32) (J : JI) , o = (y3, J) → AA Ω m_X9_swaps (FQ Ω m_X9_swaps Q) 0 0 41 [(3, .int y3), (0, .ref m), (1, .int q1), (2, .int q2)] [] J S) → AA Ω m_X9_swaps (FQ Ω m_X9_swaps Q) 0 0 2 [(3, .int w3), (0, .ref m), (1, .int q1), (2, .int q2)] [] I S := by
  intro f
  induction f with
  | zero =>
    intro w3 I o h hR hE
    rw [s_X9_swaps_L2] at h
    cases h
  | succ f ih =>
    intro w3 I o h hR hE
    rw [s_X9_swaps_L2] at h
    refine r_iload_n (pc' := 3) dX9_swaps_2 rfl 0 rfl rfl ?_
    refine r_iconst (pc' := 4) (v := 1) dX9_swaps_3 (by decide) rfl ?_
    refine r_icmp_gt (tgt := 41) (pc' := 7) dX9_swaps_4 rfl rfl (fun h1 => ?_) (fun h1 => ?_)
    · have h := ifp h1 h
      cases h
      exact hE _ _ rfl
    · have h := ifn h1 h
      refine r_aload_n (pc' := 8) dX9_swaps_7 rfl 1 rfl rfl ?_
      refine r_iload_n (pc' := 9) dX9_swaps_8 rfl 2 rfl rfl ?_
      refine r_iload_n (pc' := 10) dX9_swaps_9 rfl 0 rfl rfl ?_
      obtain ⟨v2, ev2, h⟩ := bd_e h
      refine r_callV2 (pc' := 13) (k' := 0) (n' := 0) dX9_swaps_10 mb_X9_ofCard mi_X9_ofCard hm.o (by decide) rfl lk_X9_232 rfl rfl rfl (Nat.le_of_ble_eq_true rfl) rfl (c_X9_ofCard hm ev2 (cpI ?_))
      refine r_istore (pc' := 15) (lv' := [(4, _), (3, _), (0, _), (1, _), (2, _)]) dX9_swaps_13 (by decide) rfl rfl ?_
      refine r_aload_n (pc' := 16) dX9_swaps_15 rfl 2 rfl rfl ?_
      refine r_iload_n (pc' := 17) dX9_swaps_16 rfl 3 rfl rfl ?_
      refine r_iload_n (pc' := 18) dX9_swaps_17 rfl 1 rfl rfl ?_
      refine r_aload_n (pc' := 19) dX9_swaps_18 rfl 2 rfl rfl ?_
      refine r_iload_n (pc' := 20) dX9_swaps_19 rfl 4 rfl rfl ?_
      refine r_iload_n (pc' := 21) dX9_swaps_20 rfl 1 rfl rfl ?_
      obtain ⟨v3, ev3, h⟩ := bd_e h
      refine r_callV2 (pc' := 24) (k' := 0) (n' := 0) dX9_swaps_21 mb_X9_ofCard mi_X9_ofCard hm.o (by decide) rfl lk_X9_232 rfl rfl rfl (Nat.le_of_ble_eq_true rfl) rfl (c_X9_ofCard hm ev3 (cpI ?_))
      obtain ⟨I4, eI4, h⟩ := bd_e h
      refine r_callV3 (pc' := 27) (k' := 0) (n' := 0) dX9_swaps_24 mb_X9_putsCard mi_X9_putsCard hm.o (by decide) rfl lk_X9_151 rfl rfl rfl (Nat.le_of_ble_eq_true rfl) rfl (c_X9_putsCard hm eI4 (cpV ?_))
      refine r_aload_n (pc' := 28) dX9_swaps_27 rfl 2 rfl rfl ?_
      refine r_iload_n (pc' := 29) dX9_swaps_28 rfl 4 rfl rfl ?_
      refine r_iload_n (pc' := 30) dX9_swaps_29 rfl 1 rfl rfl ?_
      refine r_iload (pc' := 32) dX9_swaps_30 0 rfl rfl ?_
      obtain ⟨I5, eI5, h⟩ := bd_e h
      refine r_callV3 (pc' := 35) (k' := 0) (n' := 0) dX9_swaps_32 mb_X9_putsCard mi_X9_putsCard hm.o (by decide) rfl lk_X9_151 rfl rfl rfl (Nat.le_of_ble_eq_true rfl) rfl (c_X9_putsCard hm eI5 (cpV ?_))
      refine r_iinc (pc' := 38) (v := _ + 1) (lv' := [(3, _), (4, _), (0, _), (1, _), (2, _)]) dX9_swaps_35 1 rfl rfl (by decide) rfl rfl ?_
      refine r_goto (tgt := 2) dX9_swaps_38 rfl ?_
      refine aa_locs (ks := [0, 2, 3, 4]) (lv' := [(3, _), (0, _), (1, _), (2, _)]) rfl ?_
      exact ih _ _ _ h hR hE
set_option maxHeartbeats 4000000 in
theorem c_X9_swaps {Ω : JO} {I : JI} {S : JS} {Q : JQ} {m : Nat} {x1 : Int32} {x2 : Int32} {J : JI} (hm : Is9 S m) (h : s_X9_swaps I m x1 x2 = some J) (hQ : Q (.inl none) J S) : Call Ω m_X9_swaps [.ref m, .int x1, .int x2] I S Q := by
  refine call_of (by decide +kernel) rfl (Nat.le_of_ble_eq_true rfl) ?_
  change AA Ω m_X9_swaps (FQ Ω m_X9_swaps Q) 0 0 0 [(0, .ref m), (1, .int x1), (2, .int x2)] [] I S
  unfold s_X9_swaps at h
  refine r_iconst (pc' := 1) (v := 0) dX9_swaps_0 (by decide) rfl ?_
  refine r_istore_n (pc' := 2) (lv' := [(3, _), (0, _), (1, _), (2, _)]) dX9_swaps_1 rfl (by decide) rfl rfl ?_
  obtain ⟨o8, eo8, h⟩ := bd_e h
  refine l_X9_swaps_L2 (Ω := Ω) hm _ _ _ _ eo8 trivial (fun y6 I7 q => ?_)
  subst q
  refine r_aload_n (pc' := 42) dX9_swaps_41 rfl 1 rfl rfl ?_
  refine r_getO (pc' := 45) dX9_swaps_42 fa_X9_9 hm.o rfl hm.r1 rfl ?_
  refine r_bipush (pc' := 47) (v := 8) dX9_swaps_45 (by decide) rfl ?_
  refine r_iconst (pc' := 48) (v := 1) dX9_swaps_47 (by decide) rfl ?_
  obtain ⟨g9, h⟩ := gd_e h
  refine r_iastore (pc' := 49) dX9_swaps_48 hm.c1 g9 rfl ?_
  have h := lx_e h
  cases h
  exact r_ret dX9_swaps_49 rfl (by decide) (by decide) hQ
theorem frl_X9_swaps_L2 {m : Nat} {q1 : Int32} {q2 : Int32} {z : Nat} (hz_m1 : z ≠ (m + 1)) : ∀ (f : Nat) (w3 : Int32) (I : JI) (o : (Int32 × JI)), s_X9_swaps_L2 m q1 q2 f w3 I = some o → (∀ (y3 : Int32) (J : JI), o = (y3, J) → J z = I z) := by
  intro f
  induction f with
  | zero =>
    intro w3 I o h
    rw [s_X9_swaps_L2] at h
    cases h
  | succ f ih =>
    intro w3 I o h
    rw [s_X9_swaps_L2] at h
    rcases if_e h with h | h
    · cases h
      intro _ _ q
      cases q
      exact rfl
    · obtain ⟨o1, e1, h⟩ := bd_e h
      obtain ⟨o2, e2, h⟩ := bd_e h
      obtain ⟨I4, e3, h⟩ := bd_e h
      obtain ⟨I5, e4, h⟩ := bd_e h
      intro _ _ q
      exact ((ih _ _ _ h) _ _ q).trans ((fr_X9_putsCard e4 (by omega)).trans ((fr_X9_putsCard e3 (by omega)).trans rfl))
set_option maxHeartbeats 4000000 in
theorem fr_X9_swaps {I : JI} {m : Nat} {x1 : Int32} {x2 : Int32} {J : JI} {z : Nat} (h : s_X9_swaps I m x1 x2 = some J) (hz_m1 : z ≠ (m + 1)) : J z = I z := by
  unfold s_X9_swaps at h
  obtain ⟨o1, e1, h⟩ := bd_e h
  obtain ⟨y6, I7⟩ := o1
  obtain ⟨g2, h⟩ := gd_e h
  have h := lx_e h
  cases h
  exact ((fr_stI (by omega)).trans (((frl_X9_swaps_L2 hz_m1 _ _ _ _ e1) _ _ rfl).trans rfl))
noncomputable def s_X9_readsSwap (I : JI) (m : Nat) : Option (JI) :=
  bd (s_X9_goes I m) fun I1 => bd2 (s_X9_readIndex I1 m 3) fun v3 I2 => bd2 (s_X9_indexHere I2 m 3) fun v5 I4 => if v3 = v5 then (lx (s_X9_refuses I4 m true) fun I12 => if (I12 m 10) = 0 then (bd (s_X9_swaps I12 m v3 v5) fun I15 => bd (s_X9_goes I15 m) fun I16 => some I16) else (bd (s_X9_goes I12 m) fun I14 => some I14)) else (lx (s_X9_refuses I4 m false) fun I7 => if (I7 m 10) = 0 then (bd (s_X9_swaps I7 m v3 v5) fun I10 => bd (s_X9_goes I10 m) fun I11 => some I11) else (bd (s_X9_goes I7 m) fun I9 => some I9))
set_option maxHeartbeats 4000000 in
theorem c_X9_readsSwap {Ω : JO} {I : JI} {S : JS} {Q : JQ} {m : Nat} {J : JI} (hm : Is9 S m) (h : s_X9_readsSwap I m = some J) (hQ : Q (.inl none) J S) : Call Ω m_X9_readsSwap [.ref m] I S Q := by
  refine call_of (by decide +kernel) rfl (Nat.le_of_ble_eq_true rfl) ?_
  change AA Ω m_X9_readsSwap (FQ Ω m_X9_readsSwap Q) 0 0 0 [(0, .ref m)] [] I S
  unfold s_X9_readsSwap at h
  refine r_aload_n (pc' := 1) dX9_readsSwap_0 rfl 0 rfl rfl ?_
  obtain ⟨I1, eI1, h⟩ := bd_e h
  refine r_callV0 (pc' := 4) (k' := 0) (n' := 0) dX9_readsSwap_1 mb_X9_goes mi_X9_goes hm.o (by decide) rfl lk_X9_124 rfl rfl rfl (Nat.le_of_ble_eq_true rfl) rfl (c_X9_goes hm eI1 (cpV ?_))
  refine r_aload_n (pc' := 5) dX9_readsSwap_4 rfl 0 rfl rfl ?_
  refine r_iconst (pc' := 6) (v := 3) dX9_readsSwap_5 (by decide) rfl ?_
  obtain ⟨v3, I2, ev3, h⟩ := bd2_e h
  refine r_callV1 (pc' := 9) (k' := 0) (n' := 0) dX9_readsSwap_6 mb_X9_readIndex mi_X9_readIndex hm.o (by decide) rfl lk_X9_217 rfl rfl rfl (Nat.le_of_ble_eq_true rfl) rfl (c_X9_readIndex hm ev3 (cpI ?_))
  refine r_istore_n (pc' := 10) (lv' := [(1, _), (0, _)]) dX9_readsSwap_9 rfl (by decide) rfl rfl ?_
  refine r_aload_n (pc' := 11) dX9_readsSwap_10 rfl 1 rfl rfl ?_
  refine r_iconst (pc' := 12) (v := 3) dX9_readsSwap_11 (by decide) rfl ?_
  obtain ⟨v5, I4, ev5, h⟩ := bd2_e h
  refine r_callV1 (pc' := 15) (k' := 0) (n' := 0) dX9_readsSwap_12 mb_X9_indexHere mi_X9_indexHere hm.o (by decide) rfl lk_X9_127 rfl rfl rfl (Nat.le_of_ble_eq_true rfl) rfl (c_X9_indexHere hm ev5 (cpI ?_))
  refine r_istore_n (pc' := 16) (lv' := [(2, _), (1, _), (0, _)]) dX9_readsSwap_15 rfl (by decide) rfl rfl ?_
  refine r_aload_n (pc' := 17) dX9_readsSwap_16 rfl 2 rfl rfl ?_
  refine r_iload_n (pc' := 18) dX9_readsSwap_17 rfl 1 rfl rfl ?_
  refine r_iload_n (pc' := 19) dX9_readsSwap_18 rfl 0 rfl rfl ?_
  refine r_icmp_ne (tgt := 26) (pc' := 22) dX9_readsSwap_19 rfl rfl (fun h6 => ?_) (fun h6 => ?_)
  · have h := ifn h6 h
    refine r_iconst (pc' := 27) (v := 0) dX9_readsSwap_26 (by decide) rfl ?_
    refine r_callV1 (pc' := 30) (k' := 0) (n' := 0) dX9_readsSwap_27 mb_X9_refuses mi_X9_refuses hm.o (by decide) rfl lk_X9_138 rfl rfl rfl (Nat.le_of_ble_eq_true rfl) rfl (c_X9_refuses (b1 := false) hm rfl (cpV ?_))
    have h := lx_e h
    refine r_aload_n (pc' := 31) dX9_readsSwap_30 rfl 2 rfl rfl ?_
    refine r_getI (pc' := 34) dX9_readsSwap_31 fa_X9_68 hm.o rfl rfl ?_
    refine r_if_ne (tgt := 43) (pc' := 37) dX9_readsSwap_34 rfl rfl (fun h8 => ?_) (fun h8 => ?_)
    · have h := ifn h8 h
      refine r_aload_n (pc' := 44) dX9_readsSwap_43 rfl 2 rfl rfl ?_
      obtain ⟨I9, eI9, h⟩ := bd_e h
      refine r_callV0 (pc' := 47) (k' := 0) (n' := 0) dX9_readsSwap_44 mb_X9_goes mi_X9_goes hm.o (by decide) rfl lk_X9_124 rfl rfl rfl (Nat.le_of_ble_eq_true rfl) rfl (c_X9_goes hm eI9 (cpV ?_))
      cases h
      exact r_ret dX9_readsSwap_47 rfl (by decide) (by decide) hQ
    · have h := ifp h8 h
      refine r_aload_n (pc' := 38) dX9_readsSwap_37 rfl 2 rfl rfl ?_
      refine r_iload_n (pc' := 39) dX9_readsSwap_38 rfl 1 rfl rfl ?_
      refine r_iload_n (pc' := 40) dX9_readsSwap_39 rfl 0 rfl rfl ?_
      obtain ⟨I10, eI10, h⟩ := bd_e h
      refine r_callV2 (pc' := 43) (k' := 0) (n' := 0) dX9_readsSwap_40 mb_X9_swaps mi_X9_swaps hm.o (by decide) rfl lk_X9_220 rfl rfl rfl (Nat.le_of_ble_eq_true rfl) rfl (c_X9_swaps hm eI10 (cpV ?_))
      refine r_aload_n (pc' := 44) dX9_readsSwap_43 rfl 2 rfl rfl ?_
      obtain ⟨I11, eI11, h⟩ := bd_e h
      refine r_callV0 (pc' := 47) (k' := 0) (n' := 0) dX9_readsSwap_44 mb_X9_goes mi_X9_goes hm.o (by decide) rfl lk_X9_124 rfl rfl rfl (Nat.le_of_ble_eq_true rfl) rfl (c_X9_goes hm eI11 (cpV ?_))
      cases h
      exact r_ret dX9_readsSwap_47 rfl (by decide) (by decide) hQ
  · have h := ifp h6 h
    refine r_iconst (pc' := 23) (v := 1) dX9_readsSwap_22 (by decide) rfl ?_
    refine r_goto (tgt := 27) dX9_readsSwap_23 rfl ?_
    refine r_callV1 (pc' := 30) (k' := 0) (n' := 0) dX9_readsSwap_27 mb_X9_refuses mi_X9_refuses hm.o (by decide) rfl lk_X9_138 rfl rfl rfl (Nat.le_of_ble_eq_true rfl) rfl (c_X9_refuses (b1 := true) hm rfl (cpV ?_))
    have h := lx_e h
    refine r_aload_n (pc' := 31) dX9_readsSwap_30 rfl 2 rfl rfl ?_
    refine r_getI (pc' := 34) dX9_readsSwap_31 fa_X9_68 hm.o rfl rfl ?_
    refine r_if_ne (tgt := 43) (pc' := 37) dX9_readsSwap_34 rfl rfl (fun h13 => ?_) (fun h13 => ?_)
    · have h := ifn h13 h
      refine r_aload_n (pc' := 44) dX9_readsSwap_43 rfl 2 rfl rfl ?_
      obtain ⟨I14, eI14, h⟩ := bd_e h
      refine r_callV0 (pc' := 47) (k' := 0) (n' := 0) dX9_readsSwap_44 mb_X9_goes mi_X9_goes hm.o (by decide) rfl lk_X9_124 rfl rfl rfl (Nat.le_of_ble_eq_true rfl) rfl (c_X9_goes hm eI14 (cpV ?_))
      cases h
      exact r_ret dX9_readsSwap_47 rfl (by decide) (by decide) hQ
    · have h := ifp h13 h
      refine r_aload_n (pc' := 38) dX9_readsSwap_37 rfl 2 rfl rfl ?_
      refine r_iload_n (pc' := 39) dX9_readsSwap_38 rfl 1 rfl rfl ?_
      refine r_iload_n (pc' := 40) dX9_readsSwap_39 rfl 0 rfl rfl ?_
      obtain ⟨I15, eI15, h⟩ := bd_e h
      refine r_callV2 (pc' := 43) (k' := 0) (n' := 0) dX9_readsSwap_40 mb_X9_swaps mi_X9_swaps hm.o (by decide) rfl lk_X9_220 rfl rfl rfl (Nat.le_of_ble_eq_true rfl) rfl (c_X9_swaps hm eI15 (cpV ?_))
      refine r_aload_n (pc' := 44) dX9_readsSwap_43 rfl 2 rfl rfl ?_
      obtain ⟨I16, eI16, h⟩ := bd_e h
      refine r_callV0 (pc' := 47) (k' := 0) (n' := 0) dX9_readsSwap_44 mb_X9_goes mi_X9_goes hm.o (by decide) rfl lk_X9_124 rfl rfl rfl (Nat.le_of_ble_eq_true rfl) rfl (c_X9_goes hm eI16 (cpV ?_))
      cases h
      exact r_ret dX9_readsSwap_47 rfl (by decide) (by decide) hQ
set_option maxHeartbeats 4000000 in
theorem fr_X9_readsSwap {I : JI} {m : Nat} {J : JI} {z : Nat} (h : s_X9_readsSwap I m = some J) (hz_m1 : z ≠ (m + 1)) (hz_m : z ≠ m) : J z = I z := by
  unfold s_X9_readsSwap at h
  obtain ⟨I1, e1, h⟩ := bd_e h
  obtain ⟨v3, I2, e2, h⟩ := bd2_e h
  obtain ⟨v5, I4, e3, h⟩ := bd2_e h
  rcases if_e h with h | h
  · have h := lx_e h
    rcases if_e h with h | h
    · obtain ⟨I15, e4, h⟩ := bd_e h
      obtain ⟨I16, e5, h⟩ := bd_e h
      cases h
      exact ((fr_X9_goes e5 (by omega)).trans ((fr_X9_swaps e4 (by omega)).trans ((fr_X9_refuses (by omega)).trans ((fr_X9_indexHere e3 (by omega)).trans ((fr_X9_readIndex e2 (by omega)).trans ((fr_X9_goes e1 (by omega)).trans rfl))))))
    · obtain ⟨I14, e6, h⟩ := bd_e h
      cases h
      exact ((fr_X9_goes e6 (by omega)).trans ((fr_X9_refuses (by omega)).trans ((fr_X9_indexHere e3 (by omega)).trans ((fr_X9_readIndex e2 (by omega)).trans ((fr_X9_goes e1 (by omega)).trans rfl)))))
  · have h := lx_e h
    rcases if_e h with h | h
    · obtain ⟨I10, e7, h⟩ := bd_e h
      obtain ⟨I11, e8, h⟩ := bd_e h
      cases h
      exact ((fr_X9_goes e8 (by omega)).trans ((fr_X9_swaps e7 (by omega)).trans ((fr_X9_refuses (by omega)).trans ((fr_X9_indexHere e3 (by omega)).trans ((fr_X9_readIndex e2 (by omega)).trans ((fr_X9_goes e1 (by omega)).trans rfl))))))
    · obtain ⟨I9, e9, h⟩ := bd_e h
      cases h
      exact ((fr_X9_goes e9 (by omega)).trans ((fr_X9_refuses (by omega)).trans ((fr_X9_indexHere e3 (by omega)).trans ((fr_X9_readIndex e2 (by omega)).trans ((fr_X9_goes e1 (by omega)).trans rfl)))))
set_option maxHeartbeats 4000000 in
theorem ff_X9_readsSwap {I : JI} {m : Nat} {J : JI} {k : Nat} (h : s_X9_readsSwap I m = some J) (hk10 : k ≠ 10) (hk11 : k ≠ 11) (hk13 : k ≠ 13) (hk14 : k ≠ 14) (hk15 : k ≠ 15) (hk16 : k ≠ 16) : J m k = I m k := by
  unfold s_X9_readsSwap at h
  obtain ⟨I1, e1, h⟩ := bd_e h
  obtain ⟨v3, I2, e2, h⟩ := bd2_e h
  obtain ⟨v5, I4, e3, h⟩ := bd2_e h
  rcases if_e h with h | h
  · have h := lx_e h
    rcases if_e h with h | h
    · obtain ⟨I15, e4, h⟩ := bd_e h
      obtain ⟨I16, e5, h⟩ := bd_e h
      cases h
      exact ((ff_X9_goes e5 hk13 hk14 hk15 hk16).trans ((congrFun (fr_X9_swaps e4 (by omega)) k).trans ((ff_X9_refuses hk10 hk11).trans ((ff_X9_indexHere e3 hk10 hk11).trans ((ff_X9_readIndex e2 hk10 hk11 hk13 hk14 hk15 hk16).trans ((ff_X9_goes e1 hk13 hk14 hk15 hk16).trans rfl))))))
    · obtain ⟨I14, e6, h⟩ := bd_e h
      cases h
      exact ((ff_X9_goes e6 hk13 hk14 hk15 hk16).trans ((ff_X9_refuses hk10 hk11).trans ((ff_X9_indexHere e3 hk10 hk11).trans ((ff_X9_readIndex e2 hk10 hk11 hk13 hk14 hk15 hk16).trans ((ff_X9_goes e1 hk13 hk14 hk15 hk16).trans rfl)))))
  · have h := lx_e h
    rcases if_e h with h | h
    · obtain ⟨I10, e7, h⟩ := bd_e h
      obtain ⟨I11, e8, h⟩ := bd_e h
      cases h
      exact ((ff_X9_goes e8 hk13 hk14 hk15 hk16).trans ((congrFun (fr_X9_swaps e7 (by omega)) k).trans ((ff_X9_refuses hk10 hk11).trans ((ff_X9_indexHere e3 hk10 hk11).trans ((ff_X9_readIndex e2 hk10 hk11 hk13 hk14 hk15 hk16).trans ((ff_X9_goes e1 hk13 hk14 hk15 hk16).trans rfl))))))
    · obtain ⟨I9, e9, h⟩ := bd_e h
      cases h
      exact ((ff_X9_goes e9 hk13 hk14 hk15 hk16).trans ((ff_X9_refuses hk10 hk11).trans ((ff_X9_indexHere e3 hk10 hk11).trans ((ff_X9_readIndex e2 hk10 hk11 hk13 hk14 hk15 hk16).trans ((ff_X9_goes e1 hk13 hk14 hk15 hk16).trans rfl)))))
noncomputable def s_X9_punches (I : JI) (m : Nat) (x1 : Int32) (x2 : Int32) : Option (JI) :=
  bd (s_X9_ofCard I m x1 0) fun v1 => bd (s_X9_putsCard I m x1 0 (v1 ^^^ ((1 : Int32) <<< (x2 &&& 31)))) fun I2 => gd (vp_in 8 2030) <| lx (stI I2 (m + 1) (Int32.toNatClampNeg 8) 1) fun I4 => some I4
set_option maxHeartbeats 4000000 in
theorem c_X9_punches {Ω : JO} {I : JI} {S : JS} {Q : JQ} {m : Nat} {x1 : Int32} {x2 : Int32} {J : JI} (hm : Is9 S m) (h : s_X9_punches I m x1 x2 = some J) (hQ : Q (.inl none) J S) : Call Ω m_X9_punches [.ref m, .int x1, .int x2] I S Q := by
  refine call_of (by decide +kernel) rfl (Nat.le_of_ble_eq_true rfl) ?_
  change AA Ω m_X9_punches (FQ Ω m_X9_punches Q) 0 0 0 [(0, .ref m), (1, .int x1), (2, .int x2)] [] I S
  unfold s_X9_punches at h
  refine r_aload_n (pc' := 1) dX9_punches_0 rfl 0 rfl rfl ?_
  refine r_iload_n (pc' := 2) dX9_punches_1 rfl 1 rfl rfl ?_
  refine r_iconst (pc' := 3) (v := 0) dX9_punches_2 (by decide) rfl ?_
  refine r_aload_n (pc' := 4) dX9_punches_3 rfl 0 rfl rfl ?_
  refine r_iload_n (pc' := 5) dX9_punches_4 rfl 1 rfl rfl ?_
  refine r_iconst (pc' := 6) (v := 0) dX9_punches_5 (by decide) rfl ?_
  obtain ⟨v1, ev1, h⟩ := bd_e h
  refine r_callV2 (pc' := 9) (k' := 0) (n' := 0) dX9_punches_6 mb_X9_ofCard mi_X9_ofCard hm.o (by decide) rfl lk_X9_232 rfl rfl rfl (Nat.le_of_ble_eq_true rfl) rfl (c_X9_ofCard hm ev1 (cpI ?_))
  refine r_iconst (pc' := 10) (v := 1) dX9_punches_9 (by decide) rfl ?_
  refine r_iload_n (pc' := 11) dX9_punches_10 rfl 2 rfl rfl ?_
  refine r_ishl (pc' := 12) dX9_punches_11 rfl ?_
  refine r_ixor (pc' := 13) dX9_punches_12 rfl ?_
  obtain ⟨I2, eI2, h⟩ := bd_e h
  refine r_callV3 (pc' := 16) (k' := 0) (n' := 0) dX9_punches_13 mb_X9_putsCard mi_X9_putsCard hm.o (by decide) rfl lk_X9_151 rfl rfl rfl (Nat.le_of_ble_eq_true rfl) rfl (c_X9_putsCard hm eI2 (cpV ?_))
  refine r_aload_n (pc' := 17) dX9_punches_16 rfl 0 rfl rfl ?_
  refine r_getO (pc' := 20) dX9_punches_17 fa_X9_9 hm.o rfl hm.r1 rfl ?_
  refine r_bipush (pc' := 22) (v := 8) dX9_punches_20 (by decide) rfl ?_
  refine r_iconst (pc' := 23) (v := 1) dX9_punches_22 (by decide) rfl ?_
  obtain ⟨g3, h⟩ := gd_e h
  refine r_iastore (pc' := 24) dX9_punches_23 hm.c1 g3 rfl ?_
  have h := lx_e h
  cases h
  exact r_ret dX9_punches_24 rfl (by decide) (by decide) hQ
set_option maxHeartbeats 4000000 in
theorem fr_X9_punches {I : JI} {m : Nat} {x1 : Int32} {x2 : Int32} {J : JI} {z : Nat} (h : s_X9_punches I m x1 x2 = some J) (hz_m1 : z ≠ (m + 1)) : J z = I z := by
  unfold s_X9_punches at h
  obtain ⟨o1, e1, h⟩ := bd_e h
  obtain ⟨I2, e2, h⟩ := bd_e h
  obtain ⟨g3, h⟩ := gd_e h
  have h := lx_e h
  cases h
  exact ((fr_stI (by omega)).trans ((fr_X9_putsCard e2 (by omega)).trans rfl))
noncomputable def s_X9_readsPunch (I : JI) (m : Nat) : Option (JI) :=
  bd (s_X9_goes I m) fun I1 => bd2 (s_X9_readIndex I1 m 3) fun v3 I2 => bd2 (s_X9_readIndex I2 m 0) fun v5 I4 => if (I4 m 10) = 0 then (bd (s_X9_punches I4 m v3 v5) fun I7 => some I7) else (some I4)
set_option maxHeartbeats 4000000 in
theorem c_X9_readsPunch {Ω : JO} {I : JI} {S : JS} {Q : JQ} {m : Nat} {J : JI} (hm : Is9 S m) (h : s_X9_readsPunch I m = some J) (hQ : Q (.inl none) J S) : Call Ω m_X9_readsPunch [.ref m] I S Q := by
  refine call_of (by decide +kernel) rfl (Nat.le_of_ble_eq_true rfl) ?_
  change AA Ω m_X9_readsPunch (FQ Ω m_X9_readsPunch Q) 0 0 0 [(0, .ref m)] [] I S
  unfold s_X9_readsPunch at h
  refine r_aload_n (pc' := 1) dX9_readsPunch_0 rfl 0 rfl rfl ?_
  obtain ⟨I1, eI1, h⟩ := bd_e h
  refine r_callV0 (pc' := 4) (k' := 0) (n' := 0) dX9_readsPunch_1 mb_X9_goes mi_X9_goes hm.o (by decide) rfl lk_X9_124 rfl rfl rfl (Nat.le_of_ble_eq_true rfl) rfl (c_X9_goes hm eI1 (cpV ?_))
  refine r_aload_n (pc' := 5) dX9_readsPunch_4 rfl 0 rfl rfl ?_
  refine r_iconst (pc' := 6) (v := 3) dX9_readsPunch_5 (by decide) rfl ?_
  obtain ⟨v3, I2, ev3, h⟩ := bd2_e h
  refine r_callV1 (pc' := 9) (k' := 0) (n' := 0) dX9_readsPunch_6 mb_X9_readIndex mi_X9_readIndex hm.o (by decide) rfl lk_X9_217 rfl rfl rfl (Nat.le_of_ble_eq_true rfl) rfl (c_X9_readIndex hm ev3 (cpI ?_))
  refine r_istore_n (pc' := 10) (lv' := [(1, _), (0, _)]) dX9_readsPunch_9 rfl (by decide) rfl rfl ?_
  refine r_aload_n (pc' := 11) dX9_readsPunch_10 rfl 1 rfl rfl ?_
  refine r_iconst (pc' := 12) (v := 0) dX9_readsPunch_11 (by decide) rfl ?_
  obtain ⟨v5, I4, ev5, h⟩ := bd2_e h
  refine r_callV1 (pc' := 15) (k' := 0) (n' := 0) dX9_readsPunch_12 mb_X9_readIndex mi_X9_readIndex hm.o (by decide) rfl lk_X9_217 rfl rfl rfl (Nat.le_of_ble_eq_true rfl) rfl (c_X9_readIndex hm ev5 (cpI ?_))
  refine r_istore_n (pc' := 16) (lv' := [(2, _), (1, _), (0, _)]) dX9_readsPunch_15 rfl (by decide) rfl rfl ?_
  refine r_aload_n (pc' := 17) dX9_readsPunch_16 rfl 2 rfl rfl ?_
  refine r_getI (pc' := 20) dX9_readsPunch_17 fa_X9_68 hm.o rfl rfl ?_
  refine r_if_ne (tgt := 29) (pc' := 23) dX9_readsPunch_20 rfl rfl (fun h6 => ?_) (fun h6 => ?_)
  · have h := ifn h6 h
    cases h
    exact r_ret dX9_readsPunch_29 rfl (by decide) (by decide) hQ
  · have h := ifp h6 h
    refine r_aload_n (pc' := 24) dX9_readsPunch_23 rfl 2 rfl rfl ?_
    refine r_iload_n (pc' := 25) dX9_readsPunch_24 rfl 1 rfl rfl ?_
    refine r_iload_n (pc' := 26) dX9_readsPunch_25 rfl 0 rfl rfl ?_
    obtain ⟨I7, eI7, h⟩ := bd_e h
    refine r_callV2 (pc' := 29) (k' := 0) (n' := 0) dX9_readsPunch_26 mb_X9_punches mi_X9_punches hm.o (by decide) rfl lk_X9_223 rfl rfl rfl (Nat.le_of_ble_eq_true rfl) rfl (c_X9_punches hm eI7 (cpV ?_))
    cases h
    exact r_ret dX9_readsPunch_29 rfl (by decide) (by decide) hQ
set_option maxHeartbeats 4000000 in
theorem fr_X9_readsPunch {I : JI} {m : Nat} {J : JI} {z : Nat} (h : s_X9_readsPunch I m = some J) (hz_m1 : z ≠ (m + 1)) (hz_m : z ≠ m) : J z = I z := by
  unfold s_X9_readsPunch at h
  obtain ⟨I1, e1, h⟩ := bd_e h
  obtain ⟨v3, I2, e2, h⟩ := bd2_e h
  obtain ⟨v5, I4, e3, h⟩ := bd2_e h
  rcases if_e h with h | h
  · obtain ⟨I7, e4, h⟩ := bd_e h
    cases h
    exact ((fr_X9_punches e4 (by omega)).trans ((fr_X9_readIndex e3 (by omega)).trans ((fr_X9_readIndex e2 (by omega)).trans ((fr_X9_goes e1 (by omega)).trans rfl))))
  · cases h
    exact ((fr_X9_readIndex e3 (by omega)).trans ((fr_X9_readIndex e2 (by omega)).trans ((fr_X9_goes e1 (by omega)).trans rfl)))
set_option maxHeartbeats 4000000 in
theorem ff_X9_readsPunch {I : JI} {m : Nat} {J : JI} {k : Nat} (h : s_X9_readsPunch I m = some J) (hk10 : k ≠ 10) (hk11 : k ≠ 11) (hk13 : k ≠ 13) (hk14 : k ≠ 14) (hk15 : k ≠ 15) (hk16 : k ≠ 16) : J m k = I m k := by
  unfold s_X9_readsPunch at h
  obtain ⟨I1, e1, h⟩ := bd_e h
  obtain ⟨v3, I2, e2, h⟩ := bd2_e h
  obtain ⟨v5, I4, e3, h⟩ := bd2_e h
  rcases if_e h with h | h
  · obtain ⟨I7, e4, h⟩ := bd_e h
    cases h
    exact ((congrFun (fr_X9_punches e4 (by omega)) k).trans ((ff_X9_readIndex e3 hk10 hk11 hk13 hk14 hk15 hk16).trans ((ff_X9_readIndex e2 hk10 hk11 hk13 hk14 hk15 hk16).trans ((ff_X9_goes e1 hk13 hk14 hk15 hk16).trans rfl))))
  · cases h
    exact ((ff_X9_readIndex e3 hk10 hk11 hk13 hk14 hk15 hk16).trans ((ff_X9_readIndex e2 hk10 hk11 hk13 hk14 hk15 hk16).trans ((ff_X9_goes e1 hk13 hk14 hk15 hk16).trans rfl)))
noncomputable def s_X9_dyes (I : JI) (m : Nat) (x1 : Int32) (x2 : Int32) : Option (JI) :=
  bd (s_X9_putsCard I m x1 1 x2) fun I1 => gd (vp_in 8 2030) <| lx (stI I1 (m + 1) (Int32.toNatClampNeg 8) 1) fun I3 => some I3
set_option maxHeartbeats 4000000 in
theorem c_X9_dyes {Ω : JO} {I : JI} {S : JS} {Q : JQ} {m : Nat} {x1 : Int32} {x2 : Int32} {J : JI} (hm : Is9 S m) (h : s_X9_dyes I m x1 x2 = some J) (hQ : Q (.inl none) J S) : Call Ω m_X9_dyes [.ref m, .int x1, .int x2] I S Q := by
  refine call_of (by decide +kernel) rfl (Nat.le_of_ble_eq_true rfl) ?_
  change AA Ω m_X9_dyes (FQ Ω m_X9_dyes Q) 0 0 0 [(0, .ref m), (1, .int x1), (2, .int x2)] [] I S
  unfold s_X9_dyes at h
  refine r_aload_n (pc' := 1) dX9_dyes_0 rfl 0 rfl rfl ?_
  refine r_iload_n (pc' := 2) dX9_dyes_1 rfl 1 rfl rfl ?_
  refine r_iconst (pc' := 3) (v := 1) dX9_dyes_2 (by decide) rfl ?_
  refine r_iload_n (pc' := 4) dX9_dyes_3 rfl 2 rfl rfl ?_
  obtain ⟨I1, eI1, h⟩ := bd_e h
  refine r_callV3 (pc' := 7) (k' := 0) (n' := 0) dX9_dyes_4 mb_X9_putsCard mi_X9_putsCard hm.o (by decide) rfl lk_X9_151 rfl rfl rfl (Nat.le_of_ble_eq_true rfl) rfl (c_X9_putsCard hm eI1 (cpV ?_))
  refine r_aload_n (pc' := 8) dX9_dyes_7 rfl 0 rfl rfl ?_
  refine r_getO (pc' := 11) dX9_dyes_8 fa_X9_9 hm.o rfl hm.r1 rfl ?_
  refine r_bipush (pc' := 13) (v := 8) dX9_dyes_11 (by decide) rfl ?_
  refine r_iconst (pc' := 14) (v := 1) dX9_dyes_13 (by decide) rfl ?_
  obtain ⟨g2, h⟩ := gd_e h
  refine r_iastore (pc' := 15) dX9_dyes_14 hm.c1 g2 rfl ?_
  have h := lx_e h
  cases h
  exact r_ret dX9_dyes_15 rfl (by decide) (by decide) hQ
set_option maxHeartbeats 4000000 in
theorem fr_X9_dyes {I : JI} {m : Nat} {x1 : Int32} {x2 : Int32} {J : JI} {z : Nat} (h : s_X9_dyes I m x1 x2 = some J) (hz_m1 : z ≠ (m + 1)) : J z = I z := by
  unfold s_X9_dyes at h
  obtain ⟨I1, e1, h⟩ := bd_e h
  obtain ⟨g2, h⟩ := gd_e h
  have h := lx_e h
  cases h
  exact ((fr_stI (by omega)).trans ((fr_X9_putsCard e1 (by omega)).trans rfl))
noncomputable def s_X9_readsDye (I : JI) (m : Nat) : Option (JI) :=
  bd (s_X9_goes I m) fun I1 => bd2 (s_X9_readIndex I1 m 3) fun v3 I2 => bd2 (s_X9_readColour I2 m) fun v5 I4 => if (I4 m 10) = 0 then (bd (s_X9_dyes I4 m v3 v5) fun I7 => some I7) else (some I4)
set_option maxHeartbeats 4000000 in
theorem c_X9_readsDye {Ω : JO} {I : JI} {S : JS} {Q : JQ} {m : Nat} {J : JI} (hm : Is9 S m) (h : s_X9_readsDye I m = some J) (hQ : Q (.inl none) J S) : Call Ω m_X9_readsDye [.ref m] I S Q := by
  refine call_of (by decide +kernel) rfl (Nat.le_of_ble_eq_true rfl) ?_
  change AA Ω m_X9_readsDye (FQ Ω m_X9_readsDye Q) 0 0 0 [(0, .ref m)] [] I S
  unfold s_X9_readsDye at h
  refine r_aload_n (pc' := 1) dX9_readsDye_0 rfl 0 rfl rfl ?_
  obtain ⟨I1, eI1, h⟩ := bd_e h
  refine r_callV0 (pc' := 4) (k' := 0) (n' := 0) dX9_readsDye_1 mb_X9_goes mi_X9_goes hm.o (by decide) rfl lk_X9_124 rfl rfl rfl (Nat.le_of_ble_eq_true rfl) rfl (c_X9_goes hm eI1 (cpV ?_))
  refine r_aload_n (pc' := 5) dX9_readsDye_4 rfl 0 rfl rfl ?_
  refine r_iconst (pc' := 6) (v := 3) dX9_readsDye_5 (by decide) rfl ?_
  obtain ⟨v3, I2, ev3, h⟩ := bd2_e h
  refine r_callV1 (pc' := 9) (k' := 0) (n' := 0) dX9_readsDye_6 mb_X9_readIndex mi_X9_readIndex hm.o (by decide) rfl lk_X9_217 rfl rfl rfl (Nat.le_of_ble_eq_true rfl) rfl (c_X9_readIndex hm ev3 (cpI ?_))
  refine r_istore_n (pc' := 10) (lv' := [(1, _), (0, _)]) dX9_readsDye_9 rfl (by decide) rfl rfl ?_
  refine r_aload_n (pc' := 11) dX9_readsDye_10 rfl 1 rfl rfl ?_
  obtain ⟨v5, I4, ev5, h⟩ := bd2_e h
  refine r_callV0 (pc' := 14) (k' := 0) (n' := 0) dX9_readsDye_11 mb_X9_readColour mi_X9_readColour hm.o (by decide) rfl lk_X9_141 rfl rfl rfl (Nat.le_of_ble_eq_true rfl) rfl (c_X9_readColour hm ev5 (cpI ?_))
  refine r_istore_n (pc' := 15) (lv' := [(2, _), (1, _), (0, _)]) dX9_readsDye_14 rfl (by decide) rfl rfl ?_
  refine r_aload_n (pc' := 16) dX9_readsDye_15 rfl 2 rfl rfl ?_
  refine r_getI (pc' := 19) dX9_readsDye_16 fa_X9_68 hm.o rfl rfl ?_
  refine r_if_ne (tgt := 28) (pc' := 22) dX9_readsDye_19 rfl rfl (fun h6 => ?_) (fun h6 => ?_)
  · have h := ifn h6 h
    cases h
    exact r_ret dX9_readsDye_28 rfl (by decide) (by decide) hQ
  · have h := ifp h6 h
    refine r_aload_n (pc' := 23) dX9_readsDye_22 rfl 2 rfl rfl ?_
    refine r_iload_n (pc' := 24) dX9_readsDye_23 rfl 1 rfl rfl ?_
    refine r_iload_n (pc' := 25) dX9_readsDye_24 rfl 0 rfl rfl ?_
    obtain ⟨I7, eI7, h⟩ := bd_e h
    refine r_callV2 (pc' := 28) (k' := 0) (n' := 0) dX9_readsDye_25 mb_X9_dyes mi_X9_dyes hm.o (by decide) rfl lk_X9_226 rfl rfl rfl (Nat.le_of_ble_eq_true rfl) rfl (c_X9_dyes hm eI7 (cpV ?_))
    cases h
    exact r_ret dX9_readsDye_28 rfl (by decide) (by decide) hQ
set_option maxHeartbeats 4000000 in
theorem fr_X9_readsDye {I : JI} {m : Nat} {J : JI} {z : Nat} (h : s_X9_readsDye I m = some J) (hz_m1 : z ≠ (m + 1)) (hz_m : z ≠ m) : J z = I z := by
  unfold s_X9_readsDye at h
  obtain ⟨I1, e1, h⟩ := bd_e h
  obtain ⟨v3, I2, e2, h⟩ := bd2_e h
  obtain ⟨v5, I4, e3, h⟩ := bd2_e h
  rcases if_e h with h | h
  · obtain ⟨I7, e4, h⟩ := bd_e h
    cases h
    exact ((fr_X9_dyes e4 (by omega)).trans ((fr_X9_readColour e3 (by omega)).trans ((fr_X9_readIndex e2 (by omega)).trans ((fr_X9_goes e1 (by omega)).trans rfl))))
  · cases h
    exact ((fr_X9_readColour e3 (by omega)).trans ((fr_X9_readIndex e2 (by omega)).trans ((fr_X9_goes e1 (by omega)).trans rfl)))
set_option maxHeartbeats 4000000 in
theorem ff_X9_readsDye {I : JI} {m : Nat} {J : JI} {k : Nat} (h : s_X9_readsDye I m = some J) (hk10 : k ≠ 10) (hk11 : k ≠ 11) (hk13 : k ≠ 13) (hk14 : k ≠ 14) (hk15 : k ≠ 15) (hk16 : k ≠ 16) : J m k = I m k := by
  unfold s_X9_readsDye at h
  obtain ⟨I1, e1, h⟩ := bd_e h
  obtain ⟨v3, I2, e2, h⟩ := bd2_e h
  obtain ⟨v5, I4, e3, h⟩ := bd2_e h
  rcases if_e h with h | h
  · obtain ⟨I7, e4, h⟩ := bd_e h
    cases h
    exact ((congrFun (fr_X9_dyes e4 (by omega)) k).trans ((ff_X9_readColour e3 hk10 hk11 hk13 hk14 hk15 hk16).trans ((ff_X9_readIndex e2 hk10 hk11 hk13 hk14 hk15 hk16).trans ((ff_X9_goes e1 hk13 hk14 hk15 hk16).trans rfl))))
  · cases h
    exact ((ff_X9_readColour e3 hk10 hk11 hk13 hk14 hk15 hk16).trans ((ff_X9_readIndex e2 hk10 hk11 hk13 hk14 hk15 hk16).trans ((ff_X9_goes e1 hk13 hk14 hk15 hk16).trans rfl)))
noncomputable def s_X9_oils (I : JI) (m : Nat) (x1 : Int32) : Option (JI) :=
  bd (s_X9_putsHarness I m x1 1 0) fun I1 => bd (s_X9_putsHarness I1 m x1 2 0) fun I2 => some I2
set_option maxHeartbeats 4000000 in
theorem c_X9_oils {Ω : JO} {I : JI} {S : JS} {Q : JQ} {m : Nat} {x1 : Int32} {J : JI} (hm : Is9 S m) (h : s_X9_oils I m x1 = some J) (hQ : Q (.inl none) J S) : Call Ω m_X9_oils [.ref m, .int x1] I S Q := by
  refine call_of (by decide +kernel) rfl (Nat.le_of_ble_eq_true rfl) ?_
  change AA Ω m_X9_oils (FQ Ω m_X9_oils Q) 0 0 0 [(0, .ref m), (1, .int x1)] [] I S
  unfold s_X9_oils at h
  refine r_aload_n (pc' := 1) dX9_oils_0 rfl 0 rfl rfl ?_
  refine r_iload_n (pc' := 2) dX9_oils_1 rfl 1 rfl rfl ?_
  refine r_iconst (pc' := 3) (v := 1) dX9_oils_2 (by decide) rfl ?_
  refine r_iconst (pc' := 4) (v := 0) dX9_oils_3 (by decide) rfl ?_
  obtain ⟨I1, eI1, h⟩ := bd_e h
  refine r_callV3 (pc' := 7) (k' := 0) (n' := 0) dX9_oils_4 mb_X9_putsHarness mi_X9_putsHarness hm.o (by decide) rfl lk_X9_331 rfl rfl rfl (Nat.le_of_ble_eq_true rfl) rfl (c_X9_putsHarness hm eI1 (cpV ?_))
  refine r_aload_n (pc' := 8) dX9_oils_7 rfl 0 rfl rfl ?_
  refine r_iload_n (pc' := 9) dX9_oils_8 rfl 1 rfl rfl ?_
  refine r_iconst (pc' := 10) (v := 2) dX9_oils_9 (by decide) rfl ?_
  refine r_iconst (pc' := 11) (v := 0) dX9_oils_10 (by decide) rfl ?_
  obtain ⟨I2, eI2, h⟩ := bd_e h
  refine r_callV3 (pc' := 14) (k' := 0) (n' := 0) dX9_oils_11 mb_X9_putsHarness mi_X9_putsHarness hm.o (by decide) rfl lk_X9_331 rfl rfl rfl (Nat.le_of_ble_eq_true rfl) rfl (c_X9_putsHarness hm eI2 (cpV ?_))
  cases h
  exact r_ret dX9_oils_14 rfl (by decide) (by decide) hQ
set_option maxHeartbeats 4000000 in
theorem fr_X9_oils {I : JI} {m : Nat} {x1 : Int32} {J : JI} {z : Nat} (h : s_X9_oils I m x1 = some J) (hz_m1 : z ≠ (m + 1)) : J z = I z := by
  unfold s_X9_oils at h
  obtain ⟨I1, e1, h⟩ := bd_e h
  obtain ⟨I2, e2, h⟩ := bd_e h
  cases h
  exact ((fr_X9_putsHarness e2 (by omega)).trans ((fr_X9_putsHarness e1 (by omega)).trans rfl))
noncomputable def s_X9_readsOil (I : JI) (m : Nat) : Option (JI) :=
  bd (s_X9_goes I m) fun I1 => bd2 (s_X9_readIndex I1 m 0) fun v3 I2 => if (I2 m 10) = 0 then (bd (s_X9_oils I2 m v3) fun I5 => some I5) else (some I2)
set_option maxHeartbeats 4000000 in
theorem c_X9_readsOil {Ω : JO} {I : JI} {S : JS} {Q : JQ} {m : Nat} {J : JI} (hm : Is9 S m) (h : s_X9_readsOil I m = some J) (hQ : Q (.inl none) J S) : Call Ω m_X9_readsOil [.ref m] I S Q := by
  refine call_of (by decide +kernel) rfl (Nat.le_of_ble_eq_true rfl) ?_
  change AA Ω m_X9_readsOil (FQ Ω m_X9_readsOil Q) 0 0 0 [(0, .ref m)] [] I S
  unfold s_X9_readsOil at h
  refine r_aload_n (pc' := 1) dX9_readsOil_0 rfl 0 rfl rfl ?_
  obtain ⟨I1, eI1, h⟩ := bd_e h
  refine r_callV0 (pc' := 4) (k' := 0) (n' := 0) dX9_readsOil_1 mb_X9_goes mi_X9_goes hm.o (by decide) rfl lk_X9_124 rfl rfl rfl (Nat.le_of_ble_eq_true rfl) rfl (c_X9_goes hm eI1 (cpV ?_))
  refine r_aload_n (pc' := 5) dX9_readsOil_4 rfl 0 rfl rfl ?_
  refine r_iconst (pc' := 6) (v := 0) dX9_readsOil_5 (by decide) rfl ?_
  obtain ⟨v3, I2, ev3, h⟩ := bd2_e h
  refine r_callV1 (pc' := 9) (k' := 0) (n' := 0) dX9_readsOil_6 mb_X9_readIndex mi_X9_readIndex hm.o (by decide) rfl lk_X9_217 rfl rfl rfl (Nat.le_of_ble_eq_true rfl) rfl (c_X9_readIndex hm ev3 (cpI ?_))
  refine r_istore_n (pc' := 10) (lv' := [(1, _), (0, _)]) dX9_readsOil_9 rfl (by decide) rfl rfl ?_
  refine r_aload_n (pc' := 11) dX9_readsOil_10 rfl 1 rfl rfl ?_
  refine r_getI (pc' := 14) dX9_readsOil_11 fa_X9_68 hm.o rfl rfl ?_
  refine r_if_ne (tgt := 22) (pc' := 17) dX9_readsOil_14 rfl rfl (fun h4 => ?_) (fun h4 => ?_)
  · have h := ifn h4 h
    cases h
    exact r_ret dX9_readsOil_22 rfl (by decide) (by decide) hQ
  · have h := ifp h4 h
    refine r_aload_n (pc' := 18) dX9_readsOil_17 rfl 1 rfl rfl ?_
    refine r_iload_n (pc' := 19) dX9_readsOil_18 rfl 0 rfl rfl ?_
    obtain ⟨I5, eI5, h⟩ := bd_e h
    refine r_callV1 (pc' := 22) (k' := 0) (n' := 0) dX9_readsOil_19 mb_X9_oils mi_X9_oils hm.o (by decide) rfl lk_X9_229 rfl rfl rfl (Nat.le_of_ble_eq_true rfl) rfl (c_X9_oils hm eI5 (cpV ?_))
    cases h
    exact r_ret dX9_readsOil_22 rfl (by decide) (by decide) hQ
set_option maxHeartbeats 4000000 in
theorem fr_X9_readsOil {I : JI} {m : Nat} {J : JI} {z : Nat} (h : s_X9_readsOil I m = some J) (hz_m1 : z ≠ (m + 1)) (hz_m : z ≠ m) : J z = I z := by
  unfold s_X9_readsOil at h
  obtain ⟨I1, e1, h⟩ := bd_e h
  obtain ⟨v3, I2, e2, h⟩ := bd2_e h
  rcases if_e h with h | h
  · obtain ⟨I5, e3, h⟩ := bd_e h
    cases h
    exact ((fr_X9_oils e3 (by omega)).trans ((fr_X9_readIndex e2 (by omega)).trans ((fr_X9_goes e1 (by omega)).trans rfl)))
  · cases h
    exact ((fr_X9_readIndex e2 (by omega)).trans ((fr_X9_goes e1 (by omega)).trans rfl))
set_option maxHeartbeats 4000000 in
theorem ff_X9_readsOil {I : JI} {m : Nat} {J : JI} {k : Nat} (h : s_X9_readsOil I m = some J) (hk10 : k ≠ 10) (hk11 : k ≠ 11) (hk13 : k ≠ 13) (hk14 : k ≠ 14) (hk15 : k ≠ 15) (hk16 : k ≠ 16) : J m k = I m k := by
  unfold s_X9_readsOil at h
  obtain ⟨I1, e1, h⟩ := bd_e h
  obtain ⟨v3, I2, e2, h⟩ := bd2_e h
  rcases if_e h with h | h
  · obtain ⟨I5, e3, h⟩ := bd_e h
    cases h
    exact ((congrFun (fr_X9_oils e3 (by omega)) k).trans ((ff_X9_readIndex e2 hk10 hk11 hk13 hk14 hk15 hk16).trans ((ff_X9_goes e1 hk13 hk14 hk15 hk16).trans rfl)))
  · cases h
    exact ((ff_X9_readIndex e2 hk10 hk11 hk13 hk14 hk15 hk16).trans ((ff_X9_goes e1 hk13 hk14 hk15 hk16).trans rfl))
noncomputable def s_X9_readsInvert (I : JI) (m : Nat) : Option (JI) :=
  bd (s_X9_goes I m) fun I1 => bd2 (s_X9_readIndex I1 m 3) fun v3 I2 => if (I2 m 10) ≤ 0 then (bd (s_X9_ofCard I2 m v3 0) fun v5 => gd (vp_in 0 2030) <| bd (s_X9_putsCard I2 m v3 0 (v5 ^^^ (((1 : Int32) <<< ((I2 (m + 1) (Int32.toNatClampNeg 0)) &&& 31)) - 1))) fun I7 => gd (vp_in 8 2030) <| lx (stI I7 (m + 1) (Int32.toNatClampNeg 8) 1) fun I9 => some I9) else (some I2)
set_option maxHeartbeats 4000000 in
theorem c_X9_readsInvert {Ω : JO} {I : JI} {S : JS} {Q : JQ} {m : Nat} {J : JI} (hm : Is9 S m) (h : s_X9_readsInvert I m = some J) (hQ : Q (.inl none) J S) : Call Ω m_X9_readsInvert [.ref m] I S Q := by
  refine call_of (by decide +kernel) rfl (Nat.le_of_ble_eq_true rfl) ?_
  change AA Ω m_X9_readsInvert (FQ Ω m_X9_readsInvert Q) 0 0 0 [(0, .ref m)] [] I S
  unfold s_X9_readsInvert at h
  refine r_aload_n (pc' := 1) dX9_readsInvert_0 rfl 0 rfl rfl ?_
  obtain ⟨I1, eI1, h⟩ := bd_e h
  refine r_callV0 (pc' := 4) (k' := 0) (n' := 0) dX9_readsInvert_1 mb_X9_goes mi_X9_goes hm.o (by decide) rfl lk_X9_124 rfl rfl rfl (Nat.le_of_ble_eq_true rfl) rfl (c_X9_goes hm eI1 (cpV ?_))
  refine r_aload_n (pc' := 5) dX9_readsInvert_4 rfl 0 rfl rfl ?_
  refine r_iconst (pc' := 6) (v := 3) dX9_readsInvert_5 (by decide) rfl ?_
  obtain ⟨v3, I2, ev3, h⟩ := bd2_e h
  refine r_callV1 (pc' := 9) (k' := 0) (n' := 0) dX9_readsInvert_6 mb_X9_readIndex mi_X9_readIndex hm.o (by decide) rfl lk_X9_217 rfl rfl rfl (Nat.le_of_ble_eq_true rfl) rfl (c_X9_readIndex hm ev3 (cpI ?_))
  refine r_istore_n (pc' := 10) (lv' := [(1, _), (0, _)]) dX9_readsInvert_9 rfl (by decide) rfl rfl ?_
  refine r_aload_n (pc' := 11) dX9_readsInvert_10 rfl 1 rfl rfl ?_
  refine r_getI (pc' := 14) dX9_readsInvert_11 fa_X9_68 hm.o rfl rfl ?_
  refine r_if_le (tgt := 18) (pc' := 17) dX9_readsInvert_14 rfl rfl (fun h4 => ?_) (fun h4 => ?_)
  · have h := ifp h4 h
    refine r_aload_n (pc' := 19) dX9_readsInvert_18 rfl 1 rfl rfl ?_
    refine r_iload_n (pc' := 20) dX9_readsInvert_19 rfl 0 rfl rfl ?_
    refine r_iconst (pc' := 21) (v := 0) dX9_readsInvert_20 (by decide) rfl ?_
    refine r_aload_n (pc' := 22) dX9_readsInvert_21 rfl 1 rfl rfl ?_
    refine r_iload_n (pc' := 23) dX9_readsInvert_22 rfl 0 rfl rfl ?_
    refine r_iconst (pc' := 24) (v := 0) dX9_readsInvert_23 (by decide) rfl ?_
    obtain ⟨v5, ev5, h⟩ := bd_e h
    refine r_callV2 (pc' := 27) (k' := 0) (n' := 0) dX9_readsInvert_24 mb_X9_ofCard mi_X9_ofCard hm.o (by decide) rfl lk_X9_232 rfl rfl rfl (Nat.le_of_ble_eq_true rfl) rfl (c_X9_ofCard hm ev5 (cpI ?_))
    refine r_iconst (pc' := 28) (v := 1) dX9_readsInvert_27 (by decide) rfl ?_
    refine r_aload_n (pc' := 29) dX9_readsInvert_28 rfl 1 rfl rfl ?_
    refine r_getO (pc' := 32) dX9_readsInvert_29 fa_X9_9 hm.o rfl hm.r1 rfl ?_
    refine r_iconst (pc' := 33) (v := 0) dX9_readsInvert_32 (by decide) rfl ?_
    obtain ⟨g6, h⟩ := gd_e h
    refine r_iaload (pc' := 34) dX9_readsInvert_33 hm.c1 g6 rfl ?_
    refine r_ishl (pc' := 35) dX9_readsInvert_34 rfl ?_
    refine r_iconst (pc' := 36) (v := 1) dX9_readsInvert_35 (by decide) rfl ?_
    refine r_isub (pc' := 37) dX9_readsInvert_36 rfl ?_
    refine r_ixor (pc' := 38) dX9_readsInvert_37 rfl ?_
    obtain ⟨I7, eI7, h⟩ := bd_e h
    refine r_callV3 (pc' := 41) (k' := 0) (n' := 0) dX9_readsInvert_38 mb_X9_putsCard mi_X9_putsCard hm.o (by decide) rfl lk_X9_151 rfl rfl rfl (Nat.le_of_ble_eq_true rfl) rfl (c_X9_putsCard hm eI7 (cpV ?_))
    refine r_aload_n (pc' := 42) dX9_readsInvert_41 rfl 1 rfl rfl ?_
    refine r_getO (pc' := 45) dX9_readsInvert_42 fa_X9_9 hm.o rfl hm.r1 rfl ?_
    refine r_bipush (pc' := 47) (v := 8) dX9_readsInvert_45 (by decide) rfl ?_
    refine r_iconst (pc' := 48) (v := 1) dX9_readsInvert_47 (by decide) rfl ?_
    obtain ⟨g8, h⟩ := gd_e h
    refine r_iastore (pc' := 49) dX9_readsInvert_48 hm.c1 g8 rfl ?_
    have h := lx_e h
    cases h
    exact r_ret dX9_readsInvert_49 rfl (by decide) (by decide) hQ
  · have h := ifn h4 h
    cases h
    exact r_ret dX9_readsInvert_17 rfl (by decide) (by decide) hQ
set_option maxHeartbeats 4000000 in
theorem fr_X9_readsInvert {I : JI} {m : Nat} {J : JI} {z : Nat} (h : s_X9_readsInvert I m = some J) (hz_m1 : z ≠ (m + 1)) (hz_m : z ≠ m) : J z = I z := by
  unfold s_X9_readsInvert at h
  obtain ⟨I1, e1, h⟩ := bd_e h
  obtain ⟨v3, I2, e2, h⟩ := bd2_e h
  rcases if_e h with h | h
  · obtain ⟨o3, e3, h⟩ := bd_e h
    obtain ⟨g4, h⟩ := gd_e h
    obtain ⟨I7, e5, h⟩ := bd_e h
    obtain ⟨g6, h⟩ := gd_e h
    have h := lx_e h
    cases h
    exact ((fr_stI (by omega)).trans ((fr_X9_putsCard e5 (by omega)).trans ((fr_X9_readIndex e2 (by omega)).trans ((fr_X9_goes e1 (by omega)).trans rfl))))
  · cases h
    exact ((fr_X9_readIndex e2 (by omega)).trans ((fr_X9_goes e1 (by omega)).trans rfl))
set_option maxHeartbeats 4000000 in
theorem ff_X9_readsInvert {I : JI} {m : Nat} {J : JI} {k : Nat} (h : s_X9_readsInvert I m = some J) (hk10 : k ≠ 10) (hk11 : k ≠ 11) (hk13 : k ≠ 13) (hk14 : k ≠ 14) (hk15 : k ≠ 15) (hk16 : k ≠ 16) : J m k = I m k := by
  unfold s_X9_readsInvert at h
  obtain ⟨I1, e1, h⟩ := bd_e h
  obtain ⟨v3, I2, e2, h⟩ := bd2_e h
  rcases if_e h with h | h
  · obtain ⟨o3, e3, h⟩ := bd_e h
    obtain ⟨g4, h⟩ := gd_e h
    obtain ⟨I7, e5, h⟩ := bd_e h
    obtain ⟨g6, h⟩ := gd_e h
    have h := lx_e h
    cases h
    exact ((congrFun (fr_stI (by omega)) k).trans ((congrFun (fr_X9_putsCard e5 (by omega)) k).trans ((ff_X9_readIndex e2 hk10 hk11 hk13 hk14 hk15 hk16).trans ((ff_X9_goes e1 hk13 hk14 hk15 hk16).trans rfl))))
  · cases h
    exact ((ff_X9_readIndex e2 hk10 hk11 hk13 hk14 hk15 hk16).trans ((ff_X9_goes e1 hk13 hk14 hk15 hk16).trans rfl))
noncomputable def s_X9_readsSetting (I : JI) (m : Nat) (x1 : Int32) (x2 : Int32) (x3 : Int32) : Option (JI) :=
  bd (s_X9_goes I m) fun I1 => bd2 (s_X9_readNumber I1 m x2 x3) fun v3 I2 => if (I2 m 10) = 0 then (gd (vp_in x1 2030) <| lx (stI I2 (m + 1) (Int32.toNatClampNeg x1) v3) fun I6 => some I6) else (some I2)
set_option maxHeartbeats 4000000 in
theorem c_X9_readsSetting {Ω : JO} {I : JI} {S : JS} {Q : JQ} {m : Nat} {x1 : Int32} {x2 : Int32} {x3 : Int32} {J : JI} (hm : Is9 S m) (h : s_X9_readsSetting I m x1 x2 x3 = some J) (hQ : Q (.inl none) J S) : Call Ω m_X9_readsSetting [.ref m, .int x1, .int x2, .int x3] I S Q := by
  refine call_of (by decide +kernel) rfl (Nat.le_of_ble_eq_true rfl) ?_
  change AA Ω m_X9_readsSetting (FQ Ω m_X9_readsSetting Q) 0 0 0 [(0, .ref m), (1, .int x1), (2, .int x2), (3, .int x3)] [] I S
  unfold s_X9_readsSetting at h
  refine r_aload_n (pc' := 1) dX9_readsSetting_0 rfl 0 rfl rfl ?_
  obtain ⟨I1, eI1, h⟩ := bd_e h
  refine r_callV0 (pc' := 4) (k' := 0) (n' := 0) dX9_readsSetting_1 mb_X9_goes mi_X9_goes hm.o (by decide) rfl lk_X9_124 rfl rfl rfl (Nat.le_of_ble_eq_true rfl) rfl (c_X9_goes hm eI1 (cpV ?_))
  refine r_aload_n (pc' := 5) dX9_readsSetting_4 rfl 0 rfl rfl ?_
  refine r_iload_n (pc' := 6) dX9_readsSetting_5 rfl 2 rfl rfl ?_
  refine r_iload_n (pc' := 7) dX9_readsSetting_6 rfl 3 rfl rfl ?_
  obtain ⟨v3, I2, ev3, h⟩ := bd2_e h
  refine r_callV2 (pc' := 10) (k' := 0) (n' := 0) dX9_readsSetting_7 mb_X9_readNumber mi_X9_readNumber hm.o (by decide) rfl lk_X9_174 rfl rfl rfl (Nat.le_of_ble_eq_true rfl) rfl (c_X9_readNumber hm ev3 (cpI ?_))
  refine r_istore (pc' := 12) (lv' := [(4, _), (0, _), (1, _), (2, _), (3, _)]) dX9_readsSetting_10 (by decide) rfl rfl ?_
  refine r_aload_n (pc' := 13) dX9_readsSetting_12 rfl 1 rfl rfl ?_
  refine r_getI (pc' := 16) dX9_readsSetting_13 fa_X9_68 hm.o rfl rfl ?_
  refine r_if_ne (tgt := 27) (pc' := 19) dX9_readsSetting_16 rfl rfl (fun h4 => ?_) (fun h4 => ?_)
  · have h := ifn h4 h
    cases h
    exact r_ret dX9_readsSetting_27 rfl (by decide) (by decide) hQ
  · have h := ifp h4 h
    refine r_aload_n (pc' := 20) dX9_readsSetting_19 rfl 1 rfl rfl ?_
    refine r_getO (pc' := 23) dX9_readsSetting_20 fa_X9_9 hm.o rfl hm.r1 rfl ?_
    refine r_iload_n (pc' := 24) dX9_readsSetting_23 rfl 2 rfl rfl ?_
    refine r_iload (pc' := 26) dX9_readsSetting_24 0 rfl rfl ?_
    obtain ⟨g5, h⟩ := gd_e h
    refine r_iastore (pc' := 27) dX9_readsSetting_26 hm.c1 g5 rfl ?_
    have h := lx_e h
    cases h
    exact r_ret dX9_readsSetting_27 rfl (by decide) (by decide) hQ
set_option maxHeartbeats 4000000 in
theorem fr_X9_readsSetting {I : JI} {m : Nat} {x1 : Int32} {x2 : Int32} {x3 : Int32} {J : JI} {z : Nat} (h : s_X9_readsSetting I m x1 x2 x3 = some J) (hz_m1 : z ≠ (m + 1)) (hz_m : z ≠ m) : J z = I z := by
  unfold s_X9_readsSetting at h
  obtain ⟨I1, e1, h⟩ := bd_e h
  obtain ⟨v3, I2, e2, h⟩ := bd2_e h
  rcases if_e h with h | h
  · obtain ⟨g3, h⟩ := gd_e h
    have h := lx_e h
    cases h
    exact ((fr_stI (by omega)).trans ((fr_X9_readNumber e2 (by omega)).trans ((fr_X9_goes e1 (by omega)).trans rfl)))
  · cases h
    exact ((fr_X9_readNumber e2 (by omega)).trans ((fr_X9_goes e1 (by omega)).trans rfl))
set_option maxHeartbeats 4000000 in
theorem ff_X9_readsSetting {I : JI} {m : Nat} {x1 : Int32} {x2 : Int32} {x3 : Int32} {J : JI} {k : Nat} (h : s_X9_readsSetting I m x1 x2 x3 = some J) (hk10 : k ≠ 10) (hk11 : k ≠ 11) (hk13 : k ≠ 13) (hk14 : k ≠ 14) (hk15 : k ≠ 15) (hk16 : k ≠ 16) : J m k = I m k := by
  unfold s_X9_readsSetting at h
  obtain ⟨I1, e1, h⟩ := bd_e h
  obtain ⟨v3, I2, e2, h⟩ := bd2_e h
  rcases if_e h with h | h
  · obtain ⟨g3, h⟩ := gd_e h
    have h := lx_e h
    cases h
    exact ((congrFun (fr_stI (by omega)) k).trans ((ff_X9_readNumber e2 hk10 hk11 hk13 hk14 hk15 hk16).trans ((ff_X9_goes e1 hk13 hk14 hk15 hk16).trans rfl)))
  · cases h
    exact ((ff_X9_readNumber e2 hk10 hk11 hk13 hk14 hk15 hk16).trans ((ff_X9_goes e1 hk13 hk14 hk15 hk16).trans rfl))
noncomputable def s_X9_readsMend (I : JI) (m : Nat) : Option (JI) :=
  bd (s_X9_goes I m) fun I1 => bd2 (s_X9_indexHere I1 m 2) fun v3 I2 => if (I2 m 10) = 0 then (bd (s_X9_breaks I2 m v3) fun z10 => if z10 = true then (lx (s_X9_refuses I2 m false) fun I12 => if (I12 m 10) = 0 then (bd (s_X9_putsWarp I12 m v3 2 0) fun I15 => bd (s_X9_goes I15 m) fun I16 => some I16) else (bd (s_X9_goes I12 m) fun I14 => some I14)) else (lx (s_X9_refuses I2 m true) fun I17 => if (I17 m 10) = 0 then (bd (s_X9_putsWarp I17 m v3 2 0) fun I20 => bd (s_X9_goes I20 m) fun I21 => some I21) else (bd (s_X9_goes I17 m) fun I19 => some I19))) else (lx (s_X9_refuses I2 m false) fun I5 => if (I5 m 10) = 0 then (bd (s_X9_putsWarp I5 m v3 2 0) fun I8 => bd (s_X9_goes I8 m) fun I9 => some I9) else (bd (s_X9_goes I5 m) fun I7 => some I7))
set_option maxHeartbeats 4000000 in
theorem c_X9_readsMend {Ω : JO} {I : JI} {S : JS} {Q : JQ} {m : Nat} {J : JI} (hm : Is9 S m) (h : s_X9_readsMend I m = some J) (hQ : Q (.inl none) J S) : Call Ω m_X9_readsMend [.ref m] I S Q := by
  refine call_of (by decide +kernel) rfl (Nat.le_of_ble_eq_true rfl) ?_
  change AA Ω m_X9_readsMend (FQ Ω m_X9_readsMend Q) 0 0 0 [(0, .ref m)] [] I S
  unfold s_X9_readsMend at h
  refine r_aload_n (pc' := 1) dX9_readsMend_0 rfl 0 rfl rfl ?_
  obtain ⟨I1, eI1, h⟩ := bd_e h
  refine r_callV0 (pc' := 4) (k' := 0) (n' := 0) dX9_readsMend_1 mb_X9_goes mi_X9_goes hm.o (by decide) rfl lk_X9_124 rfl rfl rfl (Nat.le_of_ble_eq_true rfl) rfl (c_X9_goes hm eI1 (cpV ?_))
  refine r_aload_n (pc' := 5) dX9_readsMend_4 rfl 0 rfl rfl ?_
  refine r_iconst (pc' := 6) (v := 2) dX9_readsMend_5 (by decide) rfl ?_
  obtain ⟨v3, I2, ev3, h⟩ := bd2_e h
  refine r_callV1 (pc' := 9) (k' := 0) (n' := 0) dX9_readsMend_6 mb_X9_indexHere mi_X9_indexHere hm.o (by decide) rfl lk_X9_127 rfl rfl rfl (Nat.le_of_ble_eq_true rfl) rfl (c_X9_indexHere hm ev3 (cpI ?_))
  refine r_istore_n (pc' := 10) (lv' := [(1, _), (0, _)]) dX9_readsMend_9 rfl (by decide) rfl rfl ?_
  refine r_aload_n (pc' := 11) dX9_readsMend_10 rfl 1 rfl rfl ?_
  refine r_aload_n (pc' := 12) dX9_readsMend_11 rfl 1 rfl rfl ?_
  refine r_getI (pc' := 15) dX9_readsMend_12 fa_X9_68 hm.o rfl rfl ?_
  refine r_if_ne (tgt := 30) (pc' := 18) dX9_readsMend_15 rfl rfl (fun h4 => ?_) (fun h4 => ?_)
  · have h := ifn h4 h
    refine r_iconst (pc' := 31) (v := 0) dX9_readsMend_30 (by decide) rfl ?_
    refine r_callV1 (pc' := 34) (k' := 0) (n' := 0) dX9_readsMend_31 mb_X9_refuses mi_X9_refuses hm.o (by decide) rfl lk_X9_138 rfl rfl rfl (Nat.le_of_ble_eq_true rfl) rfl (c_X9_refuses (b1 := false) hm rfl (cpV ?_))
    have h := lx_e h
    refine r_aload_n (pc' := 35) dX9_readsMend_34 rfl 1 rfl rfl ?_
    refine r_getI (pc' := 38) dX9_readsMend_35 fa_X9_68 hm.o rfl rfl ?_
    refine r_if_ne (tgt := 48) (pc' := 41) dX9_readsMend_38 rfl rfl (fun h6 => ?_) (fun h6 => ?_)
    · have h := ifn h6 h
      refine r_aload_n (pc' := 49) dX9_readsMend_48 rfl 1 rfl rfl ?_
      obtain ⟨I7, eI7, h⟩ := bd_e h
      refine r_callV0 (pc' := 52) (k' := 0) (n' := 0) dX9_readsMend_49 mb_X9_goes mi_X9_goes hm.o (by decide) rfl lk_X9_124 rfl rfl rfl (Nat.le_of_ble_eq_true rfl) rfl (c_X9_goes hm eI7 (cpV ?_))
      cases h
      exact r_ret dX9_readsMend_52 rfl (by decide) (by decide) hQ
    · have h := ifp h6 h
      refine r_aload_n (pc' := 42) dX9_readsMend_41 rfl 1 rfl rfl ?_
      refine r_iload_n (pc' := 43) dX9_readsMend_42 rfl 0 rfl rfl ?_
      refine r_iconst (pc' := 44) (v := 2) dX9_readsMend_43 (by decide) rfl ?_
      refine r_iconst (pc' := 45) (v := 0) dX9_readsMend_44 (by decide) rfl ?_
      obtain ⟨I8, eI8, h⟩ := bd_e h
      refine r_callV3 (pc' := 48) (k' := 0) (n' := 0) dX9_readsMend_45 mb_X9_putsWarp mi_X9_putsWarp hm.o (by decide) rfl lk_X9_134 rfl rfl rfl (Nat.le_of_ble_eq_true rfl) rfl (c_X9_putsWarp hm eI8 (cpV ?_))
      refine r_aload_n (pc' := 49) dX9_readsMend_48 rfl 1 rfl rfl ?_
      obtain ⟨I9, eI9, h⟩ := bd_e h
      refine r_callV0 (pc' := 52) (k' := 0) (n' := 0) dX9_readsMend_49 mb_X9_goes mi_X9_goes hm.o (by decide) rfl lk_X9_124 rfl rfl rfl (Nat.le_of_ble_eq_true rfl) rfl (c_X9_goes hm eI9 (cpV ?_))
      cases h
      exact r_ret dX9_readsMend_52 rfl (by decide) (by decide) hQ
  · have h := ifp h4 h
    refine r_aload_n (pc' := 19) dX9_readsMend_18 rfl 1 rfl rfl ?_
    refine r_iload_n (pc' := 20) dX9_readsMend_19 rfl 0 rfl rfl ?_
    obtain ⟨z10, ez10, h⟩ := bd_e h
    refine r_callV1 (pc' := 23) (k' := 0) (n' := 0) dX9_readsMend_20 mb_X9_breaks mi_X9_breaks hm.o (by decide) rfl lk_X9_235 rfl rfl rfl (Nat.le_of_ble_eq_true rfl) rfl (c_X9_breaks hm ez10 (cpI ?_))
    refine r_if_ne (tgt := 30) (pc' := 26) dX9_readsMend_23 rfl rfl (fun h11 => ?_) (fun h11 => ?_)
    · have h := ifp (zb_p0 h11) h
      refine r_iconst (pc' := 31) (v := 0) dX9_readsMend_30 (by decide) rfl ?_
      refine r_callV1 (pc' := 34) (k' := 0) (n' := 0) dX9_readsMend_31 mb_X9_refuses mi_X9_refuses hm.o (by decide) rfl lk_X9_138 rfl rfl rfl (Nat.le_of_ble_eq_true rfl) rfl (c_X9_refuses (b1 := false) hm rfl (cpV ?_))
      have h := lx_e h
      refine r_aload_n (pc' := 35) dX9_readsMend_34 rfl 1 rfl rfl ?_
      refine r_getI (pc' := 38) dX9_readsMend_35 fa_X9_68 hm.o rfl rfl ?_
      refine r_if_ne (tgt := 48) (pc' := 41) dX9_readsMend_38 rfl rfl (fun h13 => ?_) (fun h13 => ?_)
      · have h := ifn h13 h
        refine r_aload_n (pc' := 49) dX9_readsMend_48 rfl 1 rfl rfl ?_
        obtain ⟨I14, eI14, h⟩ := bd_e h
        refine r_callV0 (pc' := 52) (k' := 0) (n' := 0) dX9_readsMend_49 mb_X9_goes mi_X9_goes hm.o (by decide) rfl lk_X9_124 rfl rfl rfl (Nat.le_of_ble_eq_true rfl) rfl (c_X9_goes hm eI14 (cpV ?_))
        cases h
        exact r_ret dX9_readsMend_52 rfl (by decide) (by decide) hQ
      · have h := ifp h13 h
        refine r_aload_n (pc' := 42) dX9_readsMend_41 rfl 1 rfl rfl ?_
        refine r_iload_n (pc' := 43) dX9_readsMend_42 rfl 0 rfl rfl ?_
        refine r_iconst (pc' := 44) (v := 2) dX9_readsMend_43 (by decide) rfl ?_
        refine r_iconst (pc' := 45) (v := 0) dX9_readsMend_44 (by decide) rfl ?_
        obtain ⟨I15, eI15, h⟩ := bd_e h
        refine r_callV3 (pc' := 48) (k' := 0) (n' := 0) dX9_readsMend_45 mb_X9_putsWarp mi_X9_putsWarp hm.o (by decide) rfl lk_X9_134 rfl rfl rfl (Nat.le_of_ble_eq_true rfl) rfl (c_X9_putsWarp hm eI15 (cpV ?_))
        refine r_aload_n (pc' := 49) dX9_readsMend_48 rfl 1 rfl rfl ?_
        obtain ⟨I16, eI16, h⟩ := bd_e h
        refine r_callV0 (pc' := 52) (k' := 0) (n' := 0) dX9_readsMend_49 mb_X9_goes mi_X9_goes hm.o (by decide) rfl lk_X9_124 rfl rfl rfl (Nat.le_of_ble_eq_true rfl) rfl (c_X9_goes hm eI16 (cpV ?_))
        cases h
        exact r_ret dX9_readsMend_52 rfl (by decide) (by decide) hQ
    · have h := ifn (zb_n0 h11) h
      refine r_iconst (pc' := 27) (v := 1) dX9_readsMend_26 (by decide) rfl ?_
      refine r_goto (tgt := 31) dX9_readsMend_27 rfl ?_
      refine r_callV1 (pc' := 34) (k' := 0) (n' := 0) dX9_readsMend_31 mb_X9_refuses mi_X9_refuses hm.o (by decide) rfl lk_X9_138 rfl rfl rfl (Nat.le_of_ble_eq_true rfl) rfl (c_X9_refuses (b1 := true) hm rfl (cpV ?_))
      have h := lx_e h
      refine r_aload_n (pc' := 35) dX9_readsMend_34 rfl 1 rfl rfl ?_
      refine r_getI (pc' := 38) dX9_readsMend_35 fa_X9_68 hm.o rfl rfl ?_
      refine r_if_ne (tgt := 48) (pc' := 41) dX9_readsMend_38 rfl rfl (fun h18 => ?_) (fun h18 => ?_)
      · have h := ifn h18 h
        refine r_aload_n (pc' := 49) dX9_readsMend_48 rfl 1 rfl rfl ?_
        obtain ⟨I19, eI19, h⟩ := bd_e h
        refine r_callV0 (pc' := 52) (k' := 0) (n' := 0) dX9_readsMend_49 mb_X9_goes mi_X9_goes hm.o (by decide) rfl lk_X9_124 rfl rfl rfl (Nat.le_of_ble_eq_true rfl) rfl (c_X9_goes hm eI19 (cpV ?_))
        cases h
        exact r_ret dX9_readsMend_52 rfl (by decide) (by decide) hQ
      · have h := ifp h18 h
        refine r_aload_n (pc' := 42) dX9_readsMend_41 rfl 1 rfl rfl ?_
        refine r_iload_n (pc' := 43) dX9_readsMend_42 rfl 0 rfl rfl ?_
        refine r_iconst (pc' := 44) (v := 2) dX9_readsMend_43 (by decide) rfl ?_
        refine r_iconst (pc' := 45) (v := 0) dX9_readsMend_44 (by decide) rfl ?_
        obtain ⟨I20, eI20, h⟩ := bd_e h
        refine r_callV3 (pc' := 48) (k' := 0) (n' := 0) dX9_readsMend_45 mb_X9_putsWarp mi_X9_putsWarp hm.o (by decide) rfl lk_X9_134 rfl rfl rfl (Nat.le_of_ble_eq_true rfl) rfl (c_X9_putsWarp hm eI20 (cpV ?_))
        refine r_aload_n (pc' := 49) dX9_readsMend_48 rfl 1 rfl rfl ?_
        obtain ⟨I21, eI21, h⟩ := bd_e h
        refine r_callV0 (pc' := 52) (k' := 0) (n' := 0) dX9_readsMend_49 mb_X9_goes mi_X9_goes hm.o (by decide) rfl lk_X9_124 rfl rfl rfl (Nat.le_of_ble_eq_true rfl) rfl (c_X9_goes hm eI21 (cpV ?_))
        cases h
        exact r_ret dX9_readsMend_52 rfl (by decide) (by decide) hQ
set_option maxHeartbeats 4000000 in
theorem fr_X9_readsMend {I : JI} {m : Nat} {J : JI} {z : Nat} (h : s_X9_readsMend I m = some J) (hz_m1 : z ≠ (m + 1)) (hz_m : z ≠ m) : J z = I z := by
  unfold s_X9_readsMend at h
  obtain ⟨I1, e1, h⟩ := bd_e h
  obtain ⟨v3, I2, e2, h⟩ := bd2_e h
  rcases if_e h with h | h
  · obtain ⟨o3, e3, h⟩ := bd_e h
    rcases if_e h with h | h
    · have h := lx_e h
      rcases if_e h with h | h
      · obtain ⟨I15, e4, h⟩ := bd_e h
        obtain ⟨I16, e5, h⟩ := bd_e h
        cases h
        exact ((fr_X9_goes e5 (by omega)).trans ((fr_X9_putsWarp e4 (by omega)).trans ((fr_X9_refuses (by omega)).trans ((fr_X9_indexHere e2 (by omega)).trans ((fr_X9_goes e1 (by omega)).trans rfl)))))
      · obtain ⟨I14, e6, h⟩ := bd_e h
        cases h
        exact ((fr_X9_goes e6 (by omega)).trans ((fr_X9_refuses (by omega)).trans ((fr_X9_indexHere e2 (by omega)).trans ((fr_X9_goes e1 (by omega)).trans rfl))))
    · have h := lx_e h
      rcases if_e h with h | h
      · obtain ⟨I20, e7, h⟩ := bd_e h
        obtain ⟨I21, e8, h⟩ := bd_e h
        cases h
        exact ((fr_X9_goes e8 (by omega)).trans ((fr_X9_putsWarp e7 (by omega)).trans ((fr_X9_refuses (by omega)).trans ((fr_X9_indexHere e2 (by omega)).trans ((fr_X9_goes e1 (by omega)).trans rfl)))))
      · obtain ⟨I19, e9, h⟩ := bd_e h
        cases h
        exact ((fr_X9_goes e9 (by omega)).trans ((fr_X9_refuses (by omega)).trans ((fr_X9_indexHere e2 (by omega)).trans ((fr_X9_goes e1 (by omega)).trans rfl))))
  · have h := lx_e h
    rcases if_e h with h | h
    · obtain ⟨I8, e10, h⟩ := bd_e h
      obtain ⟨I9, e11, h⟩ := bd_e h
      cases h
      exact ((fr_X9_goes e11 (by omega)).trans ((fr_X9_putsWarp e10 (by omega)).trans ((fr_X9_refuses (by omega)).trans ((fr_X9_indexHere e2 (by omega)).trans ((fr_X9_goes e1 (by omega)).trans rfl)))))
    · obtain ⟨I7, e12, h⟩ := bd_e h
      cases h
      exact ((fr_X9_goes e12 (by omega)).trans ((fr_X9_refuses (by omega)).trans ((fr_X9_indexHere e2 (by omega)).trans ((fr_X9_goes e1 (by omega)).trans rfl))))
set_option maxHeartbeats 4000000 in
theorem ff_X9_readsMend {I : JI} {m : Nat} {J : JI} {k : Nat} (h : s_X9_readsMend I m = some J) (hk10 : k ≠ 10) (hk11 : k ≠ 11) (hk13 : k ≠ 13) (hk14 : k ≠ 14) (hk15 : k ≠ 15) (hk16 : k ≠ 16) : J m k = I m k := by
  unfold s_X9_readsMend at h
  obtain ⟨I1, e1, h⟩ := bd_e h
  obtain ⟨v3, I2, e2, h⟩ := bd2_e h
  rcases if_e h with h | h
  · obtain ⟨o3, e3, h⟩ := bd_e h
    rcases if_e h with h | h
    · have h := lx_e h
      rcases if_e h with h | h
      · obtain ⟨I15, e4, h⟩ := bd_e h
        obtain ⟨I16, e5, h⟩ := bd_e h
        cases h
        exact ((ff_X9_goes e5 hk13 hk14 hk15 hk16).trans ((congrFun (fr_X9_putsWarp e4 (by omega)) k).trans ((ff_X9_refuses hk10 hk11).trans ((ff_X9_indexHere e2 hk10 hk11).trans ((ff_X9_goes e1 hk13 hk14 hk15 hk16).trans rfl)))))
      · obtain ⟨I14, e6, h⟩ := bd_e h
        cases h
        exact ((ff_X9_goes e6 hk13 hk14 hk15 hk16).trans ((ff_X9_refuses hk10 hk11).trans ((ff_X9_indexHere e2 hk10 hk11).trans ((ff_X9_goes e1 hk13 hk14 hk15 hk16).trans rfl))))
    · have h := lx_e h
      rcases if_e h with h | h
      · obtain ⟨I20, e7, h⟩ := bd_e h
        obtain ⟨I21, e8, h⟩ := bd_e h
        cases h
        exact ((ff_X9_goes e8 hk13 hk14 hk15 hk16).trans ((congrFun (fr_X9_putsWarp e7 (by omega)) k).trans ((ff_X9_refuses hk10 hk11).trans ((ff_X9_indexHere e2 hk10 hk11).trans ((ff_X9_goes e1 hk13 hk14 hk15 hk16).trans rfl)))))
      · obtain ⟨I19, e9, h⟩ := bd_e h
        cases h
        exact ((ff_X9_goes e9 hk13 hk14 hk15 hk16).trans ((ff_X9_refuses hk10 hk11).trans ((ff_X9_indexHere e2 hk10 hk11).trans ((ff_X9_goes e1 hk13 hk14 hk15 hk16).trans rfl))))
  · have h := lx_e h
    rcases if_e h with h | h
    · obtain ⟨I8, e10, h⟩ := bd_e h
      obtain ⟨I9, e11, h⟩ := bd_e h
      cases h
      exact ((ff_X9_goes e11 hk13 hk14 hk15 hk16).trans ((congrFun (fr_X9_putsWarp e10 (by omega)) k).trans ((ff_X9_refuses hk10 hk11).trans ((ff_X9_indexHere e2 hk10 hk11).trans ((ff_X9_goes e1 hk13 hk14 hk15 hk16).trans rfl)))))
    · obtain ⟨I7, e12, h⟩ := bd_e h
      cases h
      exact ((ff_X9_goes e12 hk13 hk14 hk15 hk16).trans ((ff_X9_refuses hk10 hk11).trans ((ff_X9_indexHere e2 hk10 hk11).trans ((ff_X9_goes e1 hk13 hk14 hk15 hk16).trans rfl))))
