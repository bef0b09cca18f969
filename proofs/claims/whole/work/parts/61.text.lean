/-! an item, the whole text, both ways -/
theorem ascw_warp : asc "warp" ∧ "warp".toList.length = 4 := by unfold asc; decide +kernel
theorem ascw_card : asc "card" ∧ "card".toList.length = 4 := by unfold asc; decide +kernel
theorem ascw_deck : asc "deck" ∧ "deck".toList.length = 4 := by unfold asc; decide +kernel
theorem ascw_yarn : asc "yarn" ∧ "yarn".toList.length = 4 := by unfold asc; decide +kernel
theorem ascw_weave : asc "weave" ∧ "weave".toList.length = 5 := by unfold asc; decide +kernel
theorem ascw_unweave : asc "unweave" ∧ "unweave".toList.length = 7 := by unfold asc; decide +kernel
theorem ascw_swap : asc "swap" ∧ "swap".toList.length = 4 := by unfold asc; decide +kernel
theorem ascw_punch : asc "punch" ∧ "punch".toList.length = 5 := by unfold asc; decide +kernel
theorem ascw_dye : asc "dye" ∧ "dye".toList.length = 3 := by unfold asc; decide +kernel
theorem ascw_oil : asc "oil" ∧ "oil".toList.length = 3 := by unfold asc; decide +kernel
theorem ascw_invert : asc "invert" ∧ "invert".toList.length = 6 := by unfold asc; decide +kernel
theorem ascw_strain : asc "strain" ∧ "strain".toList.length = 6 := by unfold asc; decide +kernel
theorem ascw_motor : asc "motor" ∧ "motor".toList.length = 5 := by unfold asc; decide +kernel
theorem ascw_mend : asc "mend" ∧ "mend".toList.length = 4 := by unfold asc; decide +kernel
section TXT
variable {I J I0 I' J' : JI} {p P m N k y x H W C K R : Nat}
theorem it_deed (hP : p + 3 ≤ P) (h : GS I J p P m N k y x H W C K R) : ITM p P m N y (bd (s_X2_isWord I (p + 1) "unweave") fun z11 => if z11 = true then (bd2 (s_X5_readUnweave I p P) fun z48 I47 => some (z48, I47)) else (bd (s_X2_isWord I (p + 1) "swap") fun z11 => if z11 = true then (bd2 (s_X5_readSwap I p P) fun z48 I47 => some (z48, I47)) else (bd (s_X2_isWord I (p + 1) "punch") fun z11 => if z11 = true then (bd2 (s_X5_readPunch I p P) fun z48 I47 => some (z48, I47)) else (bd (s_X2_isWord I (p + 1) "dye") fun z11 => if z11 = true then (bd2 (s_X5_readDye I p P) fun z48 I47 => some (z48, I47)) else (bd (s_X2_isWord I (p + 1) "oil") fun z11 => if z11 = true then (bd2 (s_X5_readOil I p P) fun z48 I47 => some (z48, I47)) else (bd (s_X2_isWord I (p + 1) "invert") fun z11 => if z11 = true then (bd2 (s_X5_readInvert I p P) fun z48 I47 => some (z48, I47)) else (bd (s_X2_isWord I (p + 1) "strain") fun z11 => if z11 = true then (bd2 (s_X5_readStrain I p P) fun z48 I47 => some (z48, I47)) else (bd (s_X2_isWord I (p + 1) "motor") fun z11 => if z11 = true then (bd2 (s_X5_readMotor I p P) fun z48 I47 => some (z48, I47)) else (bd (s_X2_isWord I (p + 1) "mend") fun z11 => if z11 = true then (bd2 (s_X5_readMend I p P) fun z48 I47 => some (z48, I47)) else (bd2 (s_X5_fail I p P 1) fun z30 I29 => some (z30, I29))))))))))) (s_X9_readsDeed J m) := by
  unfold s_X9_readsDeed
  obtain ⟨b, u, v, w1⟩ := e_word h.1 ascw_unweave.1 ascw_unweave.2 (by omega)
  rw [u, v, bd_some, bd_some]
  cases b
  rotate_left
  · obtain ⟨b', I1, J1, a, c, o'⟩ := it_unweave hP h (by rw [(w1 rfl).1]; decide)
    rw [if_pos rfl, if_pos rfl, a, c, bd2_some, bd_some]
    exact ⟨b', I1, J1, rfl, rfl, o'⟩
  rw [if_neg Bool.false_ne_true, if_neg Bool.false_ne_true]
  clear u v w1
  obtain ⟨b, u, v, w1⟩ := e_word h.1 ascw_swap.1 ascw_swap.2 (by omega)
  rw [u, v, bd_some, bd_some]
  cases b
  rotate_left
  · obtain ⟨b', I1, J1, a, c, o'⟩ := it_swap hP h (by rw [(w1 rfl).1]; decide)
    rw [if_pos rfl, if_pos rfl, a, c, bd2_some, bd_some]
    exact ⟨b', I1, J1, rfl, rfl, o'⟩
  rw [if_neg Bool.false_ne_true, if_neg Bool.false_ne_true]
  clear u v w1
  obtain ⟨b, u, v, w1⟩ := e_word h.1 ascw_punch.1 ascw_punch.2 (by omega)
  rw [u, v, bd_some, bd_some]
  cases b
  rotate_left
  · obtain ⟨b', I1, J1, a, c, o'⟩ := it_punch hP h (by rw [(w1 rfl).1]; decide)
    rw [if_pos rfl, if_pos rfl, a, c, bd2_some, bd_some]
    exact ⟨b', I1, J1, rfl, rfl, o'⟩
  rw [if_neg Bool.false_ne_true, if_neg Bool.false_ne_true]
  clear u v w1
  obtain ⟨b, u, v, w1⟩ := e_word h.1 ascw_dye.1 ascw_dye.2 (by omega)
  rw [u, v, bd_some, bd_some]
  cases b
  rotate_left
  · obtain ⟨b', I1, J1, a, c, o'⟩ := it_dye hP h (by rw [(w1 rfl).1]; decide)
    rw [if_pos rfl, if_pos rfl, a, c, bd2_some, bd_some]
    exact ⟨b', I1, J1, rfl, rfl, o'⟩
  rw [if_neg Bool.false_ne_true, if_neg Bool.false_ne_true]
  clear u v w1
  obtain ⟨b, u, v, w1⟩ := e_word h.1 ascw_oil.1 ascw_oil.2 (by omega)
  rw [u, v, bd_some, bd_some]
  cases b
  rotate_left
  · obtain ⟨b', I1, J1, a, c, o'⟩ := it_oil hP h (by rw [(w1 rfl).1]; decide)
    rw [if_pos rfl, if_pos rfl, a, c, bd2_some, bd_some]
    exact ⟨b', I1, J1, rfl, rfl, o'⟩
  rw [if_neg Bool.false_ne_true, if_neg Bool.false_ne_true]
  clear u v w1
  obtain ⟨b, u, v, w1⟩ := e_word h.1 ascw_invert.1 ascw_invert.2 (by omega)
  rw [u, v, bd_some, bd_some]
  cases b
  rotate_left
  · obtain ⟨b', I1, J1, a, c, o'⟩ := it_invert hP h (by rw [(w1 rfl).1]; decide)
    rw [if_pos rfl, if_pos rfl, a, c, bd2_some, bd_some]
    exact ⟨b', I1, J1, rfl, rfl, o'⟩
  rw [if_neg Bool.false_ne_true, if_neg Bool.false_ne_true]
  clear u v w1
  obtain ⟨b, u, v, w1⟩ := e_word h.1 ascw_strain.1 ascw_strain.2 (by omega)
  rw [u, v, bd_some, bd_some]
  cases b
  rotate_left
  · obtain ⟨b', I1, J1, a, c, o'⟩ := it_strain hP h (by rw [(w1 rfl).1]; decide)
    rw [if_pos rfl, if_pos rfl, a, c, bd2_some, bd_some]
    exact ⟨b', I1, J1, rfl, rfl, o'⟩
  rw [if_neg Bool.false_ne_true, if_neg Bool.false_ne_true]
  clear u v w1
  obtain ⟨b, u, v, w1⟩ := e_word h.1 ascw_motor.1 ascw_motor.2 (by omega)
  rw [u, v, bd_some, bd_some]
  cases b
  rotate_left
  · obtain ⟨b', I1, J1, a, c, o'⟩ := it_motor hP h (by rw [(w1 rfl).1]; decide)
    rw [if_pos rfl, if_pos rfl, a, c, bd2_some, bd_some]
    exact ⟨b', I1, J1, rfl, rfl, o'⟩
  rw [if_neg Bool.false_ne_true, if_neg Bool.false_ne_true]
  clear u v w1
  obtain ⟨b, u, v, w1⟩ := e_word h.1 ascw_mend.1 ascw_mend.2 (by omega)
  rw [u, v, bd_some, bd_some]
  cases b
  rotate_left
  · obtain ⟨b', I1, J1, a, c, o'⟩ := it_mend hP h (by rw [(w1 rfl).1]; decide)
    rw [if_pos rfl, if_pos rfl, a, c, bd2_some, bd_some]
    exact ⟨b', I1, J1, rfl, rfl, o'⟩
  rw [if_neg Bool.false_ne_true, if_neg Bool.false_ne_true]
  clear u v w1
  obtain ⟨-, -, ⟨I4, a4, e4⟩, -⟩ := g_fail (P := P) h
  rw [a4, bd2_some, lx_s]
  exact ITM_er rfl rfl e4
theorem it_item (hP : p + 3 ≤ P) (h : GS I J p P m N k y x H W C K R) : ITM p P m N y (s_X5_readItem I p P) (s_X9_readsItem J m) := by
  unfold s_X5_readItem s_X9_readsItem
  obtain ⟨b, u, v, w1⟩ := e_word h.1 ascw_warp.1 ascw_warp.2 (by omega)
  rw [u, v, bd_some, bd_some]
  cases b
  rotate_left
  · obtain ⟨b', I1, J1, a, c, o'⟩ := it_warp hP h (by rw [(w1 rfl).1]; decide)
    rw [if_pos rfl, if_pos rfl, a, c, bd2_some, bd_some]
    exact ⟨b', I1, J1, rfl, rfl, o'⟩
  rw [if_neg Bool.false_ne_true, if_neg Bool.false_ne_true]
  clear u v w1
  obtain ⟨b, u, v, w1⟩ := e_word h.1 ascw_card.1 ascw_card.2 (by omega)
  rw [u, v, bd_some, bd_some]
  cases b
  rotate_left
  · obtain ⟨b', I1, J1, a, c, o'⟩ := it_card hP h (by rw [(w1 rfl).1]; decide)
    rw [if_pos rfl, if_pos rfl, a, c, bd2_some, bd_some]
    exact ⟨b', I1, J1, rfl, rfl, o'⟩
  rw [if_neg Bool.false_ne_true, if_neg Bool.false_ne_true]
  clear u v w1
  obtain ⟨b, u, v, w1⟩ := e_word h.1 ascw_deck.1 ascw_deck.2 (by omega)
  rw [u, v, bd_some, bd_some]
  cases b
  rotate_left
  · obtain ⟨b', I1, J1, a, c, o'⟩ := it_deck hP h (by rw [(w1 rfl).1]; decide)
    rw [if_pos rfl, if_pos rfl, a, c, bd2_some, bd_some]
    exact ⟨b', I1, J1, rfl, rfl, o'⟩
  rw [if_neg Bool.false_ne_true, if_neg Bool.false_ne_true]
  clear u v w1
  obtain ⟨b, u, v, w1⟩ := e_word h.1 ascw_yarn.1 ascw_yarn.2 (by omega)
  rw [u, v, bd_some, bd_some]
  cases b
  rotate_left
  · obtain ⟨b', I1, J1, a, c, o'⟩ := it_yarn hP h (by rw [(w1 rfl).1]; decide)
    rw [if_pos rfl, if_pos rfl, a, c, bd2_some, bd_some]
    exact ⟨b', I1, J1, rfl, rfl, o'⟩
  rw [if_neg Bool.false_ne_true, if_neg Bool.false_ne_true]
  clear u v w1
  obtain ⟨b, u, v, w1⟩ := e_word h.1 ascw_weave.1 ascw_weave.2 (by omega)
  rw [u, v, bd_some, bd_some]
  cases b
  rotate_left
  · obtain ⟨b', I1, J1, a, c, o'⟩ := it_weave hP h (by rw [(w1 rfl).1]; decide)
    rw [if_pos rfl, if_pos rfl, a, c, bd2_some, bd_some]
    exact ⟨b', I1, J1, rfl, rfl, o'⟩
  rw [if_neg Bool.false_ne_true, if_neg Bool.false_ne_true]
  clear u v w1
  obtain ⟨b', I1, J1, a, c, o'⟩ := it_deed hP h
  rw [c, bd_some]
  exact ⟨b', I1, J1, a, rfl, o'⟩
theorem l_text (hP : p + 3 ≤ P) (q1 : Int32) : ∀ (D f f' j : Nat) (I J : JI) (k y x H W C K R : Nat), N - y < D → D ≤ f → D ≤ f' → GS I J p P m N k y x H W C K R → j + 1 ≤ y → ∃ o J', s_X5_parse_L44 p P q1 f (nI j) I = some o ∧ s_X9_readsText_L50 m f' J = some J' ∧ ((∃ w I' y' x' H W C K R, o = .inr (w, I') ∧ GS I' J' p P m N 0 y' x' H W C K R) ∨ (∃ I', o = .inl (false, I') ∧ s_X9_is J' m 1 = false ∧ ER I' (s_X9_faults J' m 1) p m)) := by
  intro D
  induction D with
  | zero => intro f f' j I J k y x H W C K R h; omega
  | succ D ih =>
    intro f f' j I J k y x H W C K R hd hf hf' h hj
    obtain ⟨f, rfl⟩ : ∃ g, f = g + 1 := ⟨f - 1, by omega⟩
    obtain ⟨f', rfl⟩ : ∃ g, f' = g + 1 := ⟨f' - 1, by omega⟩
    have hb := h.1.b
    rw [s_X5_parse_L44, s_X9_readsText_L50, is_semi h.1]
    by_cases hk0 : k = 0
    · subst hk0
      rw [show decide (0 = 3) = false from rfl, if_neg Bool.false_ne_true]
      by_cases h5 : (500 : Int32) ≤ nI j
      · rw [if_pos h5]
        exact ⟨_, _, rfl, rfl, Or.inl ⟨_, _, y, x, H, W, C, K, R, rfl, h⟩⟩
      · rw [if_neg h5, if_pos (show I (p + 1) 4 = 0 from (kind_iff h.1 (q := 0) (by omega)).mpr rfl)]
        exact ⟨_, _, rfl, rfl, Or.inl ⟨_, _, y, x, H, W, C, K, R, rfl, h⟩⟩
    · have hyx := h.1.lt hk0
      rw [if_neg (show ¬ (500 : Int32) ≤ nI j from nI_ge (b := 500) (by omega) (by omega)), if_neg (show ¬ I (p + 1) 4 = 0 from fun q => hk0 ((kind_iff h.1 (q := 0) (by omega)).mp q))]
      by_cases hk3 : k = 3
      · obtain ⟨I1, J1, k1, y1, x1, a1, b1, g1, l1, -⟩ := g_adv hP h hk0
        rw [if_pos (show I (p + 1) 4 = 3 from (kind_iff h.1 (q := 3) (by omega)).mpr hk3), decide_eq_true hk3, if_pos rfl, a1, b1, bd_some, bd_some]
        obtain ⟨b, I2, J2, a2, b2, o2⟩ := it_item hP g1
        rw [a2, b2, bd2_some, bd_some]
        rcases o2 with ⟨rfl, k2, y2, x2, H2, W2, C2, K2, R2, g2, l2⟩ | ⟨rfl, e2⟩
        · rw [if_pos rfl, nI_1]
          have hb2 := g2.1.b
          exact ih f f' (j + 1) I2 J2 k2 y2 x2 H2 W2 C2 K2 R2 (by omega) (by omega) (by omega) g2 (by omega)
        · obtain ⟨f', rfl⟩ : ∃ g, f' = g + 1 := ⟨f' - 1, by omega⟩
          rw [if_neg Bool.false_ne_true, s_X9_readsText_L50, er_is e2.em, if_neg Bool.false_ne_true]
          exact ⟨_, _, rfl, rfl, Or.inr ⟨I2, rfl, er_is e2.em 1, by rw [er_faults e2.em]; exact e2⟩⟩
      · obtain ⟨-, -, ⟨I4, a4, e4⟩, -⟩ := g_fail (P := P) h
        rw [if_neg (show ¬ I (p + 1) 4 = 3 from fun q => hk3 ((kind_iff h.1 (q := 3) (by omega)).mp q)), decide_eq_false hk3, if_neg Bool.false_ne_true, a4, bd2_some]
        exact ⟨_, _, rfl, rfl, Or.inr ⟨I4, rfl, by rw [is_end h.1, decide_eq_false hk0], e4⟩⟩
/-- what stands after the header -/
noncomputable def mT3 (m : Nat) (J : JI) : Option JI := bd (s_X9_readsText_L50 m lf J) fun I16 => if (s_X9_is I16 m 1) = true then (gd (vp_in 2 2030) <| if (I16 (m + 1) (Int32.toNatClampNeg 2)) = 0 then (lx (s_X9_limits I16 m true) fun I22 => some I22) else (lx (s_X9_limits I16 m false) fun I21 => some I21)) else (lx (s_X9_faults I16 m 1) fun I23 => gd (vp_in 2 2030) <| if (I23 (m + 1) (Int32.toNatClampNeg 2)) = 0 then (lx (s_X9_limits I23 m true) fun I27 => some I27) else (lx (s_X9_limits I23 m false) fun I26 => some I26))
noncomputable def mHd (m : Nat) (J : JI) : Option JI := bd (s_X9_goes J m) fun I4 => bd2 (s_X9_readNumber I4 m 2 8) fun v6 I5 => gd (vp_in 0 2030) <| lx (stI I5 (m + 1) (Int32.toNatClampNeg 0) v6) fun I8 => bd2 (s_X9_readNumber I8 m 1 200) fun v10 I9 => gd (vp_in 1 2030) <| lx (stI I9 (m + 1) (Int32.toNatClampNeg 1) v10) fun I12 => mT3 m I12
theorem text_eq : s_X9_readsText J m = bd (s_X9_goes J m) fun I1 => bd (s_X9_isWord I1 m "loom") fun z2 => if z2 = true then mHd m I1 else (lx (s_X9_faults I1 m 1) fun I28 => mHd m I28) := rfl
theorem ER_dep (e : ER I J p m) (j0 : J' m = J m) : ER I J' p m := by
  obtain ⟨ec, e1, e2, e3, e4, e5⟩ := e
  exact ⟨ec, e1, e2, by rw [j0]; exact e3, by rw [j0]; exact e4, e5⟩
theorem er_T3 (h : EM J m) : mT3 m J = some J := by
  unfold mT3
  rw [show lf = 19999 + 1 from rfl, s_X9_readsText_L50, er_is h, if_neg Bool.false_ne_true, bd_some, er_is h, if_neg Bool.false_ne_true, lx_s, er_faults h, gl2]
  by_cases q : J (m + 1) (Int32.toNatClampNeg 2) = 0
  · rw [if_pos q, lx_s, er_limits h]
  · rw [if_neg q, lx_s, er_limits h]
theorem er_T2 {v : Int32} (h : ER I J p m) : ∃ J', (bd2 (s_X9_readNumber (stI J (m + 1) 0 v) m 1 200) fun v10 I9 => gd (vp_in 1 2030) <| lx (stI I9 (m + 1) (Int32.toNatClampNeg 1) v10) fun I12 => mT3 m I12) = some J' ∧ ER I J' p m := by
  have e1 : ER I (stI J (m + 1) 0 v) p m := ER_dep h (stI_ne (by omega))
  have e2 : ER I (stI (stI J (m + 1) 0 v) (m + 1) 1 1) p m := ER_dep e1 (stI_ne (by omega))
  refine ⟨_, ?_, e2⟩
  rw [er_readNumber e1.em, bd2_some, gl1, cl1, lx_s, er_T3 e2.em]
theorem er_Hd (h : ER I J p m) : ∃ J', mHd m J = some J' ∧ ER I J' p m := by
  unfold mHd
  rw [er_goes h.em, bd_some, er_readNumber h.em, bd2_some, gl0, cl0, lx_s]
  exact er_T2 h
theorem KR_blank (hH : H ≤ 8) (c0 : I P 0 = nI H) (c1 : I P 1 = J (m + 1) 1) (c2 : I P 2 = 0 ∧ I P 3 = 24 ∧ I P 4 = 0 ∧ I P 7 = 0) (d : I (P + 5) 1 = 0 ∧ I (P + 5) 3 = 0 ∧ I (P + 5) 4 = 0 ∧ I (P + 5) 7 = 0) (s : I (P + 10) 0 = 0 ∧ I (P + 10) 1 = 0 ∧ I (P + 10) 2 = 0 ∧ I (P + 10) 3 = 0 ∧ I (P + 10) 4 = 0 ∧ I (P + 10) 5 = 0) (s1 : ∀ j, j < 8 → I (P + 10 + 1) j = 0) (s2 : ∀ j, j < 6 → I (P + 10 + 2) j = 0) (f0 : J (m + 1) 0 = nI H) (f : ∀ j, 2 ≤ j → j < 2030 → J (m + 1) j = if j = 12 then 24 else 0) : KR I P (P + 10) (J (m + 1)) H 0 0 0 0 := by
  obtain ⟨a2, a3, a4, a7⟩ := c2
  obtain ⟨d1, d3, d4, d7⟩ := d
  obtain ⟨t0, t1, t2, t3, t4, t5⟩ := s
  have g : ∀ j, 2 ≤ j → j < 2030 → j ≠ 12 → J (m + 1) j = 0 := fun j h1 h2 h3 => by rw [f j h1 h2, if_neg h3]
  refine ⟨⟨⟨c0, hH⟩, ⟨a4, by omega⟩, ⟨a7, by omega⟩, ⟨d3, by omega⟩, ⟨0, by omega, a2⟩, ⟨24, by omega, a3⟩, fun w hw => absurd hw (Nat.not_lt_zero w), fun w hw => absurd hw (Nat.not_lt_zero w), fun w hw => absurd hw (Nat.not_lt_zero w), fun w hw => absurd hw (Nat.not_lt_zero w)⟩, ⟨⟨by rw [f0, c0], by rw [c1], by rw [g 2 (by omega) (by omega) (by omega), a4], by rw [g 3 (by omega) (by omega) (by omega), a7], by rw [g 4 (by omega) (by omega) (by omega), d3], by rw [g 7 (by omega) (by omega) (by omega), d4], by rw [g 11 (by omega) (by omega) (by omega), a2], by rw [f 12 (by omega) (by omega), if_pos rfl, a3]⟩, fun w hw => absurd hw (Nat.not_lt_zero w), fun w hw => absurd hw (Nat.not_lt_zero w), fun w hw => absurd hw (Nat.not_lt_zero w), ⟨0, ⟨by omega, Nat.zero_le _⟩, d1, g 6 (by omega) (by omega) (by omega), fun w hw => absurd hw (Nat.not_lt_zero w)⟩⟩, ⟨by rw [t0]; exact LB.zero H, by rw [t1]; exact LB.zero H, by rw [t2]; exact LB.zero 0, ⟨t3, by omega, fun q => absurd q (Nat.lt_irrefl 0)⟩, Or.inl t5, fun w hw => absurd hw (Nat.not_lt_zero w), fun w hw => absurd hw (Nat.not_lt_zero w)⟩, by rw [g 5 (by omega) (by omega) (by omega), t3], by rw [g 10 (by omega) (by omega) (by omega), t4], ⟨fun _ => ⟨g 8 (by omega) (by omega) (by omega), g 9 (by omega) (by omega) (by omega), g 13 (by omega) (by omega) (by omega)⟩, fun _ => t5⟩, fun w hw => ?_, fun w hw => absurd hw (Nat.not_lt_zero w), fun w hw => ?_, fun w hw => absurd hw (Nat.not_lt_zero w), fun w hw => absurd hw (Nat.not_lt_zero w)⟩
  · rw [g _ (by omega) (by omega) (by omega), g _ (by omega) (by omega) (by omega), g _ (by omega) (by omega) (by omega), t0, t1, s1 w (by omega), bt_zero]
    exact ⟨rfl, rfl, rfl⟩
  · rw [g _ (by omega) (by omega) (by omega), s2 w hw]
/-- the cleared loom and the cleared block -/
def BLK (I J : JI) (P m : Nat) : Prop := (I P 2 = 0 ∧ I P 3 = 24 ∧ I P 4 = 0 ∧ I P 7 = 0) ∧ (I (P + 5) 1 = 0 ∧ I (P + 5) 3 = 0 ∧ I (P + 5) 4 = 0 ∧ I (P + 5) 7 = 0) ∧ (I (P + 10) 0 = 0 ∧ I (P + 10) 1 = 0 ∧ I (P + 10) 2 = 0 ∧ I (P + 10) 3 = 0 ∧ I (P + 10) 4 = 0 ∧ I (P + 10) 5 = 0) ∧ (∀ j, j < 8 → I (P + 10 + 1) j = 0) ∧ (∀ j, j < 6 → I (P + 10 + 2) j = 0) ∧ ∀ j, 2 ≤ j → j < 2030 → J (m + 1) j = if j = 12 then 24 else 0
theorem BLK_dep (h : BLK I J P m) (e0 : ∀ j, 2 ≤ j → I' P j = I P j) (e : ∀ j, 1 ≤ j → j < 24 → I' (P + j) = I (P + j)) (f : ∀ j, 2 ≤ j → J' (m + 1) j = J (m + 1) j) : BLK I' J' P m := by
  obtain ⟨⟨a2, a3, a4, a7⟩, d, s, s1, s2, g⟩ := h
  refine ⟨⟨by rw [e0 2 (by omega)]; exact a2, by rw [e0 3 (by omega)]; exact a3, by rw [e0 4 (by omega)]; exact a4, by rw [e0 7 (by omega)]; exact a7⟩, ?_, ?_, ?_, ?_, fun j h1 h2 => by rw [f j h1]; exact g j h1 h2⟩
  · rw [e 5 (by omega) (by omega)]; exact d
  · rw [e 10 (by omega) (by omega)]; exact s
  · rw [show P + 10 + 1 = P + 11 from rfl, e 11 (by omega) (by omega)]; exact s1
  · rw [show P + 10 + 2 = P + 12 from rfl, e 12 (by omega) (by omega)]; exact s2
/-- the whole text -/
theorem e_text (hP : p + 3 ≤ P) (ht : TKp I J (p + 1) m N 0) (hc : CT I J p m) (hb : BLK I J P m) (q1 : Int32) : (∃ I' J' y x H W C K R, (bd (s_X2_advance I (p + 1)) fun I5 => bd2 (s_X5_readHeader I5 p P) fun z7 I6 => if z7 = true then (bl (s_X5_parse_L44 p P q1 lf 0 I6) fun (y18, I19) => if 0 < (I19 P 4) then (some (true, I19)) else (bd2 (s_X5_fail I19 p P 4) fun z23 I22 => if z23 = true then (some (true, I22)) else (some (false, I22)))) else (some (false, I6))) = some (true, I') ∧ s_X9_readsText J m = some J' ∧ GS I' J' p P m N 0 y x H W C K R ∧ 0 < W) ∨ (∃ I' J', (bd (s_X2_advance I (p + 1)) fun I5 => bd2 (s_X5_readHeader I5 p P) fun z7 I6 => if z7 = true then (bl (s_X5_parse_L44 p P q1 lf 0 I6) fun (y18, I19) => if 0 < (I19 P 4) then (some (true, I19)) else (bd2 (s_X5_fail I19 p P 4) fun z23 I22 => if z23 = true then (some (true, I22)) else (some (false, I22)))) else (some (false, I6))) = some (false, I') ∧ s_X9_readsText J m = some J' ∧ ER I' J' p m) := by
  obtain ⟨I1, J1, k1, y1, x1, a1, b1, t1, -⟩ := e_adv0 ht hc.2.2.1
  have ep : I1 p = I p := fr_X2_advance a1 (by omega)
  have fm : ∀ j, j ≠ 13 → j ≠ 14 → j ≠ 15 → j ≠ 16 → J1 m j = J m j := fun j h1 h2 h3 h4 => ff_X9_goes b1 h1 h2 h3 h4
  have ts1 : TS I1 J1 p m N k1 y1 x1 := ⟨t1, by rw [ep]; exact hc.1, by rw [ep]; exact hc.2.1, by rw [fm 10 (by decide) (by decide) (by decide) (by decide)]; exact hc.2.2.1, by rw [fm 11 (by decide) (by decide) (by decide) (by decide)]; exact hc.2.2.2.1, (adv_size a1).trans hc.2.2.2.2⟩
  have bl1 : BLK I1 J1 P m := BLK_dep hb (fun j _ => by rw [fr_X2_advance a1 (by omega)]) (fun j _ _ => fr_X2_advance a1 (by omega)) (fun j _ => by rw [fr_X9_goes b1 (by omega)])
  rw [text_eq, a1, b1, bd_some, bd_some]
  unfold s_X5_readHeader
  obtain ⟨b, u, v, w1⟩ := e_word ts1 asc_loom.1 asc_loom.2 (by omega)
  rw [u, v, bd_some, bd_some]
  cases b
  · obtain ⟨I4, a4, e4⟩ := e_fail (P := P) ts1 (e := 1) (by omega)
    obtain ⟨J5, b5, e5⟩ := er_Hd e4
    right
    refine ⟨I4, J5, ?_, ?_, e5⟩
    · rw [if_neg Bool.false_ne_true, show s_X5_fail I1 p P 1 = _ from a4, bd2_some, bd2_some, if_neg Bool.false_ne_true]
    · rw [if_neg Bool.false_ne_true, lx_s]; exact b5
  · obtain ⟨hk1, hx1⟩ := w1 rfl
    rw [if_pos rfl, if_pos rfl]
    obtain ⟨I2, J2, a2, b2, ⟨k2, y2, x2, t2, l2, -, f2, f2'⟩, -⟩ := e_adv ts1
    have bl2 : BLK I2 J2 P m := BLK_dep bl1 (fun j _ => by rw [f2 _ (by omega) (by omega)]) (fun j _ _ => f2 _ (by omega) (by omega)) (fun j _ => by rw [f2' _ (by omega)])
    unfold mHd
    rw [a2, b2, bd_some, bd_some]
    rcases e_take (P := P) t2 (lo := 2) (hi := 8) with ⟨v1, I3, J3, hk2, v2, v3, v4, v5, a3, b3, n3, k3, y3, x3, t3, l3, -, f3, f3'⟩ | ⟨I3, J3, a3, b3, e3⟩
    · have hy2 := t2.lt (by omega)
      have hv8 : v1 ≤ 8 := (nI_leL (n := 8) (by omega) (by omega)).mp v5
      rw [a3, b3, bd2_some, bd2_some, if_pos rfl, gl0, cl0, lx_s (stI I3 P 0 _), lx_s (stI J3 (m + 1) 0 _), n3]
      have t4 : TS (stI I3 P 0 (nI v1)) (stI J3 (m + 1) 0 (nI v1)) p m N k3 y3 x3 := TS_dep t3 (stI_ne (by omega)) (stI_ne (by omega)) (stI_ne (by omega)) (stI_ne (by omega)) (stI_ne (by omega))
      have bl4 : BLK (stI I3 P 0 (nI v1)) (stI J3 (m + 1) 0 (nI v1)) P m := BLK_dep bl2 (fun j hj => by rw [stI_aj (by omega), f3 _ (by omega) (by omega)]) (fun j _ _ => by rw [stI_ne (by omega), f3 _ (by omega) (by omega)]) (fun j hj => by rw [stI_aj (by omega), f3' _ (by omega)])
      rcases e_take (P := P) t4 (lo := 1) (hi := 200) with ⟨v6, I5, J5, hk3, v7, v8, v9, v10, a5, b5, n5, k5, y5, x5, t5, l5, -, f5, f5'⟩ | ⟨I5, J5, a5, b5, e5⟩
      · have hy3 := t4.lt (by omega)
        rw [a5, b5, bd2_some, bd2_some, if_pos rfl, gl1, cl1, lx_s (stI I5 P 1 _), lx_s (stI J5 (m + 1) 1 _), n5, bd2_some, if_pos rfl]
        have t6 : TS (stI I5 P 1 (nI v6)) (stI J5 (m + 1) 1 (nI v6)) p m N k5 y5 x5 := TS_dep t5 (stI_ne (by omega)) (stI_ne (by omega)) (stI_ne (by omega)) (stI_ne (by omega)) (stI_ne (by omega))
        have bl6 : BLK (stI I5 P 1 (nI v6)) (stI J5 (m + 1) 1 (nI v6)) P m := BLK_dep bl4 (fun j hj => by rw [stI_aj (by omega), f5 _ (by omega) (by omega)]) (fun j _ _ => by rw [stI_ne (by omega), f5 _ (by omega) (by omega)]) (fun j hj => by rw [stI_aj (by omega), f5' _ (by omega)])
        have g6 : GS (stI I5 P 1 (nI v6)) (stI J5 (m + 1) 1 (nI v6)) p P m N k5 y5 x5 v1 0 0 0 0 := by
          refine ⟨t6, ?_, bl6.2.1.2.2.2, 0, bl6.2.1.1, ?_, by omega⟩
          · obtain ⟨q1, q2, q3, q4, q5, q6⟩ := bl6
            refine KR_blank hv8 ?_ ?_ q1 q2 q3 q4 q5 ?_ q6
            · rw [stI_aj (by decide), f5 _ (by omega) (by omega), stI_at]
            · rw [stI_at, stI_at]
            · rw [stI_aj (by decide), f5' _ (by omega), stI_at]
          · show 0 + 1 ≤ _
            omega
        have hb6 := g6.1.b
        obtain ⟨o, J7, o1, o2, o3⟩ := l_text hP q1 (N - y5 + 1) lf lf 0 _ _ k5 y5 x5 v1 0 0 0 0 (by omega) (by unfold lf; omega) (by unfold lf; omega) g6 (by omega)
        have o1' : s_X5_parse_L44 p P q1 lf 0 (stI I5 P 1 (nI v6)) = some o := o1
        unfold mT3
        rw [o1', o2, bd_some]
        rcases o3 with ⟨w, I7, y7, x7, H, W, C, K, R, rfl, g7⟩ | ⟨I7, rfl, e7, e8⟩
        · have hW := g7.2.1.g.2.2.1
          rw [bl_inr, is_end g7.1, show decide (0 = 0) = true from rfl, if_pos rfl, gl2, cl2, g7.2.1.g.1.2.1]
          show (∃ I' J' y x H W C K R, (if 0 < I7 P 4 then _ else _) = some (true, I') ∧ _ ∧ _ ∧ _) ∨ (∃ I' J', (if 0 < I7 P 4 then _ else _) = some (false, I') ∧ _ ∧ _)
          rw [g7.2.1.c.2.1]
          obtain ⟨-, ⟨I8, a8, e8⟩, -, -, r8⟩ := g_fail (P := P) g7
          by_cases hW0 : W = 0
          · subst hW0
            right
            refine ⟨I8, _, ?_, ?_, e8⟩
            · rw [if_neg (show ¬ (0 : Int32) < nI 0 by decide), a8, bd2_some, if_neg Bool.false_ne_true]
            · rw [if_pos (show nI 0 = 0 from rfl), lx_s]
          · left
            refine ⟨I7, J7, y7, x7, H, W, C, K, R, ?_, ?_, g7, by omega⟩
            · rw [if_pos (nI_p0 (by omega) (by omega))]
            · rw [if_neg (nI_ne0 (by omega) (by omega)), lx_s, r8]
        · right
          refine ⟨I7, s_X9_faults J7 m 1, ?_, ?_, e8⟩
          · rw [bl_inl]
          · rw [e7, if_neg Bool.false_ne_true, lx_s (s_X9_faults J7 m 1), gl2]
            by_cases q : s_X9_faults J7 m 1 (m + 1) (Int32.toNatClampNeg 2) = 0
            · rw [if_pos q, lx_s, er_limits e8.em]
            · rw [if_neg q, lx_s, er_limits e8.em]
      · right
        have e6 : ER I5 (stI J5 (m + 1) 1 1) p m := ER_dep e5 (stI_ne (by omega))
        refine ⟨I5, _, ?_, ?_, e6⟩
        · rw [a5, bd2_some, if_neg Bool.false_ne_true, bd2_some, if_neg Bool.false_ne_true]
        · rw [b5, bd2_some, gl1, cl1, lx_s, er_T3 e6.em]
    · right
      obtain ⟨J5, b5, e5⟩ := er_T2 (v := 2) e3
      refine ⟨I3, J5, ?_, ?_, e5⟩
      · rw [a3, bd2_some, if_neg Bool.false_ne_true, bd2_some, if_neg Bool.false_ne_true]
      · rw [b3, bd2_some, gl0, cl0, lx_s]; exact b5
end TXT
