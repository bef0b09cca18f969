/-! warps and cards of a setup -/
section ITC
variable {I J I' J' : JI} {p P m N k y x H W C K R y0 : Nat}
theorem a_putw0 {w : Nat} {v : Int32} (hw : w < 24) : s_X9_putsWarp J m (nI w) 0 v = some (stI J (m + 1) (38 + 3 * w) v) := a_putsWarp (k := 0) hw (by decide)
theorem a_putw1 {w : Nat} {v : Int32} (hw : w < 24) : s_X9_putsWarp J m (nI w) 1 v = some (stI J (m + 1) (39 + 3 * w) v) := by
  rw [show (1 : Int32) = nI 1 from rfl, a_putsWarp hw (show 1 < 3 by decide), show 38 + 3 * w + 1 = 39 + 3 * w by omega]
theorem a_putw2 {w : Nat} {v : Int32} (hw : w < 24) : s_X9_putsWarp J m (nI w) 2 v = some (stI J (m + 1) (40 + 3 * w) v) := by
  rw [show (2 : Int32) = nI 2 from rfl, a_putsWarp hw (show 2 < 3 by decide), show 38 + 3 * w + 2 = 40 + 3 * w by omega]
theorem er_addsWarp (h : EM J m) (c : Int32) : s_X9_addsWarp J m c = some J := by
  unfold s_X9_addsWarp
  rw [er_i0 h, bd2_some, gl2]
  by_cases e : J (m + 1) (Int32.toNatClampNeg 2) = 24
  · rw [if_pos e, lx_s, er_limits h, if_neg h.le]
  · rw [if_neg e, lx_s, er_limits h, if_neg h.le]
theorem er_warpL (h : EM J m) (c : Int32) : s_X9_readsWarp_L27 m c lf J = some J := by
  rw [show lf = 19999 + 1 from rfl, s_X9_readsWarp_L27, er_addsWarp h, bd_some, er_is h, if_neg Bool.false_ne_true]
theorem er_cardL (h : EM J m) (c w : Int32) (f : Nat) : s_X9_readsCard_L31 m c (f + 1) w J = some (w, J) := by
  rw [s_X9_readsCard_L31, er_is h, if_neg Bool.false_ne_true]
theorem l_warps (hP : p + 3 ≤ P) {q : Nat} (hq : q < 6) : ∀ (d f f' j : Nat) (I J : JI) (k y x W : Nat), N - y < d → d ≤ f → d ≤ f' → GS I J p P m N k y x H W C K 0 → (j = 0 ∨ k = 2) → j ≤ y → j < 500 → ∃ o J', s_X5_readWarps_L42 p P (nI q) f (nI j) I = some o ∧ s_X9_readsWarp_L27 m (nI q) f' J = some J' ∧ ((∃ w I' k' y' x' W', o = .inr (w, I') ∧ GS I' J' p P m N k' y' x' H W' C K 0 ∧ y ≤ y') ∨ (∃ I', o = .inl (false, I') ∧ ER I' J' p m)) := by
  intro d
  induction d with
  | zero => intro f f' j I J k y x W h; omega
  | succ d ih =>
    intro f f' j I J k y x W hd hf hf' h hj hjy hj5
    obtain ⟨f, rfl⟩ : ∃ g, f = g + 1 := ⟨f - 1, by omega⟩
    obtain ⟨f', rfl⟩ : ∃ g, f' = g + 1 := ⟨f' - 1, by omega⟩
    have step : s_X5_readWarps_L42 p P (nI q) (f + 1) (nI j) I = (bd2 (s_X5_seeHarness I p P) fun z9 I8 => if z9 = true then (lx (x3_addWarpB I8 P) fun z12 => lx (x3_addWarp I8 P (I8 p 4) (nI q)) fun I11 => if z12 = true then (bd (s_X2_advance I11 (p + 1)) fun I14 => s_X5_readWarps_L42 p P (nI q) f ((nI j) + 1) I14) else (bd2 (s_X5_fail I11 p P 4) fun z16 I15 => some (.inl (z16, I15)))) else (some (.inl (false, I8)))) := by
      rw [s_X5_readWarps_L42, if_neg (show ¬ (500 : Int32) ≤ nI j from nI_ge (b := 500) hj5 (by omega))]
      by_cases e : nI j = 0
      · rw [if_pos e]
      · rcases hj with rfl | hk
        · exact absurd rfl e
        · rw [if_neg e, if_pos (show I (p + 1) 4 = 2 from (kind_iff h.1 (q := 2) (by omega)).mpr hk)]
    rw [step, s_X9_readsWarp_L27]
    rcases (g_see hP h).1 with ⟨v, v0, hk, a, b, g⟩ | ⟨I1, J1, a, b, e⟩
    · have hyx := g.1.lt (by omega)
      have hb := g.1.b
      obtain ⟨⟨g0, g2, g3, g4, g5⟩, b1, b2, b3, b4, b5, b6⟩ := g.2.1.g
      obtain ⟨c0, c4, c7, c3, cs⟩ := g.2.1.c
      rw [a, bd2_some, if_pos rfl, stI_at]
      unfold s_X9_addsWarp
      rw [b, bd2_some, gl2, cl2, g2, lx_s (x3_addWarpB _ P), lx_s (x3_addWarp _ P _ _)]
      by_cases hW : W = 24
      · obtain ⟨-, ⟨I4, a4, e4⟩, -⟩ := g_fail (P := P) g
        have hB : x3_addWarpB (stI I p 4 (nI v)) P = false := by
          unfold x3_addWarpB
          rw [c4, hW]; rfl
        have hA : x3_addWarp (stI I p 4 (nI v)) P (nI v) (nI q) = stI I p 4 (nI v) := by
          unfold x3_addWarp
          rw [hB, if_neg Bool.false_ne_true]
        rw [hB, hA, if_neg Bool.false_ne_true, a4, bd2_some, if_pos (show nI W = 24 by rw [hW]; rfl), lx_s, if_neg e4.em.le, bd_some, er_is e4.em, if_neg Bool.false_ne_true]
        exact ⟨_, _, rfl, rfl, Or.inr ⟨I4, rfl, e4⟩⟩
      · have hW24 : W < 24 := by omega
        obtain ⟨-, -, -, -, r4⟩ := g_fail (P := P) g
        have hB : x3_addWarpB (stI I p 4 (nI v)) P = true := by
          unfold x3_addWarpB
          rw [c4]; exact decide_eq_true (nI_lt (b := 24) hW24 (by omega))
        have hA : x3_addWarp (stI I p 4 (nI v)) P (nI v) (nI q) = stI (stI (stI (stI I p 4 (nI v)) (P + 1) W (nI v)) (P + 2) W (nI q)) P 4 (nI (W + 1)) := by
          unfold x3_addWarp
          rw [hB, if_pos rfl, c4, ptI_nI hW24 (by omega), stI_ne (show P ≠ P + 1 by omega), c4, ptI_nI hW24 (by omega), stI_ne (show P ≠ P + 2 by omega), stI_ne (show P ≠ P + 1 by omega), c4, nI_1]
        rw [hB, hA, if_pos rfl, if_neg (show ¬ nI W = 24 from fun e => hW ((nI_eq (b := 24) (by omega) (by omega)).mp e)), lx_s, r4, if_pos (show J m 10 ≤ 0 by rw [g_c10 g]; exact Int32.le_refl 0), gl2, g2, a_putw0 hW24, bd_some, gl2, stI_aj (show 2 ≠ 38 + 3 * W by omega), g2, a_putw1 hW24, bd_some, gl2, stI_aj (show 2 ≠ 39 + 3 * W by omega), stI_aj (show 2 ≠ 38 + 3 * W by omega), g2, a_putw2 hW24, bd_some, gl2, gl2, lx_s, stI_aj (show 2 ≠ 40 + 3 * W by omega), stI_aj (show 2 ≠ 39 + 3 * W by omega), stI_aj (show 2 ≠ 38 + 3 * W by omega), g2, nI_1 W]
        have fI : ∀ z, z ≠ P → z ≠ P + 1 → z ≠ P + 2 → stI (stI (stI (stI I p 4 (nI v)) (P + 1) W (nI v)) (P + 2) W (nI q)) P 4 (nI (W + 1)) z = stI I p 4 (nI v) z := fun z z0 z1 z2 => by
          rw [stI_ne z0, stI_ne z2, stI_ne z1]
        have fJ : ∀ z, z ≠ m + 1 → stI (stI (stI (stI J (m + 1) (38 + 3 * W) (nI v)) (m + 1) (39 + 3 * W) (nI q)) (m + 1) (40 + 3 * W) 0) (m + 1) 2 (nI (W + 1)) z = J z := fun z z0 => by
          rw [stI_ne z0, stI_ne z0, stI_ne z0, stI_ne z0]
        have gn : GS (stI (stI (stI (stI I p 4 (nI v)) (P + 1) W (nI v)) (P + 2) W (nI q)) P 4 (nI (W + 1))) (stI (stI (stI (stI J (m + 1) (38 + 3 * W) (nI v)) (m + 1) (39 + 3 * W) (nI q)) (m + 1) (40 + 3 * W) 0) (m + 1) 2 (nI (W + 1))) p P m N k y x H (W + 1) C K 0 := by
          refine ⟨TS_dep g.1 (fI _ (by omega) (by omega) (by omega)) (fI _ (by omega) (by omega) (by omega)) (fI _ (by omega) (by omega) (by omega)) (fJ _ (by omega)) (fJ _ (by omega)), ?_, DW_same g.2.2 (fI _ (by omega) (by omega) (by omega)) (fI _ (by omega) (by omega) (by omega))⟩
          refine KR_warp g.2.1 (Nat.le_refl _) hW24 v0 hq fI ?_ stI_at ?_ ?_ ?_ ?_ stI_at ?_ ?_ ?_ ?_
          · intro j hj; rw [stI_aj hj, stI_ne (show P ≠ P + 2 by omega), stI_ne (show P ≠ P + 1 by omega)]
          · rw [stI_ne (by omega), stI_ne (by omega), stI_at]
          · intro j hj; rw [stI_ne (by omega), stI_ne (by omega), stI_aj hj]
          · rw [stI_ne (by omega), stI_at]
          · intro j hj; rw [stI_ne (by omega), stI_aj hj, stI_ne (by omega)]
          · rw [stI_aj (by omega), stI_aj (by omega), stI_aj (by omega), stI_at]
          · rw [stI_aj (by omega), stI_aj (by omega), stI_at]
          · rw [stI_aj (by omega), stI_at]
          · intro j j2 j3; rw [stI_aj j2, stI_aj (by omega), stI_aj (by omega), stI_aj (by omega)]
        obtain ⟨I5, J5, k5, y5, x5, a5, b5, g6, l5, -⟩ := g_adv hP gn (by omega)
        rw [a5, b5, bd_some, bd_some, bd_some, nI_1, is_digits g6.1]
        by_cases hk5 : k5 = 2
        · rw [decide_eq_true hk5, if_pos rfl]
          have := g6.1.lt (by omega)
          have hb6 := g6.1.b
          obtain ⟨o, J', o1, o2, o3⟩ := ih f f' (j + 1) I5 J5 k5 y5 x5 (W + 1) (by omega) (by omega) (by omega) g6 (Or.inr hk5) (by omega) (by omega)
          refine ⟨o, J', o1, o2, ?_⟩
          rcases o3 with ⟨w, I', k', y', x', W', e1, e2, e3⟩ | ⟨I', e1, e2⟩
          · exact Or.inl ⟨w, I', k', y', x', W', e1, e2, by omega⟩
          · exact Or.inr ⟨I', e1, e2⟩
        · rw [decide_eq_false hk5, if_neg Bool.false_ne_true]
          obtain ⟨f, rfl⟩ : ∃ g, f = g + 1 := ⟨f - 1, by omega⟩
          rw [s_X5_readWarps_L42]
          by_cases h5 : (500 : Int32) ≤ nI (j + 1)
          · rw [if_pos h5]
            exact ⟨_, _, rfl, rfl, Or.inl ⟨_, _, k5, y5, x5, W + 1, rfl, g6, by omega⟩⟩
          · rw [if_neg h5, if_neg (nI_ne0 (by omega) (by omega)), if_neg (show ¬ I5 (p + 1) 4 = 2 from fun q => hk5 ((kind_iff g6.1 (q := 2) (by omega)).mp q))]
            exact ⟨_, _, rfl, rfl, Or.inl ⟨_, _, k5, y5, x5, W + 1, rfl, g6, by omega⟩⟩
    · rw [a, bd2_some, if_neg Bool.false_ne_true]
      have : s_X9_addsWarp J m (nI q) = some J1 := by
        unfold s_X9_addsWarp
        rw [b, bd2_some, gl2]
        by_cases e2 : J1 (m + 1) (Int32.toNatClampNeg 2) = 24
        · rw [if_pos e2, lx_s, er_limits e.em, if_neg e.em.le]
        · rw [if_neg e2, lx_s, er_limits e.em, if_neg e.em.le]
      rw [this, bd_some, er_is e.em, if_neg Bool.false_ne_true]
      exact ⟨_, _, rfl, rfl, Or.inr ⟨I1, rfl, e⟩⟩
theorem it_warp (hP : p + 3 ≤ P) (h : GS I J p P m N k y x H W C K R) (hk : k ≠ 0) : ITM p P m N y (s_X5_readWarps I p P) (s_X9_readsWarp J m) := by
  have hR := h.2.1.g.2.2.2.2.2.1
  unfold s_X5_readWarps s_X9_readsWarp
  rw [gl5, cl5, h.2.1.g.1.2.2.2.2, h.2.1.c.2.2.2.2]
  obtain ⟨⟨I4, a4, e4⟩, -, -, r3, -⟩ := g_fail (P := P) h
  by_cases e : R = 0
  · subst e
    obtain ⟨I1, J1, k1, y1, x1, a1, b1, g1, l1, -⟩ := g_adv hP h hk
    rw [if_pos (show nI 0 ≤ 0 from Int32.le_refl 0), if_pos (show nI 0 ≤ 0 from Int32.le_refl 0), lx_s, r3, a1, b1, bd_some, bd_some]
    rcases g_col hP g1 with ⟨q, I2, J2, k2, y2, x2, hq, a2, b2, n2, g2, l2⟩ | ⟨I2, J2, a2, b2, e2⟩
    · have hb2 := g2.1.b
      obtain ⟨o, J', o1, o2, o3⟩ := l_warps hP hq (N - y2 + 1) lf lf 0 I2 J2 k2 y2 x2 W (by omega) (by unfold lf; omega) (by unfold lf; omega) g2 (Or.inl rfl) (by omega) (by omega)
      have o1' : s_X5_readWarps_L42 p P (nI q) lf 0 I2 = some o := o1
      rw [a2, b2, bd2_some, bd2_some, if_pos rfl, n2, o1', o2, bd_some]
      rcases o3 with ⟨w, I', k', y', x', W', rfl, e2, e3⟩ | ⟨I', rfl, e2⟩
      · rw [bl_inr]
        exact ITM_ok rfl rfl e2 (by omega)
      · rw [bl_inl]
        exact ITM_er rfl rfl e2
    · rw [a2, b2, bd2_some, bd2_some, if_neg Bool.false_ne_true, er_warpL e2.em, bd_some]
      exact ITM_er rfl rfl e2
  · rw [if_neg (nI_nle (by omega) (by omega)), if_neg (nI_nle (by omega) (by omega)), a4, bd2_some, lx_s, er_goes e4.em, bd_some, er_colour e4.em, bd2_some, er_warpL e4.em, bd_some]
    exact ITM_er rfl rfl e4
theorem l_cards (hP : p + 3 ≤ P) {q : Nat} : ∀ (d f f' j : Nat) (I J : JI) (k y x : Nat) (ls : Int32), N - y < d → d ≤ f → d ≤ f' → GS I J p P m N k y x H W C K R → LB H ls → j ≤ y → ∃ o lr J', s_X5_readCard_L43 p P (nI q) f ls (nI j) I = some o ∧ s_X9_readsCard_L31 m (nI q) f' ls J = some (lr, J') ∧ ((∃ w I' k' y' x', o = .inr (lr, w, I') ∧ LB H lr ∧ GS I' J' p P m N k' y' x' H W C K R ∧ y ≤ y') ∨ (∃ I', o = .inl (false, I') ∧ ER I' J' p m)) := by
  intro d
  induction d with
  | zero => intro f f' j I J k y x ls h; omega
  | succ d ih =>
    intro f f' j I J k y x ls hd hf hf' h hl hjy
    obtain ⟨f, rfl⟩ : ∃ g, f = g + 1 := ⟨f - 1, by omega⟩
    obtain ⟨f', rfl⟩ : ∃ g, f' = g + 1 := ⟨f' - 1, by omega⟩
    have hb := h.1.b
    rw [s_X5_readCard_L43, s_X9_readsCard_L31, is_digits h.1]
    by_cases hk : k = 2
    · have hyx := h.1.lt (by omega)
      rw [if_neg (show ¬ (500 : Int32) ≤ nI j from nI_ge (b := 500) (by omega) (by omega)), if_pos (show I (p + 1) 4 = 2 from (kind_iff h.1 (q := 2) (by omega)).mpr hk), decide_eq_true hk, if_pos rfl]
      obtain ⟨f', rfl⟩ : ∃ g, f' = g + 1 := ⟨f' - 1, by omega⟩
      rcases (g_see hP h).1 with ⟨v, v0, -, a, b, g⟩ | ⟨I1, J1, a, b, e⟩
      · have hH := g.2.1.g.2.1
        rw [a, b, bd2_some, bd2_some, if_pos rfl, stI_at, hasB_bt (by omega), lx_s (s_X9_refuses J m _), mhas_bt (by omega)]
        obtain ⟨⟨I4, a4, e4⟩, -, -, r3, -⟩ := g_fail (P := P) g
        cases hbt : bt ls v
        · obtain ⟨I5, J5, k5, y5, x5, a5, b5, g6, l5, -⟩ := g_adv hP g (by omega)
          rw [if_neg Bool.false_ne_true, r3, lx_s, lx_s, a5, b5, bd_some, bd_some, nI_1]
          obtain ⟨o, lr, J', o1, o2, o3⟩ := ih f (f' + 1) (j + 1) I5 J5 k5 y5 x5 _ (by omega) (by omega) (by omega) g6 (hl.or (LB.shl v0 (by omega))) (by omega)
          refine ⟨o, lr, J', o1, o2, ?_⟩
          rcases o3 with ⟨w, I', k', y', x', e1, e2, e3, e4⟩ | ⟨I', e1, e2⟩
          · exact Or.inl ⟨w, I', k', y', x', e1, e2, e3, by omega⟩
          · exact Or.inr ⟨I', e1, e2⟩
        · rw [if_pos rfl, a4, bd2_some, lx_s, er_goes e4.em, bd_some, er_cardL e4.em]
          exact ⟨_, _, _, rfl, rfl, Or.inr ⟨I4, rfl, e4⟩⟩
      · rw [a, b, bd2_some, bd2_some, if_neg Bool.false_ne_true, lx_s, lx_s, er_refuses e.em, er_goes e.em, bd_some, er_cardL e.em]
        exact ⟨_, _, _, rfl, rfl, Or.inr ⟨I1, rfl, e⟩⟩
    · rw [decide_eq_false hk, if_neg Bool.false_ne_true]
      by_cases h5 : (500 : Int32) ≤ nI j
      · rw [if_pos h5]
        exact ⟨_, _, _, rfl, rfl, Or.inl ⟨_, _, k, y, x, rfl, hl, h, Nat.le_refl _⟩⟩
      · rw [if_neg h5, if_neg (show ¬ I (p + 1) 4 = 2 from fun q => hk ((kind_iff h.1 (q := 2) (by omega)).mp q))]
        exact ⟨_, _, _, rfl, rfl, Or.inl ⟨_, _, k, y, x, rfl, hl, h, Nat.le_refl _⟩⟩
theorem it_card (hP : p + 3 ≤ P) (h : GS I J p P m N k y x H W C K R) (hk : k ≠ 0) : ITM p P m N y (s_X5_readCard I p P) (s_X9_readsCard J m) := by
  have hC := h.2.1.g.2.2.2.1
  unfold s_X5_readCard s_X9_readsCard
  rw [gl3, cl3, h.2.1.g.1.2.2.1, h.2.1.c.2.2.1]
  obtain ⟨-, ⟨I4, a4, e4⟩, -, -, r4⟩ := g_fail (P := P) h
  by_cases e : C = 12
  · rw [if_neg (show ¬ nI C < 12 from nI_nlt (b := 12) (by omega) (by omega)), if_pos (show nI C = 12 by rw [e]; rfl), a4, bd2_some, lx_s, er_goes e4.em, bd_some, er_colour e4.em, bd2_some, show lf = 19999 + 1 from rfl, er_cardL e4.em, bd_some]
    show ITM p P m N y _ (if s_X9_limits J m true m 10 ≤ 0 then _ else _)
    rw [if_neg e4.em.le]
    exact ITM_er rfl rfl e4
  · obtain ⟨I1, J1, k1, y1, x1, a1, b1, g1, l1, -⟩ := g_adv hP h hk
    rw [if_pos (show nI C < 12 from nI_lt (b := 12) (by omega) (by omega)), if_neg (show ¬ nI C = 12 from fun w => e ((nI_eq (b := 12) (by omega) (by omega)).mp w)), lx_s (s_X9_limits J m false), r4, a1, b1, bd_some, bd_some]
    rcases g_col hP g1 with ⟨q, I2, J2, k2, y2, x2, hq, a2, b2, n2, g2, l2⟩ | ⟨I2, J2, a2, b2, e2⟩
    · have hb2 := g2.1.b
      obtain ⟨o, lr, J', o1, o2, o3⟩ := l_cards hP (q := q) (N - y2 + 1) lf lf 0 I2 J2 k2 y2 x2 0 (by omega) (by unfold lf; omega) (by unfold lf; omega) g2 (LB.zero H) (by omega)
      have o1' : s_X5_readCard_L43 p P (nI q) lf 0 0 I2 = some o := o1
      rw [a2, b2, bd2_some, bd2_some, if_pos rfl, n2, o1', o2, bd_some]
      rcases o3 with ⟨w, I', k', y', x', rfl, e1, g, e3⟩ | ⟨I', rfl, e2⟩
      · have c7 := g.2.1.c.2.2.1
        have g3 := g.2.1.g.1.2.2.1
        have hC12 : C < 12 := by omega
        rw [bl_inr]
        show ITM p P m N y (lx (x3_addCard I' P lr (nI q)) fun I20 => some (true, I20)) (if J' m 10 ≤ 0 then _ else _)
        rw [if_pos (show J' m 10 ≤ 0 by rw [g_c10 g]; exact Int32.le_refl 0), gl3, lx_s (J' (m + 1) 3), g3, a_puts0 hC12, bd_some, a_puts1 hC12, bd_some, a_puts2 hC12, bd_some, a_puts3 hC12, bd_some, gl3, gl3, lx_s, lx_s, stI_aj (show 3 ≠ 119 + 4 * C by omega), stI_aj (show 3 ≠ 118 + 4 * C by omega), stI_aj (show 3 ≠ 117 + 4 * C by omega), stI_aj (show 3 ≠ 116 + 4 * C by omega), g3, nI_1]
        have hA : x3_addCard I' P lr (nI q) = stI (stI (stI (stI (stI I' (P + 3) C lr) (P + 4) C (nI q)) (P + 10 + 3) C lr) (P + 10 + 4) C (nI q)) P 7 (nI (C + 1)) := by
          unfold x3_addCard
          dsimp only
          rw [c7, ptI_nI hC12 (by omega), stI_ne (show P ≠ P + 3 by omega), c7, ptI_nI hC12 (by omega), stI_ne (show P ≠ P + 4 by omega), stI_ne (show P ≠ P + 3 by omega), c7, ptI_nI hC12 (by omega), stI_ne (show P ≠ P + 10 + 3 by omega), stI_ne (show P ≠ P + 4 by omega), stI_ne (show P ≠ P + 3 by omega), c7, ptI_nI hC12 (by omega), stI_ne (show P ≠ P + 10 + 4 by omega), stI_ne (show P ≠ P + 10 + 3 by omega), stI_ne (show P ≠ P + 4 by omega), stI_ne (show P ≠ P + 3 by omega), c7, nI_1]
        have fI : ∀ z, z ≠ P → z ≠ P + 3 → z ≠ P + 4 → z ≠ P + 10 + 3 → z ≠ P + 10 + 4 → x3_addCard I' P lr (nI q) z = I' z := fun z z0 z1 z2 z3 z4 => by
          rw [hA, stI_ne z0, stI_ne z4, stI_ne z3, stI_ne z2, stI_ne z1]
        have fJ : ∀ z, z ≠ m + 1 → stI (stI (stI (stI (stI J' (m + 1) (116 + 4 * C) lr) (m + 1) (117 + 4 * C) (nI q)) (m + 1) (118 + 4 * C) lr) (m + 1) (119 + 4 * C) (nI q)) (m + 1) 3 (nI (C + 1)) z = J' z := fun z z0 => by
          rw [stI_ne z0, stI_ne z0, stI_ne z0, stI_ne z0, stI_ne z0]
        refine ITM_ok rfl rfl (H := H) (W := W) (C := C + 1) (K := K) (R := R) (k := k') (y := y') (x := x') ⟨TS_dep g.1 (fI _ (by omega) (by omega) (by omega) (by omega) (by omega)) (fI _ (by omega) (by omega) (by omega) (by omega) (by omega)) (fI _ (by omega) (by omega) (by omega) (by omega) (by omega)) (fJ _ (by omega)) (fJ _ (by omega)), ?_, DW_same g.2.2 (fI _ (by omega) (by omega) (by omega) (by omega) (by omega)) (fI _ (by omega) (by omega) (by omega) (by omega) (by omega))⟩ (by omega)
        refine KR_card g.2.1 (Nat.le_refl _) hC12 e1 hq fI ?_ ?_ ?_ ?_ ?_ ?_ ?_ ?_ ?_ ?_ ?_ ?_ ?_ ?_ ?_ ?_
        · intro j hj; rw [hA, stI_aj hj, stI_ne (show P ≠ P + 10 + 4 by omega), stI_ne (show P ≠ P + 10 + 3 by omega), stI_ne (show P ≠ P + 4 by omega), stI_ne (show P ≠ P + 3 by omega)]
        · rw [hA, stI_at]
        · rw [hA, stI_ne (by omega), stI_ne (by omega), stI_ne (by omega), stI_ne (by omega), stI_at]
        · intro j hj; rw [hA, stI_ne (by omega), stI_ne (by omega), stI_ne (by omega), stI_ne (by omega), stI_aj hj]
        · rw [hA, stI_ne (by omega), stI_ne (by omega), stI_ne (by omega), stI_at]
        · intro j hj; rw [hA, stI_ne (by omega), stI_ne (by omega), stI_ne (by omega), stI_aj hj, stI_ne (by omega)]
        · rw [hA, stI_ne (by omega), stI_ne (by omega), stI_at]
        · intro j hj; rw [hA, stI_ne (by omega), stI_ne (by omega), stI_aj hj, stI_ne (by omega), stI_ne (by omega)]
        · rw [hA, stI_ne (by omega), stI_at]
        · intro j hj; rw [hA, stI_ne (by omega), stI_aj hj, stI_ne (by omega), stI_ne (by omega), stI_ne (by omega)]
        · rw [stI_at]
        · rw [stI_aj (by omega), stI_aj (by omega), stI_aj (by omega), stI_aj (by omega), stI_at]
        · rw [stI_aj (by omega), stI_aj (by omega), stI_aj (by omega), stI_at]
        · rw [stI_aj (by omega), stI_aj (by omega), stI_at]
        · rw [stI_aj (by omega), stI_at]
        · intro j j2 j3; rw [stI_aj j2, stI_aj (by omega), stI_aj (by omega), stI_aj (by omega), stI_aj (by omega)]
      · rw [bl_inl]
        show ITM p P m N y _ (if J' m 10 ≤ 0 then _ else _)
        rw [if_neg e2.em.le]
        exact ITM_er rfl rfl e2
    · rw [a2, b2, bd2_some, bd2_some, if_neg Bool.false_ne_true, show lf = 19999 + 1 from rfl, er_cardL e2.em, bd_some]
      show ITM p P m N y _ (if J2 m 10 ≤ 0 then _ else _)
      rw [if_neg e2.em.le]
      exact ITM_er rfl rfl e2
end ITC
