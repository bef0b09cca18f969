/-! good states stay good -/
section OPS
variable {I J : JI} {L s H W N a c h n : Nat} {x y : Int32}
theorem SOK.wu (hs : L + 10 ≤ s) (hN : N ≤ 100000) : ∀ (m : Nat) (I : JI), FOK I L H W → SOK N I L s H W → SOK N (wuI L s m I) L s H W ∧ FOK (wuI L s m I) L H W ∧ ∃ r, r + wuN L s m I ≤ 60 ∧ I s 3 = nI r ∧ wuI L s m I s 3 = nI (r + wuN L s m I) := by
  intro m
  induction m with
  | zero => intro I hF g; obtain ⟨r, b, y, ⟨g1, g2⟩, g3⟩ := id g; exact ⟨g, hF, r, by rw [wuN]; exact g1, g2, g2⟩
  | succ m ih =>
    intro I hF g
    rw [wuI, wuN]
    by_cases q : x3_obst I L s = 0
    · rw [if_pos q, if_pos q]
      obtain ⟨g1, r, r1, r2, r3⟩ := g.wn hF hs hN q
      have hF' : FOK (x3_weaveNext I L s) L H W := hF.le fun z h1 h2 => (fr_x3_weaveNext (Or.inl (by omega))).symm
      obtain ⟨k1, k2, r', k3, k4, k5⟩ := ih _ hF' g1
      have e : r' = r + 1 := (nI_eq (by omega) (by omega)).mp (k4.symm.trans r3)
      subst e
      exact ⟨k1, k2, r, by omega, r2, by rw [k5]; congr 1; omega⟩
    · rw [if_neg q, if_neg q]
      obtain ⟨r, b, y, ⟨g1, g2⟩, g3⟩ := id g
      exact ⟨g, hF, r, g1, g2, g2⟩
theorem SOK.wv (g : SOK N I L s H W) (hF : FOK I L H W) : WvOk I L s := by
  obtain ⟨r, b, y, ⟨g1, g2⟩, g3⟩ := g
  obtain ⟨⟨⟨H2, H3⟩, -⟩, ⟨f0, -, -, q0, q1, q2⟩, -⟩ := hF
  exact ⟨by rw [f0]; exact nI_pos' (by omega), by rw [q2]; exact nI_pos' (by omega), r, g1, g2⟩
/-- what a change of cards needs -/
theorem SOK.dist (g : SOK N I L s H W) (h3 : J s 3 = I s 3) (h4 : J s 4 = I s 4) (h2 : J (s + 2) = I (s + 2)) (h6 : J (s + 6) = I (s + 6)) (h5 : J s 5 = 1) (h0 : J s 0 = I s 0) (h1 : J s 1 = I s 1) (hc : ∀ k, k < 3 → LB H (J (s + 3) k) ∧ ∃ c, c < 6 ∧ J (s + 4) k = nI c) : SOK N J L s H W := by
  obtain ⟨r, b, y, ⟨g1, g2⟩, ⟨g3, g4, g5, g6⟩, g7, g8, ⟨g9, g10⟩, g11, g12⟩ := g
  exact ⟨r, b, y, ⟨g1, by rw [h3]; exact g2⟩, ⟨g3, by rw [h4]; exact g4, g5, fun k hk => by rw [h2]; exact g6 k hk⟩, fun i hi => by rw [h6]; exact g7 i hi, Or.inr h5, ⟨by rw [h0]; exact g9, by rw [h1]; exact g10⟩, hc, fun q => absurd (h5.symm.trans q) (by decide)⟩
theorem ops_lifts (ha : a < 12) : x7_changeLifts I s (nI a) x = stI (stI I (s + 3) a x) s 5 1 := by unfold x7_changeLifts; rw [ptI_nI ha (by omega)]
theorem ops_col (ha : a < 12) : x7_changeColour I s (nI a) x = stI (stI I (s + 4) a x) s 5 1 := by unfold x7_changeColour; rw [ptI_nI ha (by omega)]
theorem SOK.card (g : SOK N I L s H W) (k : Nat) : k < 3 → LB H (I (s + 3) k) ∧ ∃ c, c < 6 ∧ I (s + 4) k = nI c := by
  obtain ⟨r, b, y, -, -, -, -, -, g11, -⟩ := g; exact g11 k
theorem SOK.lifts (g : SOK N I L s H W) (ha : a < 3) (hx : LB H x) : SOK N (stI (stI I (s + 3) a x) s 5 1) L s H W := by
  refine g.dist (by rw [stI_aj (by decide), stI_o (by omega)]) (by rw [stI_aj (by decide), stI_o (by omega)]) (by rw [stI_ne (by omega), stI_ne (by omega)]) (by rw [stI_ne (by omega), stI_ne (by omega)]) stI_at (by rw [stI_aj (by decide), stI_o (by omega)]) (by rw [stI_aj (by decide), stI_o (by omega)]) (fun k hk => ?_)
  rw [stI_o (show s + 3 ≠ s by omega), stI_o (show s + 4 ≠ s by omega), stI_o (show s + 4 ≠ s + 3 by omega)]
  by_cases e : k = a
  · subst e; rw [stI_at]; exact ⟨hx, (g.card k hk).2⟩
  · rw [stI_aj e]; exact g.card k hk
theorem SOK.col (g : SOK N I L s H W) (ha : a < 3) (hc : c < 6) : SOK N (stI (stI I (s + 4) a (nI c)) s 5 1) L s H W := by
  refine g.dist (by rw [stI_aj (by decide), stI_o (by omega)]) (by rw [stI_aj (by decide), stI_o (by omega)]) (by rw [stI_ne (by omega), stI_ne (by omega)]) (by rw [stI_ne (by omega), stI_ne (by omega)]) stI_at (by rw [stI_aj (by decide), stI_o (by omega)]) (by rw [stI_aj (by decide), stI_o (by omega)]) (fun k hk => ?_)
  rw [stI_o (by omega), stI_o (by omega), stI_o (by omega)]
  by_cases e : k = a
  · subst e; rw [stI_at]; exact ⟨(g.card k hk).1, c, hc, rfl⟩
  · rw [stI_aj e]; exact g.card k hk
/-- two cards exchanged -/
theorem SOK.exch (g : SOK N I L s H W) {b : Nat} (ha : a < 3) (hb : b < 3) : SOK N (x7_exchangeCards I s (nI a) (nI b)) L s H W ∧ x7_exchangeCards I s (nI a) (nI b) (s + 4) a = I (s + 4) b ∧ x7_exchangeCards I s (nI a) (nI b) (s + 4) b = I (s + 4) a := by
  have e : x7_exchangeCards I s (nI a) (nI b) = stI (stI (stI (stI (stI (stI (stI (stI I (s + 3) a (I (s + 3) b)) s 5 1) (s + 4) a (I (s + 4) b)) s 5 1) (s + 3) b (I (s + 3) a)) s 5 1) (s + 4) b (I (s + 4) a)) s 5 1 := by
    have e1 : x7_changeLifts I s (nI a) (atF (I (s + 3)) 12 (nI b)) = stI (stI I (s + 3) a (I (s + 3) b)) s 5 1 := by rw [ops_lifts (by omega), atF_nI (show b < 12 by omega) (by omega)]
    have e2 : x7_changeColour (stI (stI I (s + 3) a (I (s + 3) b)) s 5 1) s (nI a) (atF (stI (stI I (s + 3) a (I (s + 3) b)) s 5 1 (s + 4)) 12 (nI b)) = stI (stI (stI (stI I (s + 3) a (I (s + 3) b)) s 5 1) (s + 4) a (I (s + 4) b)) s 5 1 := by
      rw [ops_col (by omega), stI_ne (show s + 4 ≠ s by omega), stI_ne (show s + 4 ≠ s + 3 by omega), atF_nI (show b < 12 by omega) (by omega)]
    unfold x7_exchangeCards
    simp only []
    rw [e1, e2, ops_lifts (by omega), atF_nI (show a < 12 by omega) (by omega), ops_col (by omega), atF_nI (show a < 12 by omega) (by omega)]
  rw [e]
  obtain ⟨la, ca, ca1, ca2⟩ := g.card a ha
  obtain ⟨lb, cb, cb1, cb2⟩ := g.card b hb
  refine ⟨?_, ?_, ?_⟩
  · rw [ca2, cb2]
    exact (((g.lifts ha lb).col ha cb1).lifts hb la).col hb ca1
  · rw [stI_o (by omega)]
    by_cases q : a = b
    · subst q; rw [stI_at]
    · rw [stI_aj q, stI_o (by omega), stI_o (by omega), stI_o (by omega), stI_at]
  · rw [stI_o (by omega), stI_at]
theorem SOK.punch (g : SOK N I L s H W) (ha : a < 3) (hh : h < H) (hH : H ≤ 3) : SOK N (x7_punchCard I s (nI a) (nI h)) L s H W ∧ x7_punchCard I s (nI a) (nI h) (s + 3) a = I (s + 3) a ^^^ ((1 : Int32) <<< (nI h &&& 31)) := by
  have e : x7_punchCard I s (nI a) (nI h) = stI (stI I (s + 3) a (I (s + 3) a ^^^ ((1 : Int32) <<< (nI h &&& 31)))) s 5 1 := by
    unfold x7_punchCard
    rw [ops_lifts (by omega), atF_nI (show a < 12 by omega) (by omega)]
  rw [e]
  exact ⟨g.lifts ha ((g.card a ha).1.xor (LB.shl hh (by omega))), by rw [stI_o (by omega), stI_at]⟩
theorem SOK.bring (g : SOK N I L s H W) (hs : L + 10 ≤ s) (ha : a < 6) (hn : n ≤ 1000) (hN : N ≤ 100000) : SOK (N + n) (x7_bring I s (nI a) (nI n)) L s H W ∧ ∃ y, I (s + 2) a = nI y ∧ x7_bring I s (nI a) (nI n) (s + 2) a = nI (y + n) := by
  obtain ⟨r, b, y, ⟨g1, g2⟩, ⟨g3, g4, g5, g6⟩, g7, g8, ⟨g9, g10⟩, g11, g12⟩ := g
  have e : x7_bring I s (nI a) (nI n) = stI (stI I (s + 2) a (nI (y a + n))) s 4 (nI (b + n)) := by
    unfold x7_bring x7_addYarn
    rw [ptI_nI ha (by omega), atF_nI ha (by omega), g6 a ha, nI_add, stI_o (by omega), g4, nI_add]
  rw [e]
  refine ⟨⟨r, b + n, fun k => if k = a then y a + n else y k, ⟨g1, by rw [stI_aj (by decide), stI_o (by omega)]; exact g2⟩, ⟨by omega, stI_at, ?_, fun k hk => ?_⟩, fun i hi => by rw [stI_o (by omega), stI_o (by omega)]; exact g7 i hi, by rw [stI_aj (by decide), stI_o (by omega)]; exact g8, ⟨by rw [stI_aj (by decide), stI_o (by omega)]; exact g9, by rw [stI_aj (by decide), stI_o (by omega)]; exact g10⟩, fun k hk => by rw [stI_o (by omega), stI_o (by omega), stI_o (by omega), stI_o (by omega)]; exact g11 k hk, fun q => ?_⟩, y a, g6 a ha, by rw [stI_o (by omega), stI_at]⟩
  · have := ysm_up (y := y) (x := a) (a := y a + n) ha
    omega
  · rw [stI_o (by omega)]
    by_cases e : k = a
    · subst e; rw [stI_at]; simp only [if_true]
    · rw [stI_aj e]; simp only [if_neg e]; exact g6 k hk
  · rw [stI_aj (by decide), stI_o (by omega)] at q
    obtain ⟨q1, q2, q3, q4⟩ := g12 q
    have hLE : LE L I (stI (stI I (s + 2) a (nI (y a + n))) s 4 (nI (b + n))) := fun z h1 h2 => by rw [stI_ne (by omega), stI_ne (by omega)]
    refine ⟨by rw [stI_aj (by decide), stI_o (by omega)]; exact q1, by rw [stI_aj (by decide), stI_o (by omega)]; exact q2, fun k hk => ?_, fun i hi => ?_⟩
    · rw [stI_o (by omega), stI_o (by omega), stI_o (by omega), stI_o (by omega), stI_o (by omega), stI_o (by omega), stI_o (by omega), stI_o (by omega)]; exact q3 k hk
    · rw [hLE.cdI, ← hLE.mask, ← hLE (L + 3) (by omega) (by omega), ← hLE (L + 4) (by omega) (by omega), stI_o (by omega), stI_o (by omega), stI_o (by omega), stI_o (by omega)]; exact q4 i hi
theorem SOK.oil (g : SOK N I L s H W) (hs : L + 10 ≤ s) (hh : h < H) (hH : H ≤ 3) : SOK N (x7_oilHarness I s (nI h)) L s H W ∧ x7_oilHarness I s (nI h) (s + 1) h = 0 ∧ bt (x7_oilHarness I s (nI h) s 1) h = false := by
  have e : x7_oilHarness I s (nI h) = stI (stI I (s + 1) h 0) s 1 (I s 1 &&& (((1 : Int32) <<< (nI h &&& 31)) ^^^ (-1))) := by
    unfold x7_oilHarness
    rw [ptI_nI (show h < 8 by omega) (by omega), stI_o (by omega)]
  rw [e]
  obtain ⟨r, b, y, ⟨g1, g2⟩, ⟨g3, g4, g5, g6⟩, g7, g8, ⟨g9, g10⟩, g11, g12⟩ := g
  refine ⟨⟨r, b, y, ⟨g1, by rw [stI_aj (by decide), stI_o (by omega)]; exact g2⟩, ⟨g3, by rw [stI_aj (by decide), stI_o (by omega)]; exact g4, g5, fun k hk => by rw [stI_o (by omega), stI_o (by omega)]; exact g6 k hk⟩, fun i hi => by rw [stI_o (by omega), stI_o (by omega)]; exact g7 i hi, by rw [stI_aj (by decide), stI_o (by omega)]; exact g8, ⟨by rw [stI_aj (by decide), stI_o (by omega)]; exact g9, by rw [stI_at]; exact g10.andl⟩, fun k hk => by rw [stI_o (by omega), stI_o (by omega), stI_o (by omega), stI_o (by omega)]; exact g11 k hk, fun q => ?_⟩, by rw [stI_o (by omega), stI_at], ?_⟩
  · rw [stI_aj (by decide), stI_o (by omega)] at q
    obtain ⟨q1, q2, q3, q4⟩ := g12 q
    have hLE : LE L I (stI (stI I (s + 1) h 0) s 1 (I s 1 &&& (((1 : Int32) <<< (nI h &&& 31)) ^^^ (-1)))) := fun z h1 h2 => by rw [stI_ne (by omega), stI_ne (by omega)]
    refine ⟨?_, by rw [stI_aj (by decide), stI_o (by omega)]; exact q2, fun k hk => ?_, fun i hi => ?_⟩
    · rw [stI_at, q1]; exact bt_ext fun k _ => by rw [bt_and, bt_zero, Bool.false_and]
    · rw [stI_o (by omega), stI_o (by omega), stI_o (by omega), stI_o (by omega), stI_o (by omega), stI_o (by omega), stI_o (by omega), stI_o (by omega)]; exact q3 k hk
    · rw [hLE.cdI, ← hLE.mask, ← hLE (L + 3) (by omega) (by omega), ← hLE (L + 4) (by omega) (by omega), stI_o (by omega), stI_o (by omega), stI_o (by omega), stI_o (by omega)]; exact q4 i hi
  · rw [stI_at, bt_and, bt_not (by omega), bt_shl (by omega) (by omega), decide_eq_true rfl]; simp
/-- one row is taken away -/
theorem SOK.rm1 (g : SOK N I L (L + 10) H W) (hF : FOK I L H W) (hN : N ≤ 100000) {r : Nat} (hr6 : r < 60) (hr : I (L + 10) 3 = nI (r + 1)) : SOK N (rmB I L) L (L + 10) H W ∧ rmB I L (L + 10) 3 = nI r ∧ ∀ k, k < 6 → ∃ y y', I (L + 12) k = nI y ∧ rmB I L (L + 12) k = nI y' ∧ y ≤ y' ∧ y' ≤ 100000 := by
  obtain ⟨⟨⟨H2, H3⟩, W1, W4⟩, ⟨f0, f4, -⟩, -⟩ := hF
  obtain ⟨r0, b, y, ⟨g1, g2⟩, ⟨g3, g4, g5, g6⟩, g7, g8, ⟨g9, g10⟩, g11, g12⟩ := id g
  have er : r0 = r + 1 := (nI_eq (by omega) (by omega)).mp (g2.symm.trans hr)
  subst er
  obtain ⟨x, x6, hx⟩ := g7 r (by omega)
  have e : rmB I L = stI (stI I (L + 10) 3 (nI r)) (L + 12) x (nI (y x + W)) := by
    unfold rmB x7_addYarn
    simp only []
    rw [hr, show nI (r + 1) - 1 = nI r from nI_sub (show 1 ≤ r + 1 by omega), stI_ne (show L + 10 + 6 ≠ L + 10 by omega), stI_at, atF_nI hr6 (by omega), hx, stI_ne (show L + 10 + 2 ≠ L + 10 by omega), stI_ne (show L ≠ L + 10 by omega), f4, ptI_nI x6 (by omega), atF_nI x6 (by omega), g6 x x6, nI_add]
  have hyx := ysm_ge (y := y) x6
  have hup := ysm_up (y := y) (x := x) (a := y x + W) x6
  have er1 : (r + 1) * W = r * W + W := Nat.succ_mul r W
  have y2 : ∀ k, k < 6 → rmB I L (L + 10 + 2) k = nI (if k = x then y x + W else y k) := fun k hk => by
    rw [e]
    by_cases q : k = x
    · subst q; rw [if_pos rfl]; exact stI_at
    · rw [if_neg q]; show stI (stI I (L + 10) 3 (nI r)) (L + 12) x _ (L + 12) k = _; rw [stI_aj q, stI_o (by omega)]; exact g6 k hk
  have hLE : LE L I (rmB I L) := fun z h1 h2 => by rw [e, stI_ne (by omega), stI_ne (by omega)]
  refine ⟨⟨r, b, fun k => if k = x then y x + W else y k, ⟨by omega, by rw [e, stI_o (by omega), stI_at]⟩, ⟨g3, by rw [e, stI_o (by omega), stI_aj (by decide)]; exact g4, by omega, y2⟩, fun i hi => by rw [e, stI_o (by omega), stI_o (by omega)]; exact g7 i (by omega), by rw [e, stI_o (by omega), stI_aj (by decide)]; exact g8, ⟨by rw [e, stI_o (by omega), stI_aj (by decide)]; exact g9, by rw [e, stI_o (by omega), stI_aj (by decide)]; exact g10⟩, fun k hk => by rw [e, stI_o (by omega), stI_o (by omega), stI_o (by omega), stI_o (by omega)]; exact g11 k hk, fun q => ?_⟩, by rw [e, stI_o (by omega), stI_at], fun k hk => ⟨y k, _, g6 k hk, y2 k hk, ?_, ?_⟩⟩
  · rw [e, stI_o (by omega), stI_aj (by decide)] at q
    obtain ⟨q1, q2, q3, q4⟩ := g12 q
    refine ⟨by rw [e, stI_o (by omega), stI_aj (by decide)]; exact q1, by rw [e, stI_o (by omega), stI_aj (by decide)]; exact q2, fun k hk => ?_, fun i hi => ?_⟩
    · rw [← hLE (L + 3) (by omega) (by omega), ← hLE (L + 4) (by omega) (by omega), e, stI_o (by omega), stI_o (by omega), stI_o (by omega), stI_o (by omega)]; exact q3 k hk
    · rw [hLE.cdI, ← hLE.mask, ← hLE (L + 3) (by omega) (by omega), ← hLE (L + 4) (by omega) (by omega), e, stI_o (by omega), stI_o (by omega), stI_o (by omega), stI_o (by omega)]; exact q4 i (by omega)
  · split
    · rename_i q; rw [q]; omega
    · exact Nat.le_refl _
  · have : (if k = x then y x + W else y k) ≤ ysm (fun k => if k = x then y x + W else y k) := ysm_ge (y := fun k => if k = x then y x + W else y k) hk
    omega
theorem SOK.rm (hN : N ≤ 100000) : ∀ (n r : Nat) (I : JI), SOK N I L (L + 10) H W → FOK I L H W → r ≤ 60 → I (L + 10) 3 = nI r → n ≤ r → SOK N (rmI L n I) L (L + 10) H W ∧ rmI L n I (L + 10) 3 = nI (r - n) ∧ ∀ k, k < 6 → ∃ y y', I (L + 12) k = nI y ∧ rmI L n I (L + 12) k = nI y' ∧ y ≤ y' ∧ y' ≤ 100000 := by
  intro n
  induction n with
  | zero =>
    intro r I g hF h1 h2 _
    refine ⟨g, h2, fun k hk => ?_⟩
    obtain ⟨r0, b, y, -, ⟨g3, g4, g5, g6⟩, -⟩ := g
    have := ysm_ge (y := y) hk
    exact ⟨y k, y k, g6 k hk, g6 k hk, Nat.le_refl _, by omega⟩
  | succ n ih =>
    intro r I g hF h1 h2 h3
    obtain ⟨r, rfl⟩ : ∃ r', r = r' + 1 := ⟨r - 1, by omega⟩
    obtain ⟨a1, a2, a3⟩ := g.rm1 hF hN (by omega) h2
    have hF' : FOK (rmB I L) L H W := hF.le fun z h1 h2 => by
      unfold rmB x7_addYarn
      rw [fr_ptI (by omega), stI_ne (by omega)]
    obtain ⟨b1, b2, b3⟩ := ih r _ a1 hF' (by omega) a2 (by omega)
    rw [rmI, h2, if_pos (show (0 : Int32) < nI (r + 1) from nI_lt (a := 0) (by omega) (by omega))]
    refine ⟨b1, by rw [b2]; congr 1; omega, fun k hk => ?_⟩
    obtain ⟨y, y', c1, c2, c3, c4⟩ := a3 k hk
    obtain ⟨z, z', d1, d2, d3, d4⟩ := b3 k hk
    have ez : y' = z := (nI_eq (by omega) (by omega)).mp (c2.symm.trans d1)
    exact ⟨y, z', c1, d2, by omega, d4⟩
end OPS
