/-! parts of the deck closed; turns of the deck's reading -/
section DKC
variable {I J K : JI} {d dep v c k w n : Nat} {st cd : Nat → Nat} {pk pk' r : List Nat} {p P : Nat} {w1 : Int32}
theorem DS.close (h : DS I d pk (dep + 1) st cd) (h1 : st dep < pk.length) (h0 : (if dep = 0 then 0 else st (dep - 1)) ≤ st dep) (hw : x0_pwc (nI (cd dep)) (nI (pk.length - st dep)) = nI w) (hw2 : w ≤ 40) (hI : DS (x0_closeI I d (st dep) (pk.length - st dep - 1) (nI (cd dep))) d pk' (dep + 1) st cd ∧ DF d I (x0_closeI I d (st dep) (pk.length - st dep - 1) (nI (cd dep)))) : x0_closeB I d = true ∧ DS (x0_close I d (st dep) (pk.length - st dep - 1)) d pk' dep st cd ∧ DF d I (x0_close I d (st dep) (pk.length - st dep - 1)) := by
  obtain ⟨⟨g1, g2, g3⟩, ⟨g4, g5⟩, g6⟩ := id h
  have e0 : nI (dep + 1) - 1 = nI dep := by rw [show (1 : Int32) = nI 1 from rfl, nI_sub (by omega)]; rfl
  have ec : atF (I (d + 3)) 3 (I d 7 - 1) = nI (cd dep) := by rw [g4, e0, atF_nI (by omega) (by omega)]; exact (g6 dep (by omega)).2.1
  have es : x0_start I d (I d 7) = nI (st dep) := by rw [g4, h.start (Nat.le_refl _), if_neg (by omega)]; rfl
  have es0 : x0_start I d (I d 7 - 1) = nI (if dep = 0 then 0 else st (dep - 1)) := by rw [g4, e0, h.start (by omega)]
  have hB : x0_closeB I d = true := by
    unfold x0_closeB
    rw [es, es0, ec, g1, nI_sub h0, nI_sub (by omega), hw, nI_add]
    exact decide_eq_true (nI_le (b := 100) (by omega) (by decide))
  refine ⟨hB, ?_⟩
  unfold x0_close
  rw [if_pos hB, ec]
  obtain ⟨i1, i2⟩ := hI
  obtain ⟨a1, a2⟩ := i1.addPart 100
  obtain ⟨A, hA⟩ : ∃ A, A = x0_addPart (x0_closeI I d (st dep) (pk.length - st dep - 1) (nI (cd dep))) d 100 := ⟨_, rfl⟩
  rw [← hA] at a1 a2 ⊢
  obtain ⟨⟨b1, b2, b3⟩, ⟨b4, b5⟩, b6⟩ := a1
  rw [b4, e0]
  refine ⟨⟨⟨by rw [stI_aj (by decide)]; exact b1, b2, fun i hi => by rw [stI_ne (by omega)]; exact b3 i hi⟩, ⟨stI_at, by omega⟩, fun i hi => ?_⟩, (i2.tr a2).tr fun z hz => stI_ne (by omega)⟩
  rw [stI_ne (by omega), stI_ne (by omega)]
  exact b6 i (by omega)
theorem pwc_rep (hn : n ≤ 20) (hk : k ≤ 60) : x0_pwc (nI (200 + n)) (nI k) = nI (k * n) := by
  unfold x0_pwc
  rw [if_neg (show ¬ nI (200 + n) = 101 from fun e => by have := (nI_eq (b := 101) (by omega) (by decide)).mp e; omega), if_neg (show ¬ nI (200 + n) = 102 from fun e => by have := (nI_eq (b := 102) (by omega) (by decide)).mp e; omega), show (200 : Int32) = nI 200 from rfl, nI_sub (by omega), nI_mul, show 200 + n - 200 = n by omega]
theorem clI_rep {a t : Nat} (hn : n ≤ 20) (hn1 : 1 ≤ n) (ha : a + t < 60) : x0_closeI I d a t (nI (200 + n)) = repI d a ((t + 1) * (n - 1)) 0 I := by
  unfold x0_closeI
  have hm : (t + 1) * (n - 1) ≤ 60 * 20 := Nat.mul_le_mul (by omega) (by omega)
  rw [if_neg (show ¬ nI (200 + n) = 101 from fun e => by have := (nI_eq (b := 101) (by omega) (by decide)).mp e; omega), if_neg (show ¬ nI (200 + n) = 102 from fun e => by have := (nI_eq (b := 102) (by omega) (by decide)).mp e; omega), show (200 : Int32) = nI 200 from rfl, show (1 : Int32) = nI 1 from rfl, nI_sub (by omega), nI_sub (by omega), nI_sub (by omega), nI_mul, show a + t + 1 - a = t + 1 by omega, show 200 + n - 200 - 1 = n - 1 by omega, nI_clamp (by omega)]
theorem DS.rev {a : Nat} (h : DS I d pk dep st cd) (ha : a + 2 < pk.length) (hl : pk'.length = pk.length) (he : ∀ i, i < pk.length → pk'.getD i 0 = if i = a then pk.getD (a + 2) 0 else if i = a + 2 then pk.getD a 0 else pk.getD i 0) : DS (x0_closeI I d a 2 102) d pk' dep st cd ∧ DF d I (x0_closeI I d a 2 102) := by
  obtain ⟨⟨g1, g2, g3⟩, g4, g6⟩ := h
  have e : x0_closeI I d a 2 102 = stI (stI I (d + 2) a (nI (pk.getD (a + 2) 0))) (d + 2) (a + 2) (nI (pk.getD a 0)) := by
    unfold x0_closeI
    rw [if_neg (by decide), if_pos rfl, show (400 : Nat) = 399 + 1 from rfl, revI, if_pos (nI_lt (by omega) (by omega)), atF_nI (by omega) (by omega), atF_nI (by omega) (by omega), ptI_nI (by omega) (by omega), ptI_nI (by omega) (by omega), g3 _ ha, g3 _ (by omega), nI_1, show nI (a + 2) + -1 = nI (a + 1) by rw [show (-1 : Int32) = -(nI 1) from rfl, nI_subn (by omega)]; rfl, revI_stop _ _ _ _ _ (show ¬ nI (a + 1) < nI (a + 1) from nI_nlt (Nat.le_refl _) (by omega))]
  rw [e]
  refine ⟨⟨⟨by rw [stI_ne (by omega), stI_ne (by omega), hl]; exact g1, by omega, fun i hi => ?_⟩, by rw [stI_ne (by omega), stI_ne (by omega)]; exact g4, fun i hi => ?_⟩, fun z hz => by rw [stI_ne (by omega), stI_ne (by omega)]⟩
  · rw [he i (by omega)]
    by_cases q1 : i = a
    · subst q1; rw [if_pos rfl, stI_aj (by omega), stI_at]
    · rw [if_neg q1]
      by_cases q2 : i = a + 2
      · subst q2; rw [if_pos rfl, stI_at]
      · rw [if_neg q2, stI_aj q2, stI_aj q1]; exact g3 i (by omega)
  · rw [stI_ne (by omega), stI_ne (by omega), stI_ne (by omega), stI_ne (by omega), hl]; exact g6 i hi
/-- a turn of the deck's reading: then the next token -/
def DT1 (p P : Nat) (w1 : Int32) (I : JI) (w2 : Int32) (J : JI) : Prop := ∀ f i, i < 500 → s_X5_readDeck_L30 p P (f + 1) w1 (nI i) I = bd (s_X2_advance J (p + 1)) fun K => s_X5_readDeck_L30 p P f w2 (nI (i + 1)) K
/-- all but the parser, the input and the deck -/
def DQ (p P : Nat) (I J : JI) : Prop := ∀ z, z ≠ p → z ≠ p + 1 → (z < P + 5 ∨ P + 10 ≤ z) → J z = I z
theorem DQ.tr (h : DQ p P I J) (g : DQ p P J K) : DQ p P I K := fun z z1 z2 z3 => (g z z1 z2 z3).trans (h z z1 z2 z3)
theorem i500 {i : Nat} (h : i < 500) : ¬ (500 : Int32) ≤ nI i := nI_ge (b := 500) h (by decide)
theorem DS.st0 (h : DS I (P + 5) pk dep st cd) (hP : p + 3 ≤ P) {j : Nat} {x : Int32} : DS (stI I p j x) (P + 5) pk dep st cd := h.fr (stI_ne (by omega)) (stI_ne (by omega)) (stI_ne (by omega)) (stI_ne (by omega))
theorem dk_num (h : RD I (p + 1) 2 (dg v) r) (h6 : I (p + 1) 6 = nI v) (h7 : I P 7 = nI 3) (hv : v < 3) (hP : p + 3 ≤ P) (g : DS I (P + 5) pk dep st cd) (hl : pk.length < 60) : ∃ J, RP J (p + 1) r ∧ DS J (P + 5) (pk ++ [v]) dep st cd ∧ DQ p P I J ∧ DT1 p P w1 I 0 J := by
  have e1 : s_X5_seeCard I p P = some (true, stI I p 4 (nI v)) := by
    unfold s_X5_seeCard
    rw [h7, see_n (P := P) (x1 := 0) h h6 (nI_nlt (b := 0) (by omega) (by omega)) (show nI v ≤ nI 3 - 1 by rw [show (1 : Int32) = nI 1 from rfl, nI_sub (by omega)]; exact nI_le (by omega) (by omega)), bd2_some]
  obtain ⟨b1, b2, b3⟩ := (g.st0 hP (j := 4) (x := nI v)).addCard (c := v) hl
  have hf : ∀ z, z < P + 5 ∨ P + 10 ≤ z → x0_addCard (stI I p 4 (nI v)) (P + 5) (nI v) z = stI I p 4 (nI v) z := fun z hz => b3 z (by omega)
  refine ⟨x0_addCard (stI I p 4 (nI v)) (P + 5) (nI v), ((h.st (j := 4) (x := nI v)).fr (hf _ (by omega)) (hf _ (by omega))).rp, b2, fun z z1 z2 z3 => by rw [hf z z3, stI_ne z1], fun f i hi => ?_⟩
  have e2 : s_X5_readCardOfDeck I p P = bd (s_X2_advance (x0_addCard (stI I p 4 (nI v)) (P + 5) (nI v)) (p + 1)) fun I7 => some (true, I7) := by
    unfold s_X5_readCardOfDeck
    rw [e1, bd2_some, if_pos rfl, lx_s, lx_s, b1, if_pos rfl, stI_at]
  have e3 : (bd2 (s_X5_readCardOfDeck I p P) fun z34 I33 => if z34 = true then (s_X5_readDeck_L30 p P f 0 (nI i + 1) I33) else (some (.inl (false, I33)))) = bd (s_X2_advance (x0_addCard (stI I p 4 (nI v)) (P + 5) (nI v)) (p + 1)) fun K => s_X5_readDeck_L30 p P f 0 (nI (i + 1)) K := by
    rw [e2, nI_1]
    cases s_X2_advance (x0_addCard (stI I p 4 (nI v)) (P + 5) (nI v)) (p + 1) <;> rfl
  rw [s_X5_readDeck_L30, if_neg (i500 hi), h.2.1, if_pos (show nI 2 = 2 from rfl), if_pos (show nI 2 = 2 from rfl), e3]
  split <;> rfl
theorem dep_p (g : DS I (P + 5) pk (dep + 1) st cd) : ¬ I (P + 5) 7 ≤ 0 := by
  rw [g.2.1.1]; exact nI_ge (b := dep + 1) (a := 0) (by omega) (by have := g.2.1.2; omega)
theorem dk_close (h : RD I (p + 1) 5 [41] r) (hP : p + 3 ≤ P) (g : DS I (P + 5) pk (dep + 1) st cd) (h1 : st dep < pk.length) (h0 : (if dep = 0 then 0 else st (dep - 1)) ≤ st dep) (hw : x0_pwc (nI (cd dep)) (nI (pk.length - st dep)) = nI w) (hw2 : w ≤ 40) (hI : DS (x0_closeI I (P + 5) (st dep) (pk.length - st dep - 1) (nI (cd dep))) (P + 5) pk' (dep + 1) st cd ∧ DF (P + 5) I (x0_closeI I (P + 5) (st dep) (pk.length - st dep - 1) (nI (cd dep)))) : ∃ J, RP J (p + 1) r ∧ DS J (P + 5) pk' dep st cd ∧ DQ p P I J ∧ DT1 p P 0 I 0 J := by
  obtain ⟨b1, b2, b3⟩ := g.close h1 h0 hw hw2 hI
  have hl := g.1.2.1
  have hf : ∀ z, z < P + 5 ∨ P + 10 ≤ z → x0_close I (P + 5) (st dep) (pk.length - st dep - 1) z = I z := fun z hz => b3 z (by omega)
  refine ⟨x0_close I (P + 5) (st dep) (pk.length - st dep - 1), (h.fr (hf _ (by omega)) (hf _ (by omega))).rp, b2, fun z z1 z2 z3 => hf z z3, fun f i hi => ?_⟩
  have es : x0_start I (P + 5) (I (P + 5) 7) = nI (st dep) := by rw [g.2.1.1, g.start (Nat.le_refl _), if_neg (by omega)]; rfl
  have ec : (nI (st dep)).toNatClampNeg = st dep := nI_clamp (by omega)
  have el : (I (P + 5) 3).toNatClampNeg = pk.length := by rw [g.1.1, nI_clamp (by omega)]
  have e1 : s_X5_readClosing I p P = bd (s_X2_advance (x0_close I (P + 5) (st dep) (pk.length - st dep - 1)) (p + 1)) fun I7 => some (true, I7) := by
    unfold s_X5_readClosing
    rw [es, ec, el, gd_i rfl, gd_i (by rw [g.1.1]; congr 1; omega), gd_i (by omega), lx_s, lx_s, b1, if_pos rfl]
  have e3 : (bd2 (s_X5_readClosing I p P) fun z61 I60 => if z61 = true then (s_X5_readDeck_L30 p P f 0 (nI i + 1) I60) else (some (.inl (false, I60)))) = bd (s_X2_advance (x0_close I (P + 5) (st dep) (pk.length - st dep - 1)) (p + 1)) fun K => s_X5_readDeck_L30 p P f 0 (nI (i + 1)) K := by
    rw [e1, nI_1]
    cases s_X2_advance (x0_close I (P + 5) (st dep) (pk.length - st dep - 1)) (p + 1) <;> rfl
  rw [s_X5_readDeck_L30, if_neg (i500 hi), if_neg (dep_p g), h.2.1, if_neg (show ¬ nI 5 = 2 by decide), isW0 h (by decide) (by decide), isW0 h (by decide) (by decide), isW0 h (by decide) (by decide), bd_some, if_neg (by decide), bd_some, if_neg (by decide), bd_some, if_neg (by decide), if_pos (show nI 5 = 5 from rfl), if_pos rfl]
  exact e3
/-- a part is opened -/
theorem dk_op (hP : p + 3 ≤ P) (g : DS I (P + 5) pk dep st cd) (hd : dep < 3) (h : RD I (p + 1) k [40] r) : RP (x0_openPart I (P + 5) (nI v)) (p + 1) r ∧ DS (x0_openPart I (P + 5) (nI v)) (P + 5) pk (dep + 1) (upN st dep pk.length) (upN cd dep v) ∧ DQ p P I (x0_openPart I (P + 5) (nI v)) := by
  obtain ⟨b1, b2⟩ := g.openPart (c := v) hd
  exact ⟨(h.fr (b2 _ (by omega)) (b2 _ (by omega))).rp, b1, fun z _ _ z3 => b2 z (by omega)⟩
theorem hd3 (g : DS I (P + 5) pk dep st cd) (hd : dep < 3) : ¬ (decide (3 ≤ I (P + 5) 7)) = true := by
  rw [g.2.1.1, decide_eq_false (show ¬ (3 : Int32) ≤ nI dep from nI_ge (b := 3) hd (by decide))]; decide
theorem DS.ad (g : DS I (P + 5) pk dep st cd) (hP : p + 3 ≤ P) (h : ∀ z, z ≠ p + 1 → J z = I z) : DS J (P + 5) pk dep st cd := g.fr (h _ (by omega)) (h _ (by omega)) (h _ (by omega)) (h _ (by omega))
theorem dk_turn {x : String} {F : Option (Bool × JI)} {J : JI} (h : RD I (p + 1) 1 (tb x) r) (hx : x = "repeat" ∨ x = "mirror" ∨ x = "back") (hF : s_X5_readOpening I p P = bd (s_X2_advance J (p + 1)) fun K => some (true, K)) : DT1 p P w1 I 1 J := by
  intro f i hi
  have e3 : (bd2 (s_X5_readOpening I p P) fun z34 I33 => if z34 = true then (s_X5_readDeck_L30 p P f 1 (nI i + 1) I33) else (some (.inl (false, I33)))) = bd (s_X2_advance J (p + 1)) fun K => s_X5_readDeck_L30 p P f 1 (nI (i + 1)) K := by
    rw [hF, nI_1]
    cases s_X2_advance J (p + 1) <;> rfl
  have h128 : ∀ y, y ∈ tb x → y < 128 := by rcases hx with rfl | rfl | rfl; exact aw_repeat.2.1; exact aw_mirror.2.1; exact aw_back.2.1
  rw [s_X5_readDeck_L30, if_neg (i500 hi), h.2.1, if_neg (show ¬ nI 1 = 2 by decide), if_neg (show ¬ nI 1 = 2 by decide), isW h h128 aw_repeat, isW h h128 aw_mirror, isW h h128 aw_back]
  simp only [bd_some]
  rcases hx with rfl | rfl | rfl
  · rw [if_pos (show decide (tb "repeat" = tb "repeat") = true by decide +kernel), if_pos (show decide (tb "repeat" = tb "repeat") = true by decide +kernel), e3]
    split <;> rfl
  · rw [if_neg (show ¬ decide (tb "mirror" = tb "repeat") = true by decide +kernel), if_neg (show ¬ decide (tb "mirror" = tb "repeat") = true by decide +kernel), if_pos (show decide (tb "mirror" = tb "mirror") = true by decide +kernel), if_pos (show decide (tb "mirror" = tb "mirror") = true by decide +kernel), e3]
    split <;> rfl
  · rw [if_neg (show ¬ decide (tb "back" = tb "repeat") = true by decide +kernel), if_neg (show ¬ decide (tb "back" = tb "repeat") = true by decide +kernel), if_neg (show ¬ decide (tb "back" = tb "mirror") = true by decide +kernel), if_neg (show ¬ decide (tb "back" = tb "mirror") = true by decide +kernel), if_pos (show decide (tb "back" = tb "back") = true by decide +kernel), if_pos (show decide (tb "back" = tb "back") = true by decide +kernel), e3]
    split <;> rfl
theorem dk_rep (h : RD I (p + 1) 1 (tb "repeat") ([32] ++ (dg v ++ ([32, 40] ++ r)))) (hv : 1 ≤ v ∧ v ≤ 20) (hP : p + 3 ≤ P) (g : DS I (P + 5) pk dep st cd) (hd : dep < 3) : ∃ J, RP J (p + 1) r ∧ DS J (P + 5) pk (dep + 1) (upN st dep pk.length) (upN cd dep (200 + v)) ∧ DQ p P I J ∧ DT1 p P w1 I 1 J := by
  obtain ⟨K1, a1, a2, a3, a4⟩ := adv_n (s := 1) h.rp (by omega) (show hd0 isD (32 :: 40 :: r) from hd_sp (by decide))
  have e1 := see_n (P := P) (x1 := 1) (x2 := 20) a2 a3 (nI_nlt (b := 1) hv.1 (by omega)) (nI_le (b := 20) hv.2 (by decide))
  obtain ⟨K2, b1, b2, b3⟩ := adv_s (s := 1) (b := 40) (k := 4) (r := r) (a2.st (j := 4) (x := nI v)).rp (Or.inl ⟨rfl, rfl⟩)
  have g1 := ((g.ad hP a4).st0 hP (j := 4) (x := nI v)).ad hP b3
  obtain ⟨c1, c2, c3⟩ := dk_op (v := 200 + v) hP g1 hd b2
  refine ⟨_, c1, c2, fun z z1 z2 z3 => by rw [c3 z z1 z2 z3, b3 z z2, stI_ne z1, a4 z z2], dk_turn (F := none) h (Or.inl rfl) ?_⟩
  unfold s_X5_readOpening
  rw [if_neg (hd3 g hd), isW h aw_repeat.2.1 aw_repeat, isW h aw_repeat.2.1 aw_mirror, bd_some, bd_some, if_neg (show ¬ decide (tb "repeat" = tb "mirror") = true by decide +kernel), a1, bd_some, if_pos (show decide (tb "repeat" = tb "repeat") = true by decide +kernel), e1, bd2_some, if_pos rfl, lx_s, stI_at, b1, bd_some, b2.2.1, if_pos (show nI 4 = 4 from rfl), lx_s, show (200 : Int32) = nI 200 from rfl, nI_add]
theorem dk_mir (h : RD I (p + 1) 1 (tb "mirror") ([32, 40] ++ r)) (hP : p + 3 ≤ P) (g : DS I (P + 5) pk dep st cd) (hd : dep < 3) : ∃ J, RP J (p + 1) r ∧ DS J (P + 5) pk (dep + 1) (upN st dep pk.length) (upN cd dep 101) ∧ DQ p P I J ∧ DT1 p P w1 I 1 J := by
  obtain ⟨K2, b1, b2, b3⟩ := adv_s (s := 1) (b := 40) (k := 4) (r := r) h.rp (Or.inl ⟨rfl, rfl⟩)
  obtain ⟨c1, c2, c3⟩ := dk_op (v := 101) hP (g.ad hP b3) hd b2
  refine ⟨_, c1, c2, fun z z1 z2 z3 => by rw [c3 z z1 z2 z3, b3 z z2], dk_turn (F := none) h (Or.inr (Or.inl rfl)) ?_⟩
  unfold s_X5_readOpening
  rw [if_neg (hd3 g hd), isW h aw_mirror.2.1 aw_repeat, isW h aw_mirror.2.1 aw_mirror, bd_some, bd_some, if_pos (show decide (tb "mirror" = tb "mirror") = true by decide +kernel), b1, bd_some, if_neg (show ¬ decide (tb "mirror" = tb "repeat") = true by decide +kernel), b2.2.1, if_pos (show nI 4 = 4 from rfl), lx_s]
  rfl
theorem dk_back (h : RD I (p + 1) 1 (tb "back") ([32, 40] ++ r)) (hP : p + 3 ≤ P) (g : DS I (P + 5) pk dep st cd) (hd : dep < 3) : ∃ J, RP J (p + 1) r ∧ DS J (P + 5) pk (dep + 1) (upN st dep pk.length) (upN cd dep 102) ∧ DQ p P I J ∧ DT1 p P w1 I 1 J := by
  obtain ⟨K2, b1, b2, b3⟩ := adv_s (s := 1) (b := 40) (k := 4) (r := r) h.rp (Or.inl ⟨rfl, rfl⟩)
  obtain ⟨c1, c2, c3⟩ := dk_op (v := 102) hP (g.ad hP b3) hd b2
  refine ⟨_, c1, c2, fun z z1 z2 z3 => by rw [c3 z z1 z2 z3, b3 z z2], dk_turn (F := none) h (Or.inr (Or.inr rfl)) ?_⟩
  unfold s_X5_readOpening
  rw [if_neg (hd3 g hd), isW h aw_back.2.1 aw_repeat, isW h aw_back.2.1 aw_mirror, bd_some, bd_some, if_neg (show ¬ decide (tb "back" = tb "mirror") = true by decide +kernel), b1, bd_some, if_neg (show ¬ decide (tb "back" = tb "repeat") = true by decide +kernel), b2.2.1, if_pos (show nI 4 = 4 from rfl), lx_s]
  rfl
theorem dk_end (h : AB I (p + 1) r) (g : DS I (P + 5) pk 0 st cd) {f i : Nat} (hi : i < 500) : s_X5_readDeck_L30 p P (f + 1) 0 (nI i) I = some (.inl (true, I)) := by
  have hk : ∃ k w r, RD I (p + 1) k w r ∧ (k = 0 ∨ k = 3) := by
    rcases h with ⟨-, h⟩ | ⟨r1, -, h⟩
    · exact ⟨_, _, _, h, Or.inl rfl⟩
    · exact ⟨_, _, _, h, Or.inr rfl⟩
  obtain ⟨k, w, r', hr, hk⟩ := hk
  rw [s_X5_readDeck_L30, if_neg (i500 hi), if_pos (show I (P + 5) 7 ≤ 0 by rw [g.2.1.1]; decide), hr.2.1, if_neg (show ¬ nI k = 2 by rcases hk with rfl | rfl <;> decide), isW0 hr (by omega) (by omega), isW0 hr (by omega) (by omega), isW0 hr (by omega) (by omega), bd_some, if_neg (by decide), bd_some, if_neg (by decide), bd_some, if_neg (by decide), if_neg (show ¬ nI k = 5 by rcases hk with rfl | rfl <;> decide), if_pos rfl]
end DKC
