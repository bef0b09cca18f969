/-! good looms and good states; weaving keeps them -/
def cdI (I : JI) (L i : Nat) : Nat := (I (L + 7) (i % (I (L + 5) 3).toNatClampNeg)).toNatClampNeg
def FOK (I : JI) (L H W : Nat) : Prop := ((2 ≤ H ∧ H ≤ 3) ∧ 1 ≤ W ∧ W ≤ 4) ∧ (I L 0 = nI H ∧ I L 4 = nI W ∧ I L 7 = nI 3 ∧ ∃ q, q ≤ 60 ∧ I L 2 = nI q) ∧ ((∀ w, w < W → ∃ h, h < H ∧ I (L + 1) w = nI h) ∧ ∀ w, w < W → ∃ c, c < 6 ∧ I (L + 2) w = nI c) ∧ (∀ k, k < 3 → LB H (I (L + 3) k) ∧ ∃ c, c < 6 ∧ I (L + 4) k = nI c) ∧ ∃ D, (0 < D ∧ D ≤ 100) ∧ I (L + 5) 3 = nI D ∧ ∀ i, i < D → ∃ c, c < 3 ∧ I (L + 7) i = nI c
def ysm (y : Nat → Nat) : Nat := y 0 + y 1 + y 2 + y 3 + y 4 + y 5
def SOK (N : Nat) (I : JI) (L s H W : Nat) : Prop := ∃ (r b : Nat) (y : Nat → Nat), (r ≤ 60 ∧ I s 3 = nI r) ∧ (b ≤ N ∧ I s 4 = nI b ∧ ysm y + r * W = b ∧ ∀ k, k < 6 → I (s + 2) k = nI (y k)) ∧ (∀ i, i < r → ∃ c, c < 6 ∧ I (s + 6) i = nI c) ∧ (I s 5 = 0 ∨ I s 5 = 1) ∧ (LB H (I s 0) ∧ LB H (I s 1)) ∧ (∀ k, k < 3 → LB H (I (s + 3) k) ∧ ∃ c, c < 6 ∧ I (s + 4) k = nI c) ∧ (I s 5 = 0 → I s 1 = 0 ∧ I s 2 = 0 ∧ (∀ k, k < 3 → I (s + 3) k = I (L + 3) k ∧ I (s + 4) k = I (L + 4) k) ∧ ∀ i, i < r → I (s + 5) i = x3_mask I L (I (L + 3) (cdI I L i)) ∧ I (s + 6) i = I (L + 4) (cdI I L i))
section OKS
variable {I J : JI} {L s t H W N M i : Nat} {mv x : Int32}
theorem LE.cdI (h : LE L I J) : cdI J L i = cdI I L i := by
  unfold Jvm.Pilot.CCardLoomLaw_law_r7482_537966.cdI
  rw [h (L + 7) (by omega) (by omega), h (L + 5) (by omega) (by omega)]
theorem FOK.le (h : LE L I J) (g : FOK I L H W) : FOK J L H W := by
  unfold FOK at g ⊢
  rw [← h L (by omega) (by omega), ← h (L + 1) (by omega) (by omega), ← h (L + 2) (by omega) (by omega), ← h (L + 3) (by omega) (by omega), ← h (L + 4) (by omega) (by omega), ← h (L + 5) (by omega) (by omega), ← h (L + 7) (by omega) (by omega)]
  exact g
theorem FOK.cfr (h : FOK I L H W) (hi : i < 2 ^ 31) : x0_cfr I (L + 5) (nI i) = nI (cdI I L i) ∧ cdI I L i < 3 := by
  obtain ⟨-, -, -, -, D, ⟨d1, d2⟩, d3, d4⟩ := h
  have hm := Nat.mod_lt i d1
  obtain ⟨c, c1, c2⟩ := d4 (i % D) hm
  have e : cdI I L i = c := by unfold cdI; rw [d3, nI_clamp (by omega), c2, nI_clamp (by omega)]
  rw [e]
  refine ⟨?_, c1⟩
  unfold x0_cfr
  rw [d3, if_pos (show (0 : Int32) < nI D from nI_lt (a := 0) d1 (by omega)), nI_modt hi d1 (by omega), atF_nI (by omega) (by omega)]
  exact c2
theorem SOK.se (h : SE I s J t) (hL : LE L I J) (g : SOK N I L s H W) : SOK N J L t H W := by
  obtain ⟨r, b, y, ⟨g1, g2⟩, ⟨g3, g4, g5, g6⟩, g7, g8, ⟨g9, g10⟩, g11, g12⟩ := g
  refine ⟨r, b, y, ⟨g1, by rw [← h.sc (j := 3) (by decide)]; exact g2⟩, ⟨g3, by rw [← h.sc (j := 4) (by decide)]; exact g4, g5, fun k hk => by rw [← h 2 k (by decide) hk]; exact g6 k hk⟩, fun i hi => ?_, by rw [← h.sc (j := 5) (by decide)]; exact g8, ⟨by rw [← h.sc (j := 0) (by decide)]; exact g9, by rw [← h.sc (j := 1) (by decide)]; exact g10⟩, fun k hk => ?_, fun q => ?_⟩
  · rw [← h 6 i (by decide) (show i < 60 by omega)]; exact g7 i hi
  · rw [← h 3 k (by decide) (show k < 12 by omega), ← h 4 k (by decide) (show k < 12 by omega)]; exact g11 k hk
  · obtain ⟨q1, q2, q3, q4⟩ := g12 (by rw [h.sc (j := 5) (by decide)]; exact q)
    refine ⟨by rw [← h.sc (j := 1) (by decide)]; exact q1, by rw [← h.sc (j := 2) (by decide)]; exact q2, fun k hk => ?_, fun i hi => ?_⟩
    · rw [← h 3 k (by decide) (show k < 12 by omega), ← h 4 k (by decide) (show k < 12 by omega), ← hL (L + 3) (by omega) (by omega), ← hL (L + 4) (by omega) (by omega)]; exact q3 k hk
    · rw [← h 5 i (by decide) (show i < 60 by omega), ← h 6 i (by decide) (show i < 60 by omega), ← hL (L + 3) (by omega) (by omega), ← hL (L + 4) (by omega) (by omega), hL.cdI, ← hL.mask]; exact q4 i hi
theorem SOK.mono (g : SOK N I L s H W) (h : N ≤ M) : SOK M I L s H W := by
  obtain ⟨r, b, y, g1, ⟨g3, g4⟩, g5⟩ := g
  exact ⟨r, b, y, g1, ⟨Nat.le_trans g3 h, g4⟩, g5⟩
theorem mvB_f {j : Nat} (hj : j < 8) (hH : H ≤ 8) (hjH : j < H) (h1 : LB H (I s 1)) (h5 : I s 5 = 0 ∨ I s 5 = 1) : LB H (mvB I L s mv j s 1) ∧ (mvB I L s mv j s 5 = 0 ∨ mvB I L s mv j s 5 = 1) ∧ (mvB I L s mv j s 5 = 0 → I s 5 = 0 ∧ mvB I L s mv j s 1 = I s 1) := by
  by_cases e : hasB mv (nI j) = true
  · have e0 : mvB I L s mv j = (if atF (I (s + 1)) 8 (nI j) + 1 = ptI I (s + 1) 8 (nI j) (atF (I (s + 1)) 8 (nI j) + 1) L 1 then stI (stI (ptI I (s + 1) 8 (nI j) (atF (I (s + 1)) 8 (nI j) + 1)) s 1 (ptI I (s + 1) 8 (nI j) (atF (I (s + 1)) 8 (nI j) + 1) s 1 ||| ((1 : Int32) <<< (nI j &&& 31)))) s 5 1 else ptI I (s + 1) 8 (nI j) (atF (I (s + 1)) 8 (nI j) + 1)) := by
      unfold mvB; rw [if_pos e]
    have k1 : ∀ i, ptI I (s + 1) 8 (nI j) (atF (I (s + 1)) 8 (nI j) + 1) s i = I s i := fun i => congrFun (fr_ptI (show s ≠ s + 1 by omega)) i
    rw [e0]
    by_cases q : atF (I (s + 1)) 8 (nI j) + 1 = ptI I (s + 1) 8 (nI j) (atF (I (s + 1)) 8 (nI j) + 1) L 1
    · rw [if_pos q, stI_aj (show (1 : Nat) ≠ 5 by decide), stI_at, stI_at, k1]
      exact ⟨h1.or (LB.shl hjH (by omega)), Or.inr rfl, fun e => absurd e (by decide)⟩
    · rw [if_neg q, k1, k1]; exact ⟨h1, h5, fun e => ⟨e, rfl⟩⟩
  · have e0 : mvB I L s mv j = I := by unfold mvB; rw [if_neg e]
    rw [e0]; exact ⟨h1, h5, fun e => ⟨e, rfl⟩⟩
theorem mvI_f (hH : H ≤ 8) : ∀ (m j : Nat) (I : JI), j + m ≤ H → LB H (I s 1) → (I s 5 = 0 ∨ I s 5 = 1) → LB H (mvI L s mv m j I s 1) ∧ (mvI L s mv m j I s 5 = 0 ∨ mvI L s mv m j I s 5 = 1) ∧ (mvI L s mv m j I s 5 = 0 → I s 5 = 0 ∧ mvI L s mv m j I s 1 = I s 1) := by
  intro m
  induction m with
  | zero => intro j I _ h1 h5; exact ⟨h1, h5, fun e => ⟨e, rfl⟩⟩
  | succ m ih =>
    intro j I hj h1 h5
    obtain ⟨a1, a2, a3⟩ := mvB_f (L := L) (mv := mv) (I := I) (s := s) (j := j) (by omega) hH (by omega) h1 h5
    obtain ⟨b1, b2, b3⟩ := ih (j + 1) _ (by omega) a1 a2
    refine ⟨b1, b2, fun e => ?_⟩
    obtain ⟨c1, c2⟩ := b3 e
    obtain ⟨d1, d2⟩ := a3 c1
    exact ⟨d1, by rw [← d2]; exact c2⟩
theorem and_m1 : x &&& ((0 : Int32) ^^^ (-1)) = x := bt_ext fun k hk => by rw [bt_and, bt_not hk, bt_zero]; simp
theorem xor_xor {y : Int32} : x ^^^ (x ^^^ y) = y := bt_ext fun k _ => by rw [bt_xor, bt_xor]; cases bt x k <;> cases bt y k <;> rfl
theorem ysm_up {y : Nat → Nat} {x a : Nat} (hx : x < 6) : ysm (fun k => if k = x then a else y k) + y x = ysm y + a := by
  unfold ysm
  rcases (show x = 0 ∨ x = 1 ∨ x = 2 ∨ x = 3 ∨ x = 4 ∨ x = 5 by omega) with rfl | rfl | rfl | rfl | rfl | rfl <;> simp <;> omega
theorem ysm_ge {y : Nat → Nat} {x : Nat} (hx : x < 6) : y x ≤ ysm y := by
  unfold ysm
  rcases (show x = 0 ∨ x = 1 ∨ x = 2 ∨ x = 3 ∨ x = 4 ∨ x = 5 by omega) with rfl | rfl | rfl | rfl | rfl | rfl <;> omega
theorem nI_subn {a b : Nat} (h : b ≤ a) : nI a + -(nI b) = nI (a - b) := by rw [← nI_sub h, Int32.sub_eq_add_neg]
theorem SOK.wn (hF : FOK I L H W) (g : SOK N I L s H W) (hs : L + 10 ≤ s) (hN : N ≤ 100000) (ho : x3_obst I L s = 0) : SOK N (x3_weaveNext I L s) L s H W ∧ ∃ r, r < 60 ∧ I s 3 = nI r ∧ x3_weaveNext I L s s 3 = nI (r + 1) := by
  have hF0 := hF
  obtain ⟨⟨⟨H2, H3⟩, W1, W4⟩, ⟨f0, f4, f7, q0, q1, q2⟩, ⟨f8, f9⟩, f10, D, ⟨d1, d2⟩, d3, d4⟩ := hF
  obtain ⟨r, b, y, ⟨g1, g2⟩, ⟨g3, g4, g5, g6⟩, g7, g8, ⟨g9, g10⟩, g11, g12⟩ := g
  obtain ⟨c1, c2⟩ := hF0.cfr (i := r) (by omega)
  obtain ⟨c, hc⟩ : ∃ c, c = cdI I L r := ⟨_, rfl⟩
  rw [← hc] at c1 c2
  obtain ⟨ll, x, x6, hx⟩ := g11 c c2
  have ew : atF (I (s + 4)) 12 (nI c) = nI x := by rw [atF_nI (by omega) (by omega)]; exact hx
  -- the obstacle
  unfold x3_obst at ho
  rw [d3, if_neg (nI_ne0 d1 (by omega)), g2, c1, ew, atF_nI x6 (by omega), g6 x x6, f4] at ho
  have hr : r < 60 := by
    rcases Nat.lt_or_ge r 60 with e | e
    · exact e
    · rw [if_pos (show (60 : Int32) ≤ nI r from nI_le (a := 60) e (by omega))] at ho; exact absurd ho (by decide)
  rw [if_neg (show ¬ (60 : Int32) ≤ nI r from nI_ge (b := 60) hr (by decide))] at ho
  have hyx := ysm_ge (y := y) x6
  have hW : W ≤ y x := by
    rcases Nat.lt_or_ge (y x) W with e | e
    · rw [if_pos (nI_lt e (by omega))] at ho; exact absurd ho (by decide)
    · exact e
  -- the yarn
  have e1 : x7_addYarn I s (nI x) (-(nI W)) = stI I (s + 2) x (nI (y x - W)) := by
    unfold x7_addYarn
    rw [ptI_nI x6 (by omega), atF_nI x6 (by omega), g6 x x6, nI_subn hW]
  unfold x3_weaveNext
  simp only []
  rw [g2, c1, ew, f4, e1, stI_ne (show s + 3 ≠ s + 2 by omega), atF_nI (show c < 12 by omega) (by omega)]
  obtain ⟨lfc, hlf⟩ : ∃ z, z = I (s + 3) c := ⟨_, rfl⟩
  rw [← hlf] at ll ⊢
  obtain ⟨I1, hI1⟩ : ∃ I1, I1 = stI I (s + 2) x (nI (y x - W)) := ⟨_, rfl⟩
  rw [← hI1]
  have o1 : ∀ z, z ≠ s + 2 → I1 z = I z := fun z hz => by rw [hI1]; exact stI_ne hz
  -- the harnesses
  have em : x3_moving I1 s lfc = (I s 0 ^^^ lfc) &&& (I s 1 ^^^ (-1)) := by unfold x3_moving; rw [o1 s (by omega)]
  obtain ⟨mv, hmv⟩ : ∃ z, z = (I s 0 ^^^ lfc) &&& (I s 1 ^^^ (-1)) := ⟨_, rfl⟩
  have e2 : x3_move I1 L s lfc = mvI L s mv H 0 (stI I1 s 0 (I s 0 ^^^ mv)) := by
    unfold x3_move
    rw [em, ← hmv, o1 L (by omega), f0, nI_clamp (by omega), o1 s (by omega)]
  rw [e2]
  obtain ⟨I2, hI2⟩ : ∃ I2, I2 = mvI L s mv H 0 (stI I1 s 0 (I s 0 ^^^ mv)) := ⟨_, rfl⟩
  rw [← hI2]
  have lbmv : LB H mv := by rw [hmv]; exact (g9.xor ll).andl
  have o2 : ∀ z, z ≠ s → z ≠ s + 1 → z ≠ s + 2 → I2 z = I z := fun z h0 h1 h2 => by rw [hI2, mvI_o h0 h1, stI_ne h0, o1 z h2]
  have y2 : I2 (s + 2) = I1 (s + 2) := by rw [hI2, mvI_o (by omega) (by omega), stI_ne (by omega)]
  have s2 : ∀ k, k ≠ 1 → k ≠ 5 → k ≠ 0 → I2 s k = I s k := fun k h1 h5 h0 => by rw [hI2, mvI_s h1 h5, stI_aj h0, o1 s (by omega)]
  have s20 : I2 s 0 = I s 0 ^^^ mv := by rw [hI2, mvI_s (by decide) (by decide), stI_at]
  obtain ⟨m1, m2, m3⟩ := mvI_f (L := L) (s := s) (mv := mv) (H := H) (by omega) H 0 (stI I1 s 0 (I s 0 ^^^ mv)) (by omega) (by rw [stI_aj (by decide), o1 s (by omega)]; exact g10) (by rw [stI_aj (by decide), o1 s (by omega)]; exact g8)
  rw [← hI2, stI_aj (by decide), stI_aj (by decide), o1 s (by omega)] at m3
  rw [← hI2] at m1 m2
  -- the row
  obtain ⟨sh, hsh⟩ : ∃ z, z = x3_mask I2 L (I2 s 0) &&& (I2 s 2 ^^^ (-1)) := ⟨_, rfl⟩
  rw [← hsh]
  have e3 : x7_addRow I2 s sh (nI x) = stI (stI (stI I2 (s + 5) r sh) (s + 6) r (nI x)) s 3 (nI (r + 1)) := by
    show stI (ptI (ptI I2 (s + 5) 60 (I2 s 3) sh) (s + 6) 60 (ptI I2 (s + 5) 60 (I2 s 3) sh s 3) (nI x)) s 3 (ptI (ptI I2 (s + 5) 60 (I2 s 3) sh) (s + 6) 60 (ptI I2 (s + 5) 60 (I2 s 3) sh s 3) (nI x) s 3 + 1) = _
    rw [s2 3 (by decide) (by decide) (by decide), g2, ptI_nI hr (by omega), stI_o (by omega), s2 3 (by decide) (by decide) (by decide), g2, ptI_nI hr (by omega), stI_o (by omega), stI_o (by omega), s2 3 (by decide) (by decide) (by decide), g2, show nI r + 1 = nI (r + 1) from (nI_succ r).symm]
  rw [e3]
  obtain ⟨I3, hI3⟩ : ∃ I3, I3 = stI (stI (stI I2 (s + 5) r sh) (s + 6) r (nI x)) s 3 (nI (r + 1)) := ⟨_, rfl⟩
  rw [← hI3]
  have o3 : ∀ z, z ≠ s → z ≠ s + 5 → z ≠ s + 6 → I3 z = I2 z := fun z h0 h1 h2 => by rw [hI3, stI_ne h0, stI_ne h2, stI_ne h1]
  have s3 : ∀ k, k ≠ 3 → I3 s k = I2 s k := fun k h => by rw [hI3, stI_aj h, stI_o (by omega), stI_o (by omega)]
  have s33 : I3 s 3 = nI (r + 1) := by rw [hI3, stI_at]
  have a5 : ∀ i, i < r → I3 (s + 5) i = I (s + 5) i := fun i hi => by rw [hI3, stI_o (by omega), stI_o (by omega), stI_aj (by omega), o2 _ (by omega) (by omega) (by omega)]
  have a5r : I3 (s + 5) r = sh := by rw [hI3, stI_o (by omega), stI_o (by omega), stI_at]
  have a6 : ∀ i, i < r → I3 (s + 6) i = I (s + 6) i := fun i hi => by rw [hI3, stI_o (by omega), stI_aj (by omega), stI_o (by omega), o2 _ (by omega) (by omega) (by omega)]
  have a6r : I3 (s + 6) r = nI x := by rw [hI3, stI_o (by omega), stI_at]
  -- the breaking
  obtain ⟨I4, hI4⟩ : ∃ I4, I4 = x3_break I3 L s := ⟨_, rfl⟩
  rw [← hI4]
  have o4 : ∀ z, z ≠ s → I4 z = I3 z := fun z h0 => by
    rw [hI4]; unfold x3_break
    by_cases e : I3 L 2 = 0 ∨ I3 s 3 < I3 L 2
    · rw [if_pos e]
    · rw [if_neg e]
      by_cases e2 : x3_strained I3 L s = 0
      · rw [if_pos e2]
      · rw [if_neg e2, stI_ne h0, stI_ne h0]
  have s4 : ∀ k, k ≠ 2 → k ≠ 5 → I4 s k = I3 s k := fun k h2 h5 => by
    rw [hI4]; unfold x3_break
    by_cases e : I3 L 2 = 0 ∨ I3 s 3 < I3 L 2
    · rw [if_pos e]
    · rw [if_neg e]
      by_cases e2 : x3_strained I3 L s = 0
      · rw [if_pos e2]
      · rw [if_neg e2, stI_aj h5, stI_aj h2]
  have s45 : (I4 s 5 = 0 ∨ I4 s 5 = 1) ∧ (I4 s 5 = 0 → I3 s 5 = 0 ∧ I4 s 2 = I3 s 2) := by
    rw [hI4]; unfold x3_break
    by_cases e : I3 L 2 = 0 ∨ I3 s 3 < I3 L 2
    · rw [if_pos e, s3 5 (by decide)]; exact ⟨m2, fun q => ⟨q, rfl⟩⟩
    · rw [if_neg e]
      by_cases e2 : x3_strained I3 L s = 0
      · rw [if_pos e2, s3 5 (by decide)]; exact ⟨m2, fun q => ⟨q, rfl⟩⟩
      · rw [if_neg e2, stI_at]; exact ⟨Or.inr rfl, fun q => absurd q (by decide)⟩
  have oL : ∀ z, z < s → I4 z = I z := fun z hz => by rw [o4 z (by omega), o3 z (by omega) (by omega) (by omega), o2 z (by omega) (by omega) (by omega)]
  have hLE : LE L I I4 := fun z h1 h2 => (oL z (by omega)).symm
  have e34 : ∀ k, k = 3 ∨ k = 4 → I4 (s + k) = I (s + k) := fun k hk => by rw [o4 _ (by omega), o3 _ (by omega) (by omega) (by omega), o2 _ (by omega) (by omega) (by omega)]
  refine ⟨⟨r + 1, b, fun k => if k = x then y x - W else y k, ⟨by omega, by rw [s4 3 (by decide) (by decide), s33]⟩, ⟨g3, by rw [s4 4 (by decide) (by decide), s3 4 (by decide), s2 4 (by decide) (by decide) (by decide)]; exact g4, ?_, fun k hk => ?_⟩, fun i hi => ?_, s45.1, ⟨by rw [s4 0 (by decide) (by decide), s3 0 (by decide), s20]; exact g9.xor lbmv, by rw [s4 1 (by decide) (by decide), s3 1 (by decide)]; exact m1⟩, fun k hk => ?_, fun q => ?_⟩, r, hr, rfl, by rw [s4 3 (by decide) (by decide), s33]⟩
  · have := ysm_up (y := y) (x := x) (a := y x - W) x6
    have e : (r + 1) * W = r * W + W := Nat.succ_mul r W
    omega
  · rw [o4 _ (by omega), o3 _ (by omega) (by omega) (by omega), y2, hI1]
    by_cases e : k = x
    · subst e; rw [stI_at]; simp only [if_true]
    · rw [stI_aj e]; simp only [if_neg e]; exact g6 k hk
  · rw [o4 _ (by omega)]
    by_cases e : i = r
    · subst e; rw [a6r]; exact ⟨x, x6, rfl⟩
    · rw [a6 i (by omega)]; exact g7 i (by omega)
  · rw [e34 3 (Or.inl rfl), e34 4 (Or.inr rfl)]; exact g11 k hk
  · obtain ⟨q1, q2⟩ := s45.2 q
    rw [s3 5 (by decide)] at q1
    obtain ⟨q3, q4⟩ := m3 q1
    obtain ⟨p1, p2, p3, p4⟩ := g12 q3
    have elf : lfc = I (L + 3) c := by rw [hlf]; exact (p3 c c2).1
    have e20 : I2 s 0 = lfc := by rw [s20, hmv, p1, and_m1]; exact xor_xor
    have esh : sh = x3_mask I L (I (L + 3) c) := by
      rw [hsh, s2 2 (by decide) (by decide) (by decide), p2, and_m1, e20, elf]
      exact (LE.mask (L := L) (I := I2) (J := I) (fun z h1 h2 => (o2 z (by omega) (by omega) (by omega))))
    refine ⟨by rw [s4 1 (by decide) (by decide), s3 1 (by decide), q4]; exact p1, by rw [q2, s3 2 (by decide), s2 2 (by decide) (by decide) (by decide)]; exact p2, fun k hk => ?_, fun i hi => ?_⟩
    · rw [e34 3 (Or.inl rfl), e34 4 (Or.inr rfl), oL _ (by omega), oL _ (by omega)]; exact p3 k hk
    · rw [hLE.cdI, ← hLE.mask, oL (L + 3) (by omega), oL (L + 4) (by omega), o4 _ (by omega), o4 _ (by omega)]
      by_cases e : i = r
      · subst e; rw [a5r, a6r, ← hc, esh]; exact ⟨rfl, by rw [← (p3 c c2).2, hx]⟩
      · rw [a5 i (by omega), a6 i (by omega)]; exact p4 i (by omega)
end OKS
