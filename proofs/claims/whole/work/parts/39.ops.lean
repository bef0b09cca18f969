/-! the changes of a state, both ways -/
def up (f : Nat → Int32) (k : Nat) (v : Int32) : Nat → Int32 := fun j => if j = k then v else f j
theorem up_eq {f : Nat → Int32} {k : Nat} {v : Int32} : up f k v k = v := if_pos rfl
theorem up_ne {f : Nat → Int32} {k j : Nat} {v : Int32} (h : j ≠ k) : up f k v j = f j := if_neg h
theorem stI_up {J : JI} {a k : Nat} {v : Int32} : stI J a k v a = up (J a) k v := by
  funext j
  simp [stI, up]
/-- the places that no call changes -/
def fixP (k : Nat) : Prop := k ≤ 4 ∨ k = 6 ∨ k = 7 ∨ k = 11 ∨ k = 12 ∨ (38 ≤ k ∧ k < 110 ∧ k % 3 ≠ 1) ∨ (116 ≤ k ∧ k < 164 ∧ 2 ≤ k % 4) ∨ (164 ≤ k ∧ k < 264) ∨ 1764 ≤ k
section OPS
variable {I I' : JI} {L s H W C P R R' : Nat} {f f' : Nat → Int32}
theorem KR_frame (h : KR I L s f H W C P R) (hs : L + 10 ≤ s) (hI : ∀ z, z < s ∨ s + 7 ≤ z → I' z = I z) (hf : ∀ k, fixP k → f' k = f k) (hv : SVal I' s H W C P R') (hb : SBlk I' L s f' H W C R') : KR I' L s f' H W C P R' := by
  obtain ⟨h1, h2, -, -⟩ := h
  refine ⟨?_, ?_, hv, hb⟩
  · unfold LVal at *
    rw [hI L (by omega), hI (L + 1) (by omega), hI (L + 2) (by omega), hI (L + 3) (by omega), hI (L + 4) (by omega), hI (L + 5) (by omega), hI (L + 5 + 2) (by omega)]
    exact h1
  · obtain ⟨-, ⟨-, a4⟩, ⟨-, a6⟩, ⟨-, a8⟩, -⟩ := h1
    obtain ⟨⟨x0, x1, x2, x3, x4, x7, x11, x12⟩, y1, y2, y3, y4⟩ := h2
    unfold FBlk
    rw [hI L (by omega), hI (L + 1) (by omega), hI (L + 2) (by omega), hI (L + 3) (by omega), hI (L + 4) (by omega), hI (L + 5) (by omega), hI (L + 5 + 2) (by omega)]
    refine ⟨⟨?_, ?_, ?_, ?_, ?_, ?_, ?_, ?_⟩, fun w hw => ⟨?_, ?_⟩, fun c hc => ⟨?_, ?_⟩, fun k hk => ?_, ?_⟩
    · rw [hf 0 (by unfold fixP; omega)]; exact x0
    · rw [hf 1 (by unfold fixP; omega)]; exact x1
    · rw [hf 2 (by unfold fixP; omega)]; exact x2
    · rw [hf 3 (by unfold fixP; omega)]; exact x3
    · rw [hf 4 (by unfold fixP; omega)]; exact x4
    · rw [hf 7 (by unfold fixP; omega)]; exact x7
    · rw [hf 11 (by unfold fixP; omega)]; exact x11
    · rw [hf 12 (by unfold fixP; omega)]; exact x12
    · rw [hf _ (by unfold fixP; omega)]; exact (y1 w hw).1
    · rw [hf _ (by unfold fixP; omega)]; exact (y1 w hw).2
    · rw [hf _ (by unfold fixP; omega)]; exact (y2 c hc).1
    · rw [hf _ (by unfold fixP; omega)]; exact (y2 c hc).2
    · rw [hf _ (by unfold fixP; omega)]; exact y3 k hk
    · obtain ⟨n, n1, n2, n3, n4⟩ := y4
      refine ⟨n, by rw [hI (L + 5 + 1) (by omega)]; exact n1, by rw [hI (L + 5) (by omega)]; exact n2, by rw [hf 6 (by unfold fixP; omega)]; exact n3, fun k hk => ?_⟩
      rw [hI (L + 5 + 1) (by omega), hf _ (by unfold fixP; omega)]
      exact n4 k hk
theorem RPart_frame {d : Nat} (h : RPart I d f) (h0 : I' d = I d) (h1 : I' (d + 1) = I (d + 1)) (hf : ∀ k, fixP k → f' k = f k) : RPart I' d f' := by
  obtain ⟨n, n1, n2, n3, n4⟩ := h
  refine ⟨n, by rw [h1]; exact n1, by rw [h0]; exact n2, by rw [hf 6 (by unfold fixP; omega)]; exact n3, fun k hk => ?_⟩
  rw [h1, hf _ (by unfold fixP; omega)]
  exact n4 k hk
theorem KR_yarn (h : KR I L s f H W C P R) (hs : L + 10 ≤ s) {q : Nat} (hq : q < 6) (v : Int32) : KR (stI I (s + 2) q v) L s (up f (110 + q) v) H W C P R := by
  have hx := h
  obtain ⟨⟨-, ⟨-, l1⟩, ⟨-, l2⟩, -⟩, -, hv, hb⟩ := hx
  have b1 := h.g.2.1
  have b5 := h.g.2.2.2.2.2.1
  refine KR_frame h hs (fun z hz => stI_ne (by omega)) (fun k hk => up_ne (by unfold fixP at hk; omega)) ?_ ?_
  · unfold SVal at *
    rw [stI_ne (show s ≠ s + 2 by omega), stI_ne (show s + 3 ≠ s + 2 by omega), stI_ne (show s + 4 ≠ s + 2 by omega), stI_ne (show s + 5 ≠ s + 2 by omega), stI_ne (show s + 6 ≠ s + 2 by omega)]
    exact hv
  · obtain ⟨z1, z2, z3, z4, z5, z6, z7, z8⟩ := hb
    unfold SBlk cellC at *
    rw [stI_ne (show s ≠ s + 2 by omega), stI_ne (show s + 1 ≠ s + 2 by omega), stI_ne (show s + 3 ≠ s + 2 by omega), stI_ne (show s + 4 ≠ s + 2 by omega), stI_ne (show s + 5 ≠ s + 2 by omega), stI_ne (show s + 6 ≠ s + 2 by omega), stI_ne (show L + 2 ≠ s + 2 by omega)]
    refine ⟨?_, ?_, ?_, fun k hk => ?_, fun w hw => ?_, fun c hc => ?_, fun c hc => ?_, fun r hr => ⟨?_, fun w hw => ?_⟩⟩
    · rw [up_ne (by omega)]; exact z1
    · rw [up_ne (by omega)]; exact z2
    · rw [up_ne (by omega), up_ne (by omega), up_ne (by omega)]; exact z3
    · rw [up_ne (by omega), up_ne (by omega), up_ne (by omega)]; exact z4 k hk
    · rw [up_ne (by omega)]; exact z5 w hw
    · by_cases e : c = q
      · subst e; rw [up_eq, stI_at]
      · rw [up_ne (by omega), stI_aj e]; exact z6 c hc
    · rw [up_ne (by omega), up_ne (by omega)]; exact z7 c hc
    · rw [up_ne (by omega)]; exact (z8 r hr).1
    · rw [up_ne (by omega)]; exact (z8 r hr).2 w hw
/-- the yarn brought -/
theorem KR_brought (h : KR I L s f H W C P R) (hs : L + 10 ≤ s) (v : Int32) : KR (stI I s 4 v) L s (up f 10 v) H W C P R := by
  have hx := h
  obtain ⟨⟨-, ⟨-, l1⟩, ⟨-, l2⟩, -⟩, -, hv, hb⟩ := hx
  have b1 := h.g.2.1
  have b5 := h.g.2.2.2.2.2.1
  refine KR_frame h hs (fun z hz => stI_ne (by omega)) (fun k hk => up_ne (by unfold fixP at hk; omega)) ?_ ?_
  · unfold SVal at *
    rw [stI_aj (show 0 ≠ 4 by decide), stI_aj (show 1 ≠ 4 by decide), stI_aj (show 2 ≠ 4 by decide), stI_aj (show 3 ≠ 4 by decide), stI_aj (show 5 ≠ 4 by decide), stI_ne (show s + 3 ≠ s by omega), stI_ne (show s + 4 ≠ s by omega), stI_ne (show s + 5 ≠ s by omega), stI_ne (show s + 6 ≠ s by omega)]
    exact hv
  · obtain ⟨z1, z2, z3, z4, z5, z6, z7, z8⟩ := hb
    unfold SBlk cellC at *
    rw [stI_aj (show 0 ≠ 4 by decide), stI_aj (show 1 ≠ 4 by decide), stI_aj (show 2 ≠ 4 by decide), stI_aj (show 3 ≠ 4 by decide), stI_aj (show 5 ≠ 4 by decide), stI_at, stI_ne (show s + 1 ≠ s by omega), stI_ne (show s + 2 ≠ s by omega), stI_ne (show s + 3 ≠ s by omega), stI_ne (show s + 4 ≠ s by omega), stI_ne (show s + 5 ≠ s by omega), stI_ne (show s + 6 ≠ s by omega), stI_ne (show L + 2 ≠ s by omega)]
    refine ⟨?_, ?_, ?_, fun k hk => ?_, fun w hw => ?_, fun c hc => ?_, fun c hc => ?_, fun r hr => ⟨?_, fun w hw => ?_⟩⟩
    · rw [up_ne (by omega)]; exact z1
    · rw [up_eq]
    · rw [up_ne (by omega), up_ne (by omega), up_ne (by omega)]; exact z3
    · rw [up_ne (by omega), up_ne (by omega), up_ne (by omega)]; exact z4 k hk
    · rw [up_ne (by omega)]; exact z5 w hw
    · rw [up_ne (by omega)]; exact z6 c hc
    · rw [up_ne (by omega), up_ne (by omega)]; exact z7 c hc
    · rw [up_ne (by omega)]; exact (z8 r hr).1
    · rw [up_ne (by omega)]; exact (z8 r hr).2 w hw
/-- a card's lifts or colour changed -/
theorem KR_lifts (h : KR I L s f H W C P R) (hs : L + 10 ≤ s) {c : Nat} (hc : c < C) {v : Int32} (hv2 : LB H v) : KR (stI (stI I (s + 3) c v) s 5 1) L s (up (up f (116 + 4 * c) v) 8 1) H W C P R := by
  have hx := h
  obtain ⟨⟨-, ⟨-, l1⟩, ⟨-, l2⟩, -⟩, -, hv, hb⟩ := hx
  have b1 := h.g.2.1
  have b5 := h.g.2.2.2.2.2.1
  have n0 : ∀ j, j ≠ 5 → stI (stI I (s + 3) c v) s 5 1 s j = I s j := fun j hj => by rw [stI_aj hj, stI_o (by omega)]
  have n1 : ∀ z, z ≠ s → z ≠ s + 3 → stI (stI I (s + 3) c v) s 5 1 z = I z := fun z h1 h2 => by rw [stI_ne h1, stI_ne h2]
  have n2 : ∀ j, stI (stI I (s + 3) c v) s 5 1 (s + 3) j = if j = c then v else I (s + 3) j := fun j => by
    rw [stI_o (by omega)]
    by_cases e : j = c
    · subst e; rw [if_pos rfl, stI_at]
    · rw [if_neg e, stI_aj e]
  refine KR_frame h hs (fun z hz => n1 z (by omega) (by omega)) (fun k hk => by unfold fixP at hk; rw [up_ne (by omega), up_ne (by omega)]) ?_ ?_
  · obtain ⟨y1, y2, y3, y4, y5, y6, y7⟩ := hv
    unfold SVal
    rw [n0 0 (by decide), n0 1 (by decide), n0 2 (by decide), n0 3 (by decide), stI_at, n1 (s + 4) (by omega) (by omega), n1 (s + 5) (by omega) (by omega), n1 (s + 6) (by omega) (by omega)]
    refine ⟨y1, y2, y3, y4, Or.inr rfl, fun k hk => ⟨?_, (y6 k hk).2⟩, y7⟩
    rw [n2]
    split
    · exact hv2
    · exact (y6 k hk).1
  · obtain ⟨z1, z2, z3, z4, z5, z6, z7, z8⟩ := hb
    unfold SBlk cellC at *
    rw [n0 0 (by decide), n0 1 (by decide), n0 2 (by decide), n0 3 (by decide), n0 4 (by decide), stI_at, n1 (s + 1) (by omega) (by omega), n1 (s + 2) (by omega) (by omega), n1 (s + 4) (by omega) (by omega), n1 (s + 5) (by omega) (by omega), n1 (s + 6) (by omega) (by omega), n1 (L + 2) (by omega) (by omega)]
    refine ⟨?_, ?_, ?_, fun k hk => ?_, fun w hw => ?_, fun c' hc' => ?_, fun c' hc' => ?_, fun r hr => ⟨?_, fun w hw => ?_⟩⟩
    · rw [up_ne (by omega), up_ne (by omega)]; exact z1
    · rw [up_ne (by omega), up_ne (by omega)]; exact z2
    · rw [up_eq]; exact ⟨fun e => absurd e (by decide), fun e => absurd e.1 (by decide)⟩
    · rw [up_ne (by omega), up_ne (by omega), up_ne (by omega), up_ne (by omega), up_ne (by omega), up_ne (by omega)]; exact z4 k hk
    · rw [up_ne (by omega), up_ne (by omega)]; exact z5 w hw
    · rw [up_ne (by omega), up_ne (by omega)]; exact z6 c' hc'
    · rw [up_ne (show 116 + 4 * c' ≠ 8 by omega), up_ne (show 117 + 4 * c' ≠ 8 by omega), up_ne (show 117 + 4 * c' ≠ 116 + 4 * c by omega), n2]
      refine ⟨?_, (z7 c' hc').2⟩
      by_cases e : c' = c
      · subst e; rw [up_eq, if_pos rfl]
      · rw [up_ne (by omega), if_neg e]; exact (z7 c' hc').1
    · rw [up_ne (by omega), up_ne (by omega)]; exact (z8 r hr).1
    · rw [up_ne (by omega), up_ne (by omega)]; exact (z8 r hr).2 w hw
theorem KR_colour (h : KR I L s f H W C P R) (hs : L + 10 ≤ s) {c q : Nat} (hc : c < C) (hq : q < 6) : KR (stI (stI I (s + 4) c (nI q)) s 5 1) L s (up (up f (117 + 4 * c) (nI q)) 8 1) H W C P R := by
  have hx := h
  obtain ⟨⟨-, ⟨-, l1⟩, ⟨-, l2⟩, -⟩, -, hv, hb⟩ := hx
  have b1 := h.g.2.1
  have b5 := h.g.2.2.2.2.2.1
  have n0 : ∀ j, j ≠ 5 → stI (stI I (s + 4) c (nI q)) s 5 1 s j = I s j := fun j hj => by rw [stI_aj hj, stI_o (by omega)]
  have n1 : ∀ z, z ≠ s → z ≠ s + 4 → stI (stI I (s + 4) c (nI q)) s 5 1 z = I z := fun z h1 h2 => by rw [stI_ne h1, stI_ne h2]
  have n2 : ∀ j, stI (stI I (s + 4) c (nI q)) s 5 1 (s + 4) j = if j = c then nI q else I (s + 4) j := fun j => by
    rw [stI_o (by omega)]
    by_cases e : j = c
    · subst e; rw [if_pos rfl, stI_at]
    · rw [if_neg e, stI_aj e]
  refine KR_frame h hs (fun z hz => n1 z (by omega) (by omega)) (fun k hk => by unfold fixP at hk; rw [up_ne (by omega), up_ne (by omega)]) ?_ ?_
  · obtain ⟨y1, y2, y3, y4, y5, y6, y7⟩ := hv
    unfold SVal
    rw [n0 0 (by decide), n0 1 (by decide), n0 2 (by decide), n0 3 (by decide), stI_at, n1 (s + 3) (by omega) (by omega), n1 (s + 5) (by omega) (by omega), n1 (s + 6) (by omega) (by omega)]
    refine ⟨y1, y2, y3, y4, Or.inr rfl, fun k hk => ⟨(y6 k hk).1, ?_⟩, y7⟩
    rw [n2]
    split
    · exact ⟨q, hq, rfl⟩
    · exact (y6 k hk).2
  · obtain ⟨z1, z2, z3, z4, z5, z6, z7, z8⟩ := hb
    unfold SBlk cellC at *
    rw [n0 0 (by decide), n0 1 (by decide), n0 2 (by decide), n0 3 (by decide), n0 4 (by decide), stI_at, n1 (s + 1) (by omega) (by omega), n1 (s + 2) (by omega) (by omega), n1 (s + 3) (by omega) (by omega), n1 (s + 5) (by omega) (by omega), n1 (s + 6) (by omega) (by omega), n1 (L + 2) (by omega) (by omega)]
    refine ⟨?_, ?_, ?_, fun k hk => ?_, fun w hw => ?_, fun c' hc' => ?_, fun c' hc' => ?_, fun r hr => ⟨?_, fun w hw => ?_⟩⟩
    · rw [up_ne (by omega), up_ne (by omega)]; exact z1
    · rw [up_ne (by omega), up_ne (by omega)]; exact z2
    · rw [up_eq]; exact ⟨fun e => absurd e (by decide), fun e => absurd e.1 (by decide)⟩
    · rw [up_ne (by omega), up_ne (by omega), up_ne (by omega), up_ne (by omega), up_ne (by omega), up_ne (by omega)]; exact z4 k hk
    · rw [up_ne (by omega), up_ne (by omega)]; exact z5 w hw
    · rw [up_ne (by omega), up_ne (by omega)]; exact z6 c' hc'
    · rw [up_ne (show 116 + 4 * c' ≠ 8 by omega), up_ne (show 117 + 4 * c' ≠ 8 by omega), up_ne (show 116 + 4 * c' ≠ 117 + 4 * c by omega), n2]
      refine ⟨(z7 c' hc').1, ?_⟩
      by_cases e : c' = c
      · subst e; rw [up_eq, if_pos rfl]
      · rw [up_ne (by omega), if_neg e]; exact (z7 c' hc').2
    · rw [up_ne (by omega), up_ne (by omega)]; exact (z8 r hr).1
    · rw [up_ne (by omega), up_ne (by omega)]; exact (z8 r hr).2 w hw
/-- the broken warps -/
theorem KR_broken (h : KR I L s f H W C P R) (hs : L + 10 ≤ s) {v : Int32} (hv2 : LB W v) {g : Nat → Int32} (hg : ∀ w, w < W → g (40 + 3 * w) = zb (bt v w)) (hg2 : ∀ k, ¬ (40 ≤ k ∧ k < 110 ∧ k % 3 = 1) → g k = f k) : KR (stI I s 2 v) L s g H W C P R := by
  have hx := h
  obtain ⟨⟨-, ⟨-, l1⟩, ⟨-, l2⟩, -⟩, -, hv, hb⟩ := hx
  have b1 := h.g.2.1
  have b5 := h.g.2.2.2.2.2.1
  refine KR_frame h hs (fun z hz => stI_ne (by omega)) (fun k hk => hg2 _ (by unfold fixP at hk; omega)) ?_ ?_
  · obtain ⟨y1, y2, y3, y4, y5, y6, y7⟩ := hv
    unfold SVal
    rw [stI_aj (show 0 ≠ 2 by decide), stI_aj (show 1 ≠ 2 by decide), stI_at, stI_aj (show 3 ≠ 2 by decide), stI_aj (show 5 ≠ 2 by decide), stI_ne (show s + 3 ≠ s by omega), stI_ne (show s + 4 ≠ s by omega), stI_ne (show s + 5 ≠ s by omega), stI_ne (show s + 6 ≠ s by omega)]
    exact ⟨y1, y2, hv2, y4, y5, y6, y7⟩
  · obtain ⟨z1, z2, z3, z4, z5, z6, z7, z8⟩ := hb
    unfold SBlk cellC at *
    rw [stI_aj (show 0 ≠ 2 by decide), stI_aj (show 1 ≠ 2 by decide), stI_aj (show 4 ≠ 2 by decide), stI_aj (show 3 ≠ 2 by decide), stI_aj (show 5 ≠ 2 by decide), stI_at, stI_ne (show s + 1 ≠ s by omega), stI_ne (show s + 2 ≠ s by omega), stI_ne (show s + 3 ≠ s by omega), stI_ne (show s + 4 ≠ s by omega), stI_ne (show s + 5 ≠ s by omega), stI_ne (show s + 6 ≠ s by omega), stI_ne (show L + 2 ≠ s by omega)]
    refine ⟨?_, ?_, ?_, fun k hk => ?_, fun w hw => hg w hw, fun c hc => ?_, fun c hc => ?_, fun r hr => ⟨?_, fun w hw => ?_⟩⟩
    · rw [hg2 _ (by omega)]; exact z1
    · rw [hg2 _ (by omega)]; exact z2
    · rw [hg2 _ (by omega), hg2 _ (by omega), hg2 _ (by omega)]; exact z3
    · rw [hg2 _ (by omega), hg2 _ (by omega), hg2 _ (by omega)]; exact z4 k hk
    · rw [hg2 _ (by omega)]; exact z6 c hc
    · rw [hg2 _ (by omega), hg2 _ (by omega)]; exact z7 c hc
    · rw [hg2 _ (by omega)]; exact (z8 r hr).1
    · rw [hg2 _ (by omega)]; exact (z8 r hr).2 w hw
/-- one harness: its lifted bit, its wear, its stuck bit -/
theorem KR_har (h : KR I L s f H W C P R) (hs : L + 10 ≤ s) {k : Nat} (hk : k < H) {x y v : Int32} (hx : LB H x) (hy : LB H y) (hx2 : ∀ j, j < H → j ≠ k → bt x j = bt (I s 0) j) (hy2 : ∀ j, j < H → j ≠ k → bt y j = bt (I s 1) j)
    (h0 : I' s 0 = x) (h1 : I' s 1 = y) (h2 : ∀ j, 2 ≤ j → j ≠ 5 → I' s j = I s j) (h5 : I' s 5 = 0 ∨ I' s 5 = 1) (h3 : ∀ j, I' (s + 1) j = if j = k then v else I (s + 1) j) (h4 : ∀ z, z ≠ s → z ≠ s + 1 → I' z = I z)
    {g : Nat → Int32} (g0 : g (14 + 3 * k) = zb (bt x k)) (g1 : g (15 + 3 * k) = v) (g2 : g (16 + 3 * k) = zb (bt y k)) (gd : I' s 5 = 0 ↔ g 8 = 0 ∧ g 9 = 0 ∧ g 13 = 0) (gg : ∀ j, j ≠ 14 + 3 * k → j ≠ 15 + 3 * k → j ≠ 16 + 3 * k → j ≠ 9 → g j = f j) : KR I' L s g H W C P R := by
  have hq := h
  obtain ⟨⟨⟨-, l0⟩, ⟨-, l1⟩, ⟨-, l2⟩, -⟩, -, hv, hb⟩ := hq
  have b5 := h.g.2.2.2.2.2.1
  refine KR_frame h hs (fun z hz => h4 z (by omega) (by omega)) (fun j hj => gg j (by unfold fixP at hj; omega) (by unfold fixP at hj; omega) (by unfold fixP at hj; omega) (by unfold fixP at hj; omega)) ?_ ?_
  · obtain ⟨y1, y2, y3, y4, y5, y6, y7⟩ := hv
    unfold SVal
    rw [h0, h1, h2 2 (by decide) (by decide), h2 3 (by decide) (by decide), h4 (s + 3) (by omega) (by omega), h4 (s + 4) (by omega) (by omega), h4 (s + 5) (by omega) (by omega), h4 (s + 6) (by omega) (by omega)]
    exact ⟨hx, hy, y3, y4, h5, y6, y7⟩
  · obtain ⟨z1, z2, z3, z4, z5, z6, z7, z8⟩ := hb
    unfold SBlk cellC at *
    rw [h0, h1, h2 2 (by decide) (by decide), h2 3 (by decide) (by decide), h2 4 (by decide) (by decide), h4 (s + 2) (by omega) (by omega), h4 (s + 3) (by omega) (by omega), h4 (s + 4) (by omega) (by omega), h4 (s + 5) (by omega) (by omega), h4 (s + 6) (by omega) (by omega), h4 (L + 2) (by omega) (by omega)]
    refine ⟨?_, ?_, gd, fun j hj => ?_, fun w hw => ?_, fun c hc => ?_, fun c hc => ?_, fun r hr => ⟨?_, fun w hw => ?_⟩⟩
    · rw [gg 5 (by omega) (by omega) (by omega) (by omega)]; exact z1
    · rw [gg 10 (by omega) (by omega) (by omega) (by omega)]; exact z2
    · rw [h3]
      by_cases e : j = k
      · subst e; rw [if_pos rfl]; exact ⟨g0, g1, g2⟩
      · rw [if_neg e, gg _ (by omega) (by omega) (by omega) (by omega), gg _ (by omega) (by omega) (by omega) (by omega), gg _ (by omega) (by omega) (by omega) (by omega), hx2 j hj e, hy2 j hj e]
        exact z4 j hj
    · rw [gg _ (by omega) (by omega) (by omega) (by omega)]; exact z5 w hw
    · rw [gg _ (by omega) (by omega) (by omega) (by omega)]; exact z6 c hc
    · rw [gg _ (by omega) (by omega) (by omega) (by omega), gg _ (by omega) (by omega) (by omega) (by omega)]; exact z7 c hc
    · rw [gg _ (by omega) (by omega) (by omega) (by omega)]; exact (z8 r hr).1
    · rw [gg _ (by omega) (by omega) (by omega) (by omega)]; exact (z8 r hr).2 w hw
end OPS
