/-! the deck of a setup -/
/-- the deck d holds the picks pk; dep parts are open, that of depth i began at st i and has the code cd i -/
def DS (I : JI) (d : Nat) (pk : List Nat) (dep : Nat) (st cd : Nat → Nat) : Prop := (I d 3 = nI pk.length ∧ pk.length ≤ 60 ∧ ∀ i, i < pk.length → I (d + 2) i = nI (pk.getD i 0)) ∧ (I d 7 = nI dep ∧ dep ≤ 3) ∧ ∀ i, i < dep → I (d + 4) i = nI (st i) ∧ I (d + 3) i = nI (cd i) ∧ st i ≤ pk.length
/-- all but the deck -/
def DF (d : Nat) (I J : JI) : Prop := ∀ z, z < d ∨ d + 5 ≤ z → J z = I z
section DKS
variable {I J K : JI} {d dep v c k : Nat} {st cd : Nat → Nat} {pk : List Nat}
theorem DF.rf : DF d I I := fun _ _ => rfl
theorem DF.tr (h : DF d I J) (g : DF d J K) : DF d I K := fun z hz => (g z hz).trans (h z hz)
theorem DS.fr (h : DS I d pk dep st cd) (h0 : J d = I d) (h2 : J (d + 2) = I (d + 2)) (h3 : J (d + 3) = I (d + 3)) (h4 : J (d + 4) = I (d + 4)) : DS J d pk dep st cd := by
  unfold DS; rw [h0, h2, h3, h4]; exact h
theorem DS.addPart (h : DS I d pk dep st cd) (x : Int32) : DS (x0_addPart I d x) d pk dep st cd ∧ DF d I (x0_addPart I d x) := by
  have f : ∀ z, z ≠ d → z ≠ d + 1 → x0_addPart I d x z = I z := fun z z0 z1 => by unfold x0_addPart; rw [stI_ne z0, ptI_ne z1]
  have g : ∀ j, j ≠ 1 → x0_addPart I d x d j = I d j := fun j hj => by unfold x0_addPart; rw [stI_aj hj, ptI_ne (by omega)]
  refine ⟨?_, fun z hz => f z (by omega) (by omega)⟩
  unfold DS
  rw [f (d + 2) (by omega) (by omega), f (d + 4) (by omega) (by omega), f (d + 3) (by omega) (by omega), g 3 (by decide), g 7 (by decide)]
  exact h
theorem DS.addPick (h : DS I d pk dep st cd) (hl : pk.length < 60) : DS (x0_addPick I d (nI c)) d (pk ++ [c]) dep st cd ∧ DF d I (x0_addPick I d (nI c)) := by
  obtain ⟨⟨h1, h2, h3⟩, ⟨h4, h5⟩, h6⟩ := h
  have e : x0_addPick I d (nI c) = stI (stI I (d + 2) pk.length (nI c)) d 3 (nI (pk.length + 1)) := by
    unfold x0_addPick
    rw [h1, ptI_nI (by omega) (by omega), stI_ne (show d ≠ d + 2 by omega), h1, nI_1]
  rw [e]
  have f : ∀ z, z ≠ d → z ≠ d + 2 → stI (stI I (d + 2) pk.length (nI c)) d 3 (nI (pk.length + 1)) z = I z := fun z z0 z1 => by rw [stI_ne z0, stI_ne z1]
  refine ⟨⟨⟨by rw [stI_at, List.length_append]; rfl, by rw [List.length_append]; simp; omega, fun i hi => ?_⟩, ⟨by rw [stI_aj (by decide), stI_ne (by omega)]; exact h4, h5⟩, fun i hi => ?_⟩, fun z hz => f z (by omega) (by omega)⟩
  · rw [List.length_append] at hi
    simp only [List.length_singleton] at hi
    rw [stI_ne (by omega)]
    by_cases q : i = pk.length
    · subst q; rw [stI_at]
      rw [show (pk ++ [c]).getD pk.length 0 = c from getD_b (l := pk) (r := [c]) (j := 0)]
    · rw [stI_aj q, getD_a (by omega)]; exact h3 i (by omega)
  · rw [f _ (by omega) (by omega), f _ (by omega) (by omega), List.length_append]
    obtain ⟨a1, a2, a3⟩ := h6 i hi
    exact ⟨a1, a2, by omega⟩
theorem DS.start (h : DS I d pk dep st cd) {k : Nat} (hk : k ≤ dep) : x0_start I d (nI k) = nI (if k = 0 then 0 else st (k - 1)) := by
  have h5 := h.2.1.2
  unfold x0_start
  by_cases q : k = 0
  · subst q; rw [if_pos (by decide), if_pos rfl]; rfl
  · rw [if_neg (show ¬ nI k ≤ 0 from nI_ge (b := k) (a := 0) (by omega) (by omega)), if_neg q, show (1 : Int32) = nI 1 from rfl, nI_sub (by omega), atF_nI (by omega) (by omega)]
    exact (h.2.2 (k - 1) (by omega)).1
theorem DS.addCard (h : DS I d pk dep st cd) (hl : pk.length < 60) : x0_addCardB I d = true ∧ DS (x0_addCard I d (nI c)) d (pk ++ [c]) dep st cd ∧ DF d I (x0_addCard I d (nI c)) := by
  have hB : x0_addCardB I d = true := by
    unfold x0_addCardB
    rw [h.1.1, h.2.1.1, h.start (Nat.le_refl _)]
    have hs : (if dep = 0 then 0 else st (dep - 1)) ≤ pk.length := by
      by_cases q : dep = 0
      · rw [if_pos q]; omega
      · rw [if_neg q]; exact (h.2.2 (dep - 1) (by omega)).2.2
    rw [nI_sub hs]
    exact decide_eq_true (nI_lt (b := 100) (by omega) (by decide))
  obtain ⟨a1, a2⟩ := h.addPart (nI c)
  obtain ⟨b1, b2⟩ := a1.addPick (c := c) hl
  refine ⟨hB, ?_⟩
  unfold x0_addCard
  rw [if_pos hB]
  refine ⟨?_, (a2.tr b2).tr fun z hz => stI_ne (by omega)⟩
  unfold DS
  rw [stI_aj (show 3 ≠ 4 by decide), stI_aj (show 7 ≠ 4 by decide), stI_ne (by omega), stI_ne (by omega), stI_ne (by omega)]
  exact b1
theorem DS.openPart (h : DS I d pk dep st cd) (hd : dep < 3) : DS (x0_openPart I d (nI c)) d pk (dep + 1) (upN st dep pk.length) (upN cd dep c) ∧ DF d I (x0_openPart I d (nI c)) := by
  obtain ⟨a1, a2⟩ := h.addPart (nI c)
  obtain ⟨A, hA⟩ : ∃ A, A = x0_addPart I d (nI c) := ⟨_, rfl⟩
  rw [← hA] at a1 a2
  obtain ⟨⟨h1, h2, h3⟩, ⟨h4, h5⟩, h6⟩ := a1
  have e1 : stI A (d + 3) dep (nI c) d = A d := stI_ne (by omega)
  have e2 : stI (stI A (d + 3) dep (nI c)) (d + 4) dep (nI pk.length) d = A d := by rw [stI_ne (by omega), e1]
  have e : x0_openPart I d (nI c) = stI (stI (stI (stI A (d + 3) dep (nI c)) (d + 4) dep (nI pk.length)) d 7 (nI (dep + 1))) d 4 (mxF (stI (stI (stI A (d + 3) dep (nI c)) (d + 4) dep (nI pk.length)) d 7 (nI (dep + 1)) d 4) (stI (stI (stI A (d + 3) dep (nI c)) (d + 4) dep (nI pk.length)) d 7 (nI (dep + 1)) d 7 + 1)) := by
    unfold x0_openPart
    rw [← hA]
    dsimp only
    rw [h4, ptI_nI hd (by omega), e1, h4, h1, ptI_nI hd (by omega), e2, h4, nI_1]
  rw [e]
  obtain ⟨x, hx⟩ : ∃ x, x = mxF (stI (stI (stI A (d + 3) dep (nI c)) (d + 4) dep (nI pk.length)) d 7 (nI (dep + 1)) d 4) (stI (stI (stI A (d + 3) dep (nI c)) (d + 4) dep (nI pk.length)) d 7 (nI (dep + 1)) d 7 + 1) := ⟨_, rfl⟩
  rw [← hx]
  refine ⟨⟨⟨?_, h2, fun i hi => ?_⟩, ⟨?_, by omega⟩, fun i hi => ?_⟩, a2.tr fun z hz => ?_⟩
  · rw [stI_aj (by decide), stI_aj (by decide), e2]; exact h1
  · rw [stI_ne (by omega), stI_ne (by omega), stI_ne (by omega), stI_ne (by omega)]; exact h3 i hi
  · rw [stI_aj (by decide), stI_at]
  · rw [stI_ne (by omega), stI_ne (by omega), stI_ne (show d + 3 ≠ d by omega), stI_ne (show d + 3 ≠ d by omega), stI_ne (show d + 3 ≠ d + 4 by omega)]
    unfold upN
    by_cases q : i = dep
    · subst q; rw [stI_at, stI_at, if_pos rfl, if_pos rfl]; exact ⟨rfl, rfl, Nat.le_refl _⟩
    · rw [stI_aj q, stI_aj q, stI_ne (show d + 4 ≠ d + 3 by omega), if_neg q, if_neg q]; exact h6 i (by omega)
  · rw [stI_ne (by omega), stI_ne (by omega), stI_ne (by omega), stI_ne (by omega)]
theorem DS.mir : ∀ (t a : Nat) (I : JI) (pk : List Nat), DS I d pk dep st cd → a + t ≤ pk.length → pk.length + t ≤ 60 → DS (mirI d a t I) d (pk ++ ((List.range t).map fun i => pk.getD (a + (t - 1 - i)) 0)) dep st cd ∧ DF d I (mirI d a t I) := by
  intro t
  induction t with
  | zero => intro a I pk h _ _; simp only [List.range_zero, List.map_nil, List.append_nil]; exact ⟨h, DF.rf⟩
  | succ t ih =>
    intro a I pk h ha hl
    rw [mirI, atF_nI (by omega) (by omega), h.1.2.2 (a + t) (by omega)]
    obtain ⟨b1, b2⟩ := h.addPick (c := pk.getD (a + t) 0) (by omega)
    obtain ⟨c1, c2⟩ := ih a _ _ b1 (by rw [List.length_append]; omega) (by rw [List.length_append]; simp; omega)
    refine ⟨?_, b2.tr c2⟩
    have e : (pk ++ [pk.getD (a + t) 0]) ++ ((List.range t).map fun i => (pk ++ [pk.getD (a + t) 0]).getD (a + (t - 1 - i)) 0) = pk ++ ((List.range (t + 1)).map fun i => pk.getD (a + (t + 1 - 1 - i)) 0) := by
      rw [List.append_assoc, List.range_succ_eq_map, List.map_cons, List.map_map]
      congr 1
      show pk.getD (a + t) 0 :: _ = pk.getD (a + (t + 1 - 1 - 0)) 0 :: _
      congr 1
      refine List.map_congr_left fun i hi => ?_
      have hi := List.mem_range.mp hi
      rw [getD_a (by omega)]
      show _ = pk.getD (a + (t + 1 - 1 - (i + 1))) 0
      congr 1; omega
    rw [← e]; exact c1
theorem DS.rep : ∀ (m j a : Nat) (I : JI) (pk : List Nat), DS I d pk dep st cd → a + j < pk.length → pk.length + m ≤ 60 → ∃ l, DS (repI d a m j I) d (pk ++ l) dep st cd ∧ DF d I (repI d a m j I) ∧ l.length = m ∧ ∀ i, i < m → l.getD i 0 = (pk ++ l).getD (a + j + i) 0 := by
  intro m
  induction m with
  | zero => intro j a I pk h _ _; exact ⟨[], by rw [List.append_nil]; exact h, DF.rf, rfl, fun i hi => absurd hi (Nat.not_lt_zero i)⟩
  | succ m ih =>
    intro j a I pk h ha hl
    rw [repI, nI_add, atF_nI (by omega) (by omega), h.1.2.2 (a + j) ha]
    obtain ⟨b1, b2⟩ := h.addPick (c := pk.getD (a + j) 0) (by omega)
    obtain ⟨l, c1, c2, c3, c4⟩ := ih (j + 1) a _ _ b1 (by rw [List.length_append]; simp; omega) (by rw [List.length_append]; simp; omega)
    have e : pk ++ (pk.getD (a + j) 0 :: l) = (pk ++ [pk.getD (a + j) 0]) ++ l := by rw [List.append_assoc]; rfl
    refine ⟨pk.getD (a + j) 0 :: l, by rw [e]; exact c1, b2.tr c2, by rw [List.length_cons, c3], fun i hi => ?_⟩
    rcases i with _ | i
    · rw [List.getD_cons_zero, Nat.add_zero, getD_a (by omega)]
    · rw [List.getD_cons_succ, e, c4 i (by omega)]
      congr 1; omega
end DKS
