/-! the reading calls, both ways -/
section ASK
variable {I J : JI} {c L m P : Nat}
theorem RLd.kr {H W C P' R : Nat} (h : RLd I J c L m H W C P' R) (t : Int32) : KR I L (L + 10) (stI J m 0 t (m + 1)) H W C P' R := by
  rw [stI_ne (show m + 1 ≠ m by omega)]
  exact h.2.1
theorem m_look0 (h : J m 6 = 0) : s_X9_mayLook J m = some (false, stI J m 0 1) := by
  unfold s_X9_mayLook
  rw [h, gd_i (Or.inl rfl), nz0, m_may]
  rfl
theorem m_look1 (h : J m 6 = 1) : s_X9_mayLook J m = some (true, stI J m 0 0) := by
  unfold s_X9_mayLook
  rw [h, gd_i (Or.inr rfl), nz1, m_may]
  rfl
/-- asked of a loaded loom -/
theorem rq_look (h : RR I J c L m) : (s_X8_requireLoaded I c L P = some (.inr eIS, I) ∧ s_X9_mayLook J m = some (false, stI J m 0 1)) ∨ (∃ H W C P' R, RLd I J c L m H W C P' R ∧ KR I L (L + 10) (stI J m 0 0 (m + 1)) H W C P' R ∧ s_X8_requireLoaded I c L P = some (.inl (), I) ∧ s_X9_mayLook J m = some (true, stI J m 0 0)) := by
  rcases RR_ld h with ⟨a, b⟩ | ⟨a, b, H, W, C, P', R, hl⟩
  · exact Or.inl ⟨x_ld0 a, m_look0 b⟩
  · exact Or.inr ⟨H, W, C, P', R, hl, hl.kr 0, x_ld1 a, m_look1 b⟩
theorem x_rng {x : Int32} {a n : Nat} (hn : n < 2 ^ 31) (ha : a < 2 ^ 31) : ((∃ k, a ≤ k ∧ k ≤ n ∧ x = nI k) ∧ s_X8_requireRange I x (nI a) (nI n) = some (.inl (), I) ∧ s_X9_in x (nI a) (nI n) = true) ∨ ((¬ ∃ k, a ≤ k ∧ k ≤ n ∧ x = nI k) ∧ s_X8_requireRange I x (nI a) (nI n) = some (.inr eIA, I) ∧ s_X9_in x (nI a) (nI n) = false) := by
  unfold s_X8_requireRange s_X9_in
  by_cases h1 : x < nI a
  · rw [if_pos h1, if_pos h1]
    refine Or.inr ⟨?_, rfl, rfl⟩
    rintro ⟨k, h2, h3, rfl⟩
    have := (nI_ltI (by omega) ha).mp h1
    omega
  · rw [if_neg h1, if_neg h1]
    have h0 : ¬ x < 0 := fun q => h1 (Int32.lt_of_lt_of_le q (nI_pos' ha))
    obtain ⟨k, k1, rfl⟩ := nI_of h0
    have ak : a ≤ k := by
      apply Nat.le_of_not_lt
      intro q
      exact h1 (nI_lt q ha)
    by_cases h2 : nI k ≤ nI n
    · rw [if_pos h2, if_neg (Int32.not_lt.mpr h2)]
      exact Or.inl ⟨⟨k, ak, (nI_leI k1 hn).mp h2, rfl⟩, rfl, rfl⟩
    · rw [if_neg h2, if_pos (Int32.not_le.mp h2)]
      refine Or.inr ⟨?_, rfl, rfl⟩
      rintro ⟨j, j1, j2, e⟩
      have := (nI_eq k1 (by omega)).mp e
      subst this
      exact h2 (nI_le j2 hn)
theorem m_isWarp {H W C P' R : Nat} (hb : J m 6 = 1) (hl : KR I L (L + 10) (J (m + 1)) H W C P' R) (x : Int32) : (inR x W ∧ s_X9_isWarp J m x = some true) ∨ (¬ inR x W ∧ s_X9_isWarp J m x = some false) := by
  obtain ⟨⟨g0, g2, g3, g4, g5⟩, b1, b2, b3, b4, b5, b6⟩ := hl.g
  unfold s_X9_isWarp
  rw [hb, gd_i (Or.inr rfl), if_pos nz1, gl2, cl2, g2]
  by_cases q : s_X9_in x 0 (nI W - 1) = true
  · rw [if_pos q]; exact Or.inl ⟨(min_iff (by omega)).mp q, rfl⟩
  · rw [if_neg q]; exact Or.inr ⟨fun e => q ((min_iff (by omega)).mpr e), rfl⟩
theorem m_isWarp0 (hb : J m 6 = 0) (x : Int32) : s_X9_isWarp J m x = some false := by
  unfold s_X9_isWarp
  rw [hb, gd_i (Or.inl rfl), if_neg (by decide)]
theorem x_reqWarp {H W C P' R : Nat} (ha : I c 6 = 1) (hl : KR I L (L + 10) (J (m + 1)) H W C P' R) (x : Int32) : (inR x W ∧ s_X8_requireWarp I c L P x = some (.inl (), I)) ∨ (¬ inR x W ∧ s_X8_requireWarp I c L P x = some (.inr eIX, I)) := by
  obtain ⟨-, b1, b2, b3, b4, b5, b6⟩ := hl.g
  obtain ⟨c0, c4, c7, c3, cs⟩ := hl.c
  unfold s_X8_requireWarp
  rw [x_ld1 ha, bx_l, c4]
  rcases x_idx (I := I) (x := x) (n := W) (by omega) with ⟨q, e⟩ | ⟨q, e⟩
  · rw [e, bx_l]; exact Or.inl ⟨q, rfl⟩
  · rw [e, bx_r]; exact Or.inr ⟨q, rfl⟩
theorem rq_Warp (h : RR I J c L m) (x : Int32) : (∃ E t, s_X8_requireWarp I c L P x = some (.inr E, I) ∧ s_X9_mayWarp J m x = some (false, stI J m 0 t) ∧ ThN [eIS, eIX] E t) ∨ (∃ H W C P' R k, RLd I J c L m H W C P' R ∧ KR I L (L + 10) (stI J m 0 0 (m + 1)) H W C P' R ∧ k < W ∧ x = nI k ∧ s_X8_requireWarp I c L P x = some (.inl (), I) ∧ s_X9_mayWarp J m x = some (true, stI J m 0 0)) := by
  rcases RR_ld h with ⟨a, b⟩ | ⟨a, b, H, W, C, P', R, hl⟩
  · refine Or.inl ⟨eIS, 1, ?_, ?_, tA⟩
    · unfold s_X8_requireWarp
      rw [x_ld0 a, bx_r]
    · unfold s_X9_mayWarp
      rw [m_isWarp0 b, b, gd_i (Or.inl rfl), bd_some, nz0, m_may2]
      rfl
  · rcases x_reqWarp (c := c) (P := P) a hl.2.1 x with ⟨q, e⟩ | ⟨q, e⟩
    · obtain ⟨k, k1, rfl⟩ := q
      refine Or.inr ⟨H, W, C, P', R, k, hl, hl.kr 0, k1, rfl, e, ?_⟩
      unfold s_X9_mayWarp
      rcases m_isWarp b hl.2.1 (nI k) with ⟨-, e2⟩ | ⟨q2, -⟩
      · rw [e2, b, gd_i (Or.inr rfl), bd_some, nz1, m_may2]; rfl
      · exact absurd ⟨k, k1, rfl⟩ q2
    · refine Or.inl ⟨eIX, 2, e, ?_, tB⟩
      unfold s_X9_mayWarp
      rcases m_isWarp b hl.2.1 x with ⟨q2, -⟩ | ⟨-, e2⟩
      · exact absurd q2 q
      · rw [e2, b, gd_i (Or.inr rfl), bd_some, nz1, m_may2]; rfl
theorem m_isHarness {H W C P' R : Nat} (hb : J m 6 = 1) (hl : KR I L (L + 10) (J (m + 1)) H W C P' R) (x : Int32) : (inR x H ∧ s_X9_isHarness J m x = some true) ∨ (¬ inR x H ∧ s_X9_isHarness J m x = some false) := by
  obtain ⟨⟨g0, g2, g3, g4, g5⟩, b1, b2, b3, b4, b5, b6⟩ := hl.g
  unfold s_X9_isHarness
  rw [hb, gd_i (Or.inr rfl), if_pos nz1, gl0, cl0, g0]
  by_cases q : s_X9_in x 0 (nI H - 1) = true
  · rw [if_pos q]; exact Or.inl ⟨(min_iff (by omega)).mp q, rfl⟩
  · rw [if_neg q]; exact Or.inr ⟨fun e => q ((min_iff (by omega)).mpr e), rfl⟩
theorem m_isHarness0 (hb : J m 6 = 0) (x : Int32) : s_X9_isHarness J m x = some false := by
  unfold s_X9_isHarness
  rw [hb, gd_i (Or.inl rfl), if_neg (by decide)]
theorem x_reqHarness {H W C P' R : Nat} (ha : I c 6 = 1) (hl : KR I L (L + 10) (J (m + 1)) H W C P' R) (x : Int32) : (inR x H ∧ s_X8_requireHarness I c L P x = some (.inl (), I)) ∨ (¬ inR x H ∧ s_X8_requireHarness I c L P x = some (.inr eIX, I)) := by
  obtain ⟨-, b1, b2, b3, b4, b5, b6⟩ := hl.g
  obtain ⟨c0, c4, c7, c3, cs⟩ := hl.c
  unfold s_X8_requireHarness
  rw [x_ld1 ha, bx_l, c0]
  rcases x_idx (I := I) (x := x) (n := H) (by omega) with ⟨q, e⟩ | ⟨q, e⟩
  · rw [e, bx_l]; exact Or.inl ⟨q, rfl⟩
  · rw [e, bx_r]; exact Or.inr ⟨q, rfl⟩
theorem rq_Harness (h : RR I J c L m) (x : Int32) : (∃ E t, s_X8_requireHarness I c L P x = some (.inr E, I) ∧ s_X9_mayHarness J m x = some (false, stI J m 0 t) ∧ ThN [eIS, eIX] E t) ∨ (∃ H W C P' R k, RLd I J c L m H W C P' R ∧ KR I L (L + 10) (stI J m 0 0 (m + 1)) H W C P' R ∧ k < H ∧ x = nI k ∧ s_X8_requireHarness I c L P x = some (.inl (), I) ∧ s_X9_mayHarness J m x = some (true, stI J m 0 0)) := by
  rcases RR_ld h with ⟨a, b⟩ | ⟨a, b, H, W, C, P', R, hl⟩
  · refine Or.inl ⟨eIS, 1, ?_, ?_, tA⟩
    · unfold s_X8_requireHarness
      rw [x_ld0 a, bx_r]
    · unfold s_X9_mayHarness
      rw [m_isHarness0 b, b, gd_i (Or.inl rfl), bd_some, nz0, m_may2]
      rfl
  · rcases x_reqHarness (c := c) (P := P) a hl.2.1 x with ⟨q, e⟩ | ⟨q, e⟩
    · obtain ⟨k, k1, rfl⟩ := q
      refine Or.inr ⟨H, W, C, P', R, k, hl, hl.kr 0, k1, rfl, e, ?_⟩
      unfold s_X9_mayHarness
      rcases m_isHarness b hl.2.1 (nI k) with ⟨-, e2⟩ | ⟨q2, -⟩
      · rw [e2, b, gd_i (Or.inr rfl), bd_some, nz1, m_may2]; rfl
      · exact absurd ⟨k, k1, rfl⟩ q2
    · refine Or.inl ⟨eIX, 2, e, ?_, tB⟩
      unfold s_X9_mayHarness
      rcases m_isHarness b hl.2.1 x with ⟨q2, -⟩ | ⟨-, e2⟩
      · exact absurd q2 q
      · rw [e2, b, gd_i (Or.inr rfl), bd_some, nz1, m_may2]; rfl
theorem m_isCard {H W C P' R : Nat} (hb : J m 6 = 1) (hl : KR I L (L + 10) (J (m + 1)) H W C P' R) (x : Int32) : (inR x C ∧ s_X9_isCard J m x = some true) ∨ (¬ inR x C ∧ s_X9_isCard J m x = some false) := by
  obtain ⟨⟨g0, g2, g3, g4, g5⟩, b1, b2, b3, b4, b5, b6⟩ := hl.g
  unfold s_X9_isCard
  rw [hb, gd_i (Or.inr rfl), if_pos nz1, gl3, cl3, g3]
  by_cases q : s_X9_in x 0 (nI C - 1) = true
  · rw [if_pos q]; exact Or.inl ⟨(min_iff (by omega)).mp q, rfl⟩
  · rw [if_neg q]; exact Or.inr ⟨fun e => q ((min_iff (by omega)).mpr e), rfl⟩
theorem m_isCard0 (hb : J m 6 = 0) (x : Int32) : s_X9_isCard J m x = some false := by
  unfold s_X9_isCard
  rw [hb, gd_i (Or.inl rfl), if_neg (by decide)]
theorem x_reqCard {H W C P' R : Nat} (ha : I c 6 = 1) (hl : KR I L (L + 10) (J (m + 1)) H W C P' R) (x : Int32) : (inR x C ∧ s_X8_requireCard I c L P x = some (.inl (), I)) ∨ (¬ inR x C ∧ s_X8_requireCard I c L P x = some (.inr eIX, I)) := by
  obtain ⟨-, b1, b2, b3, b4, b5, b6⟩ := hl.g
  obtain ⟨c0, c4, c7, c3, cs⟩ := hl.c
  unfold s_X8_requireCard
  rw [x_ld1 ha, bx_l, c7]
  rcases x_idx (I := I) (x := x) (n := C) (by omega) with ⟨q, e⟩ | ⟨q, e⟩
  · rw [e, bx_l]; exact Or.inl ⟨q, rfl⟩
  · rw [e, bx_r]; exact Or.inr ⟨q, rfl⟩
theorem rq_Card (h : RR I J c L m) (x : Int32) : (∃ E t, s_X8_requireCard I c L P x = some (.inr E, I) ∧ s_X9_mayCard J m x = some (false, stI J m 0 t) ∧ ThN [eIS, eIX] E t) ∨ (∃ H W C P' R k, RLd I J c L m H W C P' R ∧ KR I L (L + 10) (stI J m 0 0 (m + 1)) H W C P' R ∧ k < C ∧ x = nI k ∧ s_X8_requireCard I c L P x = some (.inl (), I) ∧ s_X9_mayCard J m x = some (true, stI J m 0 0)) := by
  rcases RR_ld h with ⟨a, b⟩ | ⟨a, b, H, W, C, P', R, hl⟩
  · refine Or.inl ⟨eIS, 1, ?_, ?_, tA⟩
    · unfold s_X8_requireCard
      rw [x_ld0 a, bx_r]
    · unfold s_X9_mayCard
      rw [m_isCard0 b, b, gd_i (Or.inl rfl), bd_some, nz0, m_may2]
      rfl
  · rcases x_reqCard (c := c) (P := P) a hl.2.1 x with ⟨q, e⟩ | ⟨q, e⟩
    · obtain ⟨k, k1, rfl⟩ := q
      refine Or.inr ⟨H, W, C, P', R, k, hl, hl.kr 0, k1, rfl, e, ?_⟩
      unfold s_X9_mayCard
      rcases m_isCard b hl.2.1 (nI k) with ⟨-, e2⟩ | ⟨q2, -⟩
      · rw [e2, b, gd_i (Or.inr rfl), bd_some, nz1, m_may2]; rfl
      · exact absurd ⟨k, k1, rfl⟩ q2
    · refine Or.inl ⟨eIX, 2, e, ?_, tB⟩
      unfold s_X9_mayCard
      rcases m_isCard b hl.2.1 x with ⟨q2, -⟩ | ⟨-, e2⟩
      · exact absurd q2 q
      · rw [e2, b, gd_i (Or.inr rfl), bd_some, nz1, m_may2]; rfl
theorem m_isRow {H W C P' R : Nat} (hb : J m 6 = 1) (hl : KR I L (L + 10) (J (m + 1)) H W C P' R) (x : Int32) : (inR x R ∧ s_X9_isRow J m x = some true) ∨ (¬ inR x R ∧ s_X9_isRow J m x = some false) := by
  obtain ⟨⟨g0, g2, g3, g4, g5⟩, b1, b2, b3, b4, b5, b6⟩ := hl.g
  unfold s_X9_isRow
  rw [hb, gd_i (Or.inr rfl), if_pos nz1, gl5, cl5, g5]
  by_cases q : s_X9_in x 0 (nI R - 1) = true
  · rw [if_pos q]; exact Or.inl ⟨(min_iff (by omega)).mp q, rfl⟩
  · rw [if_neg q]; exact Or.inr ⟨fun e => q ((min_iff (by omega)).mpr e), rfl⟩
theorem m_isRow0 (hb : J m 6 = 0) (x : Int32) : s_X9_isRow J m x = some false := by
  unfold s_X9_isRow
  rw [hb, gd_i (Or.inl rfl), if_neg (by decide)]
theorem x_reqRow {H W C P' R : Nat} (ha : I c 6 = 1) (hl : KR I L (L + 10) (J (m + 1)) H W C P' R) (x : Int32) : (inR x R ∧ s_X8_requireRow I c L P x = some (.inl (), I)) ∨ (¬ inR x R ∧ s_X8_requireRow I c L P x = some (.inr eIX, I)) := by
  obtain ⟨-, b1, b2, b3, b4, b5, b6⟩ := hl.g
  obtain ⟨c0, c4, c7, c3, cs⟩ := hl.c
  unfold s_X8_requireRow
  rw [x_ld1 ha, bx_l, cs]
  rcases x_idx (I := I) (x := x) (n := R) (by omega) with ⟨q, e⟩ | ⟨q, e⟩
  · rw [e, bx_l]; exact Or.inl ⟨q, rfl⟩
  · rw [e, bx_r]; exact Or.inr ⟨q, rfl⟩
theorem rq_Row (h : RR I J c L m) (x : Int32) : (∃ E t, s_X8_requireRow I c L P x = some (.inr E, I) ∧ s_X9_mayRow J m x = some (false, stI J m 0 t) ∧ ThN [eIS, eIX] E t) ∨ (∃ H W C P' R k, RLd I J c L m H W C P' R ∧ KR I L (L + 10) (stI J m 0 0 (m + 1)) H W C P' R ∧ k < R ∧ x = nI k ∧ s_X8_requireRow I c L P x = some (.inl (), I) ∧ s_X9_mayRow J m x = some (true, stI J m 0 0)) := by
  rcases RR_ld h with ⟨a, b⟩ | ⟨a, b, H, W, C, P', R, hl⟩
  · refine Or.inl ⟨eIS, 1, ?_, ?_, tA⟩
    · unfold s_X8_requireRow
      rw [x_ld0 a, bx_r]
    · unfold s_X9_mayRow
      rw [m_isRow0 b, b, gd_i (Or.inl rfl), bd_some, nz0, m_may2]
      rfl
  · rcases x_reqRow (c := c) (P := P) a hl.2.1 x with ⟨q, e⟩ | ⟨q, e⟩
    · obtain ⟨k, k1, rfl⟩ := q
      refine Or.inr ⟨H, W, C, P', R, k, hl, hl.kr 0, k1, rfl, e, ?_⟩
      unfold s_X9_mayRow
      rcases m_isRow b hl.2.1 (nI k) with ⟨-, e2⟩ | ⟨q2, -⟩
      · rw [e2, b, gd_i (Or.inr rfl), bd_some, nz1, m_may2]; rfl
      · exact absurd ⟨k, k1, rfl⟩ q2
    · refine Or.inl ⟨eIX, 2, e, ?_, tB⟩
      unfold s_X9_mayRow
      rcases m_isRow b hl.2.1 x with ⟨q2, -⟩ | ⟨-, e2⟩
      · exact absurd q2 q
      · rw [e2, b, gd_i (Or.inr rfl), bd_some, nz1, m_may2]; rfl
theorem x_reqColour (ha : I c 6 = 1) (x : Int32) : (inR x 6 ∧ s_X8_requireColour I c L P x = some (.inl (), I) ∧ s_X9_isColour x = true) ∨ (¬ inR x 6 ∧ s_X8_requireColour I c L P x = some (.inr eIA, I) ∧ s_X9_isColour x = false) := by
  unfold s_X8_requireColour s_X9_isColour
  rw [x_ld1 ha, bx_l]
  rcases x_rng (I := I) (x := x) (a := 0) (n := 5) (by omega) (by omega) with ⟨⟨k, q1, q2, q3⟩, e1, e2⟩ | ⟨q, e1, e2⟩
  · rw [show s_X8_requireRange I x 0 5 = _ from e1, bx_l]
    exact Or.inl ⟨⟨k, by omega, q3⟩, rfl, e2⟩
  · rw [show s_X8_requireRange I x 0 5 = _ from e1, bx_r]
    exact Or.inr ⟨fun ⟨k, k1, k2⟩ => q ⟨k, by omega, by omega, k2⟩, rfl, e2⟩
theorem rq_Colour (h : RR I J c L m) (x : Int32) : (∃ E t, s_X8_requireColour I c L P x = some (.inr E, I) ∧ s_X9_mayColour J m x = some (false, stI J m 0 t) ∧ ThN [eIS, eIA] E t) ∨ (∃ H W C P' R k, RLd I J c L m H W C P' R ∧ KR I L (L + 10) (stI J m 0 0 (m + 1)) H W C P' R ∧ k < 6 ∧ x = nI k ∧ s_X8_requireColour I c L P x = some (.inl (), I) ∧ s_X9_mayColour J m x = some (true, stI J m 0 0)) := by
  rcases RR_ld h with ⟨a, b⟩ | ⟨a, b, H, W, C, P', R, hl⟩
  · refine Or.inl ⟨eIS, 1, ?_, ?_, tA⟩
    · unfold s_X8_requireColour
      rw [x_ld0 a, bx_r]
    · unfold s_X9_mayColour
      rw [b, gd_i (Or.inl rfl), nz0, m_may2]
      rfl
  · unfold s_X9_mayColour
    rw [b, gd_i (Or.inr rfl), nz1, m_may2]
    rcases x_reqColour (L := L) (P := P) a x with ⟨⟨k, k1, k2⟩, e1, e2⟩ | ⟨q, e1, e2⟩
    · rw [e2]; exact Or.inr ⟨H, W, C, P', R, k, hl, hl.kr 0, k1, k2, e1, rfl⟩
    · rw [e2]; exact Or.inl ⟨eIA, 2, e1, rfl, tB⟩
theorem q_harnessCount (h : RR I J c L m) : Eqv c L m [eIS] (s_X8_harnessCount I c L P) (s_X9_harnessCount J m) := by
  rcases rq_look (P := P) h with ⟨e1, e2⟩ | ⟨H, W, C, P', R, hl, hk, e1, e2⟩
  · refine Eqv_ref h (by unfold s_X8_harnessCount; rw [e1, bx_r]) (by unfold s_X9_harnessCount; unfold s_X9_look; rw [e2, bd2_some]; rfl) tA
  · obtain ⟨⟨g0, g2, g3, g4, g5⟩, b1, b2, b3, b4, b5, b6⟩ := hk.g
    obtain ⟨c0, c4, c7, c3, cs⟩ := hk.c
    unfold s_X8_harnessCount s_X9_harnessCount
    unfold s_X9_look
    rw [e1, e2, bx_l, bd2_some, if_pos rfl]
    rw [gl0, cl0, g0, c0]
    exact Eqv_ok h rfl rfl
theorem q_warpCount (h : RR I J c L m) : Eqv c L m [eIS] (s_X8_warpCount I c L P) (s_X9_warpCount J m) := by
  rcases rq_look (P := P) h with ⟨e1, e2⟩ | ⟨H, W, C, P', R, hl, hk, e1, e2⟩
  · refine Eqv_ref h (by unfold s_X8_warpCount; rw [e1, bx_r]) (by unfold s_X9_warpCount; unfold s_X9_look; rw [e2, bd2_some]; rfl) tA
  · obtain ⟨⟨g0, g2, g3, g4, g5⟩, b1, b2, b3, b4, b5, b6⟩ := hk.g
    obtain ⟨c0, c4, c7, c3, cs⟩ := hk.c
    unfold s_X8_warpCount s_X9_warpCount
    unfold s_X9_look
    rw [e1, e2, bx_l, bd2_some, if_pos rfl]
    rw [gl2, cl2, g2, c4]
    exact Eqv_ok h rfl rfl
theorem q_cardCount (h : RR I J c L m) : Eqv c L m [eIS] (s_X8_cardCount I c L P) (s_X9_cardCount J m) := by
  rcases rq_look (P := P) h with ⟨e1, e2⟩ | ⟨H, W, C, P', R, hl, hk, e1, e2⟩
  · refine Eqv_ref h (by unfold s_X8_cardCount; rw [e1, bx_r]) (by unfold s_X9_cardCount; unfold s_X9_look; rw [e2, bd2_some]; rfl) tA
  · obtain ⟨⟨g0, g2, g3, g4, g5⟩, b1, b2, b3, b4, b5, b6⟩ := hk.g
    obtain ⟨c0, c4, c7, c3, cs⟩ := hk.c
    unfold s_X8_cardCount s_X9_cardCount
    unfold s_X9_look
    rw [e1, e2, bx_l, bd2_some, if_pos rfl]
    rw [gl3, cl3, g3, c7]
    exact Eqv_ok h rfl rfl
theorem q_deckLength (h : RR I J c L m) : Eqv c L m [eIS] (s_X8_deckLength I c L P) (s_X9_deckLength J m) := by
  rcases rq_look (P := P) h with ⟨e1, e2⟩ | ⟨H, W, C, P', R, hl, hk, e1, e2⟩
  · refine Eqv_ref h (by unfold s_X8_deckLength; rw [e1, bx_r]) (by unfold s_X9_deckLength; unfold s_X9_look; rw [e2, bd2_some]; rfl) tA
  · obtain ⟨⟨g0, g2, g3, g4, g5⟩, b1, b2, b3, b4, b5, b6⟩ := hk.g
    obtain ⟨c0, c4, c7, c3, cs⟩ := hk.c
    unfold s_X8_deckLength s_X9_deckLength
    unfold s_X9_look
    rw [e1, e2, bx_l, bd2_some, if_pos rfl]
    rw [gl4, cl4, g4, c3]
    exact Eqv_ok h rfl rfl
theorem q_rowCount (h : RR I J c L m) : Eqv c L m [eIS] (s_X8_rowCount I c L P) (s_X9_rowCount J m) := by
  rcases rq_look (P := P) h with ⟨e1, e2⟩ | ⟨H, W, C, P', R, hl, hk, e1, e2⟩
  · refine Eqv_ref h (by unfold s_X8_rowCount; rw [e1, bx_r]) (by unfold s_X9_rowCount; unfold s_X9_look; rw [e2, bd2_some]; rfl) tA
  · obtain ⟨⟨g0, g2, g3, g4, g5⟩, b1, b2, b3, b4, b5, b6⟩ := hk.g
    obtain ⟨c0, c4, c7, c3, cs⟩ := hk.c
    unfold s_X8_rowCount s_X9_rowCount
    unfold s_X9_look
    rw [e1, e2, bx_l, bd2_some, if_pos rfl]
    rw [gl5, cl5, g5, cs]
    exact Eqv_ok h rfl rfl
theorem q_deckDepth (h : RR I J c L m) : Eqv c L m [eIS] (s_X8_deckDepth I c L P) (s_X9_deckDepth J m) := by
  rcases rq_look (P := P) h with ⟨e1, e2⟩ | ⟨H, W, C, P', R, hl, hk, e1, e2⟩
  · refine Eqv_ref h (by unfold s_X8_deckDepth; rw [e1, bx_r]) (by unfold s_X9_deckDepth; unfold s_X9_look; rw [e2, bd2_some]; rfl) tA
  · obtain ⟨⟨g0, g2, g3, g4, g5⟩, b1, b2, b3, b4, b5, b6⟩ := hk.g
    obtain ⟨c0, c4, c7, c3, cs⟩ := hk.c
    unfold s_X8_deckDepth s_X9_deckDepth
    unfold s_X9_look
    rw [e1, e2, bx_l, bd2_some, if_pos rfl]
    rw [gl7, cl7, hk.set.2.2.2]
    exact Eqv_ok h rfl rfl
theorem q_brokenCount (h : RR I J c L m) : Eqv c L m [eIS] (s_X8_brokenCount I c L P) (s_X9_brokenCount J m) := by
  rcases rq_look (P := P) h with ⟨e1, e2⟩ | ⟨H, W, C, P', R, hl, hk, e1, e2⟩
  · refine Eqv_ref h (by unfold s_X8_brokenCount; rw [e1, bx_r]) (by unfold s_X9_brokenCount; rw [e2, bd2_some]; rfl) tA
  · obtain ⟨⟨g0, g2, g3, g4, g5⟩, b1, b2, b3, b4, b5, b6⟩ := hk.g
    obtain ⟨c0, c4, c7, c3, cs⟩ := hk.c
    unfold s_X8_brokenCount s_X9_brokenCount
    skip
    rw [e1, e2, bx_l, bd2_some, if_pos rfl]
    rw [e_brokenOnes hk]
    exact Eqv_ok h rfl rfl
theorem q_deckPeriod (h : RR I J c L m) : Eqv c L m [eIS] (s_X8_deckPeriod I c L P) (s_X9_deckPeriod J m) := by
  rcases rq_look (P := P) h with ⟨e1, e2⟩ | ⟨H, W, C, P', R, hl, hk, e1, e2⟩
  · refine Eqv_ref h (by unfold s_X8_deckPeriod; rw [e1, bx_r]) (by unfold s_X9_deckPeriod; rw [e2, bd2_some]; rfl) tA
  · obtain ⟨⟨g0, g2, g3, g4, g5⟩, b1, b2, b3, b4, b5, b6⟩ := hk.g
    obtain ⟨c0, c4, c7, c3, cs⟩ := hk.c
    unfold s_X8_deckPeriod s_X9_deckPeriod
    skip
    rw [e1, e2, bx_l, bd2_some, if_pos rfl]
    rw [c3, cl_nI (by omega), gd_i (show P' ≤ 400 by omega)]
    rw [show s_X9_deckPeriod_L11 (stI J m 0 0) m lf 1 = _ from l_deckPeriod hk (j := 1) (Nat.le_refl 1) (by omega)]
    rcases lpF_find (f := I (L + 5 + 2)) b4 P' 0 with e | e
    · rw [e, show P' + 1 - 1 = P' by omega]
      cases findF (fun p => decide (P' % p = 0) && raF (I (L + 5 + 2)) (nI p) (P' - p) p) P' 1 <;> exact Eqv_ok h rfl rfl
    · omega
theorem q_isPalindrome (h : RR I J c L m) : Eqv c L m [eIS] (s_X8_isPalindrome I c L P) (s_X9_isPalindrome J m) := by
  rcases rq_look (P := P) h with ⟨e1, e2⟩ | ⟨H, W, C, P', R, hl, hk, e1, e2⟩
  · refine Eqv_ref h (by unfold s_X8_isPalindrome; rw [e1, bx_r]) (by unfold s_X9_isPalindrome; rw [e2, bd2_some]; rfl) tA
  · obtain ⟨⟨g0, g2, g3, g4, g5⟩, b1, b2, b3, b4, b5, b6⟩ := hk.g
    obtain ⟨c0, c4, c7, c3, cs⟩ := hk.c
    unfold s_X8_isPalindrome s_X9_isPalindrome
    skip
    rw [e1, e2, bx_l, bd2_some, if_pos rfl]
    rw [c3, cl_nI (by omega), paF_find b4 _ _ (by omega)]
    rw [show s_X9_isPalindrome_L11 (stI J m 0 0) m lf 0 = _ from l_isPal hk (j := 0) (Nat.le_refl 0) (Nat.zero_le P'), Nat.sub_zero]
    cases findF (fun k => !decide (I (L + 5 + 2) k = I (L + 5 + 2) (P' - 1 - k))) P' 0 <;> exact Eqv_ok h rfl rfl
theorem q_rowPeriod (h : RR I J c L m) : Eqv c L m [eIS] (s_X8_rowPeriod I c L P) (s_X9_rowPeriod J m) := by
  rcases rq_look (P := P) h with ⟨e1, e2⟩ | ⟨H, W, C, P', R, hl, hk, e1, e2⟩
  · refine Eqv_ref h (by unfold s_X8_rowPeriod; rw [e1, bx_r]) (by unfold s_X9_rowPeriod; rw [e2, bd2_some]; rfl) tA
  · obtain ⟨⟨g0, g2, g3, g4, g5⟩, b1, b2, b3, b4, b5, b6⟩ := hk.g
    obtain ⟨c0, c4, c7, c3, cs⟩ := hk.c
    unfold s_X8_rowPeriod s_X9_rowPeriod
    skip
    rw [e1, e2, bx_l, bd2_some, if_pos rfl]
    rw [cs, cl_nI (by omega)]
    rw [e_rowPeriod hk]
    exact Eqv_ok h rfl rfl
theorem q_wrongCount (h : RR I J c L m) : Eqv c L m [eIS] (s_X8_wrongCount I c L P) (s_X9_wrongCount J m) := by
  rcases rq_look (P := P) h with ⟨e1, e2⟩ | ⟨H, W, C, P', R, hl, hk, e1, e2⟩
  · refine Eqv_ref h (by unfold s_X8_wrongCount; rw [e1, bx_r]) (by unfold s_X9_wrongCount; rw [e2, bd2_some]; rfl) tA
  · obtain ⟨⟨g0, g2, g3, g4, g5⟩, b1, b2, b3, b4, b5, b6⟩ := hk.g
    obtain ⟨c0, c4, c7, c3, cs⟩ := hk.c
    unfold s_X8_wrongCount s_X9_wrongCount
    skip
    rw [e1, e2, bx_l, bd2_some, if_pos rfl]
    rw [cs, cl_nI (by omega), e_wrongs hk]
    exact Eqv_ok h rfl rfl
theorem q_firstWrongRow (h : RR I J c L m) : Eqv c L m [eIS] (s_X8_firstWrongRow I c L P) (s_X9_firstWrongRow J m) := by
  rcases rq_look (P := P) h with ⟨e1, e2⟩ | ⟨H, W, C, P', R, hl, hk, e1, e2⟩
  · refine Eqv_ref h (by unfold s_X8_firstWrongRow; rw [e1, bx_r]) (by unfold s_X9_firstWrongRow; rw [e2, bd2_some]; rfl) tA
  · obtain ⟨⟨g0, g2, g3, g4, g5⟩, b1, b2, b3, b4, b5, b6⟩ := hk.g
    obtain ⟨c0, c4, c7, c3, cs⟩ := hk.c
    unfold s_X8_firstWrongRow s_X9_firstWrongRow
    skip
    rw [e1, e2, bx_l, bd2_some, if_pos rfl]
    rw [cs, cl_nI (by omega), fwF_find, show s_X9_firstWrongRow_L11 (stI J m 0 0) m lf 0 = _ from l_firstWrong hk (j := 0) (Nat.le_refl 0) (Nat.zero_le R), Nat.sub_zero]
    cases findF (fun r => dfD I L (nI r)) R 0 <;> exact Eqv_ok h rfl rfl
theorem q_swapFirst (h : RR I J c L m) : Eqv c L m [eIS] (s_X8_swapFirst I c L P) (s_X9_swapFirst J m) := by
  rcases rq_look (P := P) h with ⟨e1, e2⟩ | ⟨H, W, C, P', R, hl, hk, e1, e2⟩
  · refine Eqv_ref h (by unfold s_X8_swapFirst; rw [e1, bx_r]) (by unfold s_X9_swapFirst; rw [e2, bd2_some]; rfl) tA
  · obtain ⟨⟨g0, g2, g3, g4, g5⟩, b1, b2, b3, b4, b5, b6⟩ := hk.g
    obtain ⟨c0, c4, c7, c3, cs⟩ := hk.c
    unfold s_X8_swapFirst s_X9_swapFirst
    skip
    rw [e1, e2, bx_l, bd2_some, if_pos rfl]
    rw [e_suspicion hk, bd_some]
    by_cases q : x3_pair I L = -1
    · rw [if_pos q, if_pos q]; exact Eqv_ok h rfl rfl
    · rw [if_neg q, if_neg q]; exact Eqv_ok h rfl rfl
theorem q_swapSecond (h : RR I J c L m) : Eqv c L m [eIS] (s_X8_swapSecond I c L P) (s_X9_swapSecond J m) := by
  rcases rq_look (P := P) h with ⟨e1, e2⟩ | ⟨H, W, C, P', R, hl, hk, e1, e2⟩
  · refine Eqv_ref h (by unfold s_X8_swapSecond; rw [e1, bx_r]) (by unfold s_X9_swapSecond; rw [e2, bd2_some]; rfl) tA
  · obtain ⟨⟨g0, g2, g3, g4, g5⟩, b1, b2, b3, b4, b5, b6⟩ := hk.g
    obtain ⟨c0, c4, c7, c3, cs⟩ := hk.c
    unfold s_X8_swapSecond s_X9_swapSecond
    skip
    rw [e1, e2, bx_l, bd2_some, if_pos rfl]
    rw [e_suspicion hk, bd_some]
    by_cases q : x3_pair I L = -1
    · rw [if_pos q, if_pos q]; exact Eqv_ok h rfl rfl
    · rw [if_neg q, if_neg q]; exact Eqv_ok h rfl rfl
theorem q_nextCard (h : RR I J c L m) : Eqv c L m [eIS] (s_X8_nextCard I c L P) (s_X9_nextCard J m) := by
  rcases rq_look (P := P) h with ⟨e1, e2⟩ | ⟨H, W, C, P', R, hl, hk, e1, e2⟩
  · refine Eqv_ref h (by unfold s_X8_nextCard; rw [e1, bx_r]) (by unfold s_X9_nextCard; rw [e2, bd2_some]; rfl) tA
  · obtain ⟨⟨g0, g2, g3, g4, g5⟩, b1, b2, b3, b4, b5, b6⟩ := hk.g
    obtain ⟨c0, c4, c7, c3, cs⟩ := hk.c
    unfold s_X8_nextCard s_X9_nextCard
    skip
    rw [e1, e2, bx_l, bd2_some, if_pos rfl]
    rw [(e_next hk).1]
    exact Eqv_ok h rfl rfl
theorem q_weaveObstacle (h : RR I J c L m) : Eqv c L m [eIS] (s_X8_weaveObstacle I c L P) (s_X9_weaveObstacle J m) := by
  rcases rq_look (P := P) h with ⟨e1, e2⟩ | ⟨H, W, C, P', R, hl, hk, e1, e2⟩
  · refine Eqv_ref h (by unfold s_X8_weaveObstacle; rw [e1, bx_r]) (by unfold s_X9_weaveObstacle; rw [e2, bd2_some]; rfl) tA
  · obtain ⟨⟨g0, g2, g3, g4, g5⟩, b1, b2, b3, b4, b5, b6⟩ := hk.g
    obtain ⟨c0, c4, c7, c3, cs⟩ := hk.c
    unfold s_X8_weaveObstacle s_X9_weaveObstacle
    skip
    rw [e1, e2, bx_l, bd2_some, if_pos rfl]
    rw [e_why hk]
    exact Eqv_ok h rfl rfl
theorem q_imbalance (h : RR I J c L m) : Eqv c L m [eIS] (s_X8_imbalance I c L P) (s_X9_imbalance J m) := by
  rcases rq_look (P := P) h with ⟨e1, e2⟩ | ⟨H, W, C, P', R, hl, hk, e1, e2⟩
  · refine Eqv_ref h (by unfold s_X8_imbalance; rw [e1, bx_r]) (by unfold s_X9_imbalance; rw [e2, bd2_some]; rfl) tA
  · obtain ⟨⟨g0, g2, g3, g4, g5⟩, b1, b2, b3, b4, b5, b6⟩ := hk.g
    obtain ⟨c0, c4, c7, c3, cs⟩ := hk.c
    unfold s_X8_imbalance s_X9_imbalance
    skip
    rw [e1, e2, bx_l, bd2_some, if_pos rfl]
    obtain ⟨s1, s2, s3, s4, s5, s6⟩ := hk.sets
    rw [gl5, gl2, cl5, cl2, g5, g2]
    simp only [lx_s]
    rw [gd_i s4, cs, c4, cl_nI (by omega)]
    rw [show s_X9_imbalance_L25 (stI J m 0 0) m lf (nI R * nI W) 0 = some (nI R * nI W + ysum (I (L + 10 + 2)) 6, nI 6) from by
      have := l_imb hk (z := nI R * nI W) (j := 0) (Nat.le_refl 0) (by omega)
      rw [show ysum (I (L + 10 + 2)) 0 = 0 from rfl, Int32.add_zero] at this
      exact this]
    rw [bd_some]
    dsimp only
    rw [gl10, gl8, cl10, cl8, gl9, cl9, gl13, cl13, s5, e_wrongs hk, Int32.add_comm (nI R * nI W)]
    simp only [bd_some]
    rcases s4 with s4 | s4
    · obtain ⟨f8, f9, f13⟩ := s6.mp s4
      rw [if_pos f8, if_pos f9, if_pos f13, s4, if_neg (by decide)]
      exact Eqv_ok h rfl rfl
    · rw [s4, if_pos nz1]
      have hn : ¬ I (L + 10) 5 = 0 := by rw [s4]; decide
      by_cases f8 : stI J m 0 0 (m + 1) 8 = 0
      · rw [if_pos f8]
        by_cases f9 : stI J m 0 0 (m + 1) 9 = 0
        · rw [if_pos f9]
          by_cases f13 : stI J m 0 0 (m + 1) 13 = 0
          · exact absurd (s6.mpr ⟨f8, f9, f13⟩) hn
          · rw [if_neg f13]; exact Eqv_ok h rfl rfl
        · rw [if_neg f9]; exact Eqv_ok h rfl rfl
      · rw [if_neg f8]; exact Eqv_ok h rfl rfl
theorem q_warpHarness (h : RR I J c L m) (x : Int32) : Eqv c L m [eIS, eIX] (s_X8_warpHarness I c L P x) (s_X9_warpHarness J m x) := by
  rcases rq_Warp (P := P) h x with ⟨E, t, e1, e2, e3⟩ | ⟨H, W, C, P', R, k, hl, hk, hx, rfl, e1, e2⟩
  · exact Eqv_ref h (by unfold s_X8_warpHarness; rw [e1, bx_r]) (by unfold s_X9_warpHarness; rw [e2, bd2_some]; rfl) e3
  · obtain ⟨⟨g0, g2, g3, g4, g5⟩, b1, b2, b3, b4, b5, b6⟩ := hk.g
    obtain ⟨c0, c4, c7, c3, cs⟩ := hk.c
    unfold s_X8_warpHarness s_X9_warpHarness
    rw [e1, e2, bx_l, bd2_some, if_pos rfl]
    obtain ⟨q, q1, q2, q3⟩ := hk.on hx
    rw [a_harnessOf (by omega), bd_some, q3, atF_nI (by omega) (by omega), q2]
    exact Eqv_ok h rfl rfl
theorem q_warpColour (h : RR I J c L m) (x : Int32) : Eqv c L m [eIS, eIX] (s_X8_warpColour I c L P x) (s_X9_warpColour J m x) := by
  rcases rq_Warp (P := P) h x with ⟨E, t, e1, e2, e3⟩ | ⟨H, W, C, P', R, k, hl, hk, hx, rfl, e1, e2⟩
  · exact Eqv_ref h (by unfold s_X8_warpColour; rw [e1, bx_r]) (by unfold s_X9_warpColour; rw [e2, bd2_some]; rfl) e3
  · obtain ⟨⟨g0, g2, g3, g4, g5⟩, b1, b2, b3, b4, b5, b6⟩ := hk.g
    obtain ⟨c0, c4, c7, c3, cs⟩ := hk.c
    unfold s_X8_warpColour s_X9_warpColour
    rw [e1, e2, bx_l, bd2_some, if_pos rfl]
    obtain ⟨q, q1, q2, q3⟩ := hk.col hx
    rw [a_colourOf (by omega), bd_some, q3, atF_nI (by omega) (by omega), q2]
    exact Eqv_ok h rfl rfl
theorem q_warpsOn (h : RR I J c L m) (x : Int32) : Eqv c L m [eIS, eIX] (s_X8_warpsOn I c L P x) (s_X9_warpsOn J m x) := by
  rcases rq_Harness (P := P) h x with ⟨E, t, e1, e2, e3⟩ | ⟨H, W, C, P', R, k, hl, hk, hx, rfl, e1, e2⟩
  · exact Eqv_ref h (by unfold s_X8_warpsOn; rw [e1, bx_r]) (by unfold s_X9_warpsOn; rw [e2, bd2_some]; rfl) e3
  · obtain ⟨⟨g0, g2, g3, g4, g5⟩, b1, b2, b3, b4, b5, b6⟩ := hk.g
    obtain ⟨c0, c4, c7, c3, cs⟩ := hk.c
    unfold s_X8_warpsOn s_X9_warpsOn
    rw [e1, e2, bx_l, bd2_some, if_pos rfl]
    rw [show s_X9_warpsOn_L14 (stI J m 0 0) m (nI k) lf 0 0 = _ from l_warpsOn hk hx (j := 0) (Nat.le_refl 0) (Nat.zero_le W), bcF_LB (mask_bt hk _).1 b2]
    exact Eqv_ok h rfl rfl
theorem q_isBroken (h : RR I J c L m) (x : Int32) : Eqv c L m [eIS, eIX] (s_X8_isBroken I c L P x) (s_X9_isBroken J m x) := by
  rcases rq_Warp (P := P) h x with ⟨E, t, e1, e2, e3⟩ | ⟨H, W, C, P', R, k, hl, hk, hx, rfl, e1, e2⟩
  · exact Eqv_ref h (by unfold s_X8_isBroken; rw [e1, bx_r]) (by unfold s_X9_isBroken; rw [e2, bd2_some]; rfl) e3
  · obtain ⟨⟨g0, g2, g3, g4, g5⟩, b1, b2, b3, b4, b5, b6⟩ := hk.g
    obtain ⟨c0, c4, c7, c3, cs⟩ := hk.c
    unfold s_X8_isBroken s_X9_isBroken
    rw [e1, e2, bx_l, bd2_some, if_pos rfl]
    rw [a_breaks (by omega), bd_some, hk.brk hx, hasB_bt (by omega)]
    cases bt (I (L + 10) 2) k <;> exact Eqv_ok h rfl rfl
theorem q_isLifted (h : RR I J c L m) (x : Int32) : Eqv c L m [eIS, eIX] (s_X8_isLifted I c L P x) (s_X9_isLifted J m x) := by
  rcases rq_Harness (P := P) h x with ⟨E, t, e1, e2, e3⟩ | ⟨H, W, C, P', R, k, hl, hk, hx, rfl, e1, e2⟩
  · exact Eqv_ref h (by unfold s_X8_isLifted; rw [e1, bx_r]) (by unfold s_X9_isLifted; rw [e2, bd2_some]; rfl) e3
  · obtain ⟨⟨g0, g2, g3, g4, g5⟩, b1, b2, b3, b4, b5, b6⟩ := hk.g
    obtain ⟨c0, c4, c7, c3, cs⟩ := hk.c
    unfold s_X8_isLifted s_X9_isLifted
    rw [e1, e2, bx_l, bd2_some, if_pos rfl]
    rw [a_ofH0 (by omega), bd_some, (hk.har hx).1, hasB_bt (by omega)]
    cases bt (I (L + 10) 0) k <;> exact Eqv_ok h rfl rfl
theorem q_wear (h : RR I J c L m) (x : Int32) : Eqv c L m [eIS, eIX] (s_X8_wear I c L P x) (s_X9_wear J m x) := by
  rcases rq_Harness (P := P) h x with ⟨E, t, e1, e2, e3⟩ | ⟨H, W, C, P', R, k, hl, hk, hx, rfl, e1, e2⟩
  · exact Eqv_ref h (by unfold s_X8_wear; rw [e1, bx_r]) (by unfold s_X9_wear; rw [e2, bd2_some]; rfl) e3
  · obtain ⟨⟨g0, g2, g3, g4, g5⟩, b1, b2, b3, b4, b5, b6⟩ := hk.g
    obtain ⟨c0, c4, c7, c3, cs⟩ := hk.c
    unfold s_X8_wear s_X9_wear
    rw [e1, e2, bx_l, bd2_some, if_pos rfl]
    rw [a_ofH1 (by omega), bd_some, (hk.har hx).2.1, atF_nI (by omega) (by omega)]
    exact Eqv_ok h rfl rfl
theorem q_isStuck (h : RR I J c L m) (x : Int32) : Eqv c L m [eIS, eIX] (s_X8_isStuck I c L P x) (s_X9_isStuck J m x) := by
  rcases rq_Harness (P := P) h x with ⟨E, t, e1, e2, e3⟩ | ⟨H, W, C, P', R, k, hl, hk, hx, rfl, e1, e2⟩
  · exact Eqv_ref h (by unfold s_X8_isStuck; rw [e1, bx_r]) (by unfold s_X9_isStuck; rw [e2, bd2_some]; rfl) e3
  · obtain ⟨⟨g0, g2, g3, g4, g5⟩, b1, b2, b3, b4, b5, b6⟩ := hk.g
    obtain ⟨c0, c4, c7, c3, cs⟩ := hk.c
    unfold s_X8_isStuck s_X9_isStuck
    rw [e1, e2, bx_l, bd2_some, if_pos rfl]
    rw [a_ofH2 (by omega), bd_some, (hk.har hx).2.2, hasB_bt (by omega)]
    cases bt (I (L + 10) 1) k <;> exact Eqv_ok h rfl rfl
theorem q_cardColour (h : RR I J c L m) (x : Int32) : Eqv c L m [eIS, eIX] (s_X8_cardColour I c L P x) (s_X9_cardColour J m x) := by
  rcases rq_Card (P := P) h x with ⟨E, t, e1, e2, e3⟩ | ⟨H, W, C, P', R, k, hl, hk, hx, rfl, e1, e2⟩
  · exact Eqv_ref h (by unfold s_X8_cardColour; rw [e1, bx_r]) (by unfold s_X9_cardColour; rw [e2, bd2_some]; rfl) e3
  · obtain ⟨⟨g0, g2, g3, g4, g5⟩, b1, b2, b3, b4, b5, b6⟩ := hk.g
    obtain ⟨c0, c4, c7, c3, cs⟩ := hk.c
    unfold s_X8_cardColour s_X9_cardColour
    rw [e1, e2, bx_l, bd2_some, if_pos rfl]
    obtain ⟨-, -, q, q1, q2, q3⟩ := hk.card hx
    rw [a_ofCard1 (by omega), bd_some, q3, atF_nI (by omega) (by omega), q2]
    exact Eqv_ok h rfl rfl
theorem q_liftedWarps (h : RR I J c L m) (x : Int32) : Eqv c L m [eIS, eIX] (s_X8_liftedWarps I c L P x) (s_X9_liftedWarps J m x) := by
  rcases rq_Card (P := P) h x with ⟨E, t, e1, e2, e3⟩ | ⟨H, W, C, P', R, k, hl, hk, hx, rfl, e1, e2⟩
  · exact Eqv_ref h (by unfold s_X8_liftedWarps; rw [e1, bx_r]) (by unfold s_X9_liftedWarps; rw [e2, bd2_some]; rfl) e3
  · obtain ⟨⟨g0, g2, g3, g4, g5⟩, b1, b2, b3, b4, b5, b6⟩ := hk.g
    obtain ⟨c0, c4, c7, c3, cs⟩ := hk.c
    unfold s_X8_liftedWarps s_X9_liftedWarps
    rw [e1, e2, bx_l, bd2_some, if_pos rfl]
    rw [e_warpsOf hk hx, bd_some, atF_nI (by omega) (by omega)]
    exact Eqv_ok h rfl rfl
theorem q_cardUses (h : RR I J c L m) (x : Int32) : Eqv c L m [eIS, eIX] (s_X8_cardUses I c L P x) (s_X9_cardUses J m x) := by
  rcases rq_Card (P := P) h x with ⟨E, t, e1, e2, e3⟩ | ⟨H, W, C, P', R, k, hl, hk, hx, rfl, e1, e2⟩
  · exact Eqv_ref h (by unfold s_X8_cardUses; rw [e1, bx_r]) (by unfold s_X9_cardUses; rw [e2, bd2_some]; rfl) e3
  · obtain ⟨⟨g0, g2, g3, g4, g5⟩, b1, b2, b3, b4, b5, b6⟩ := hk.g
    obtain ⟨c0, c4, c7, c3, cs⟩ := hk.c
    unfold s_X8_cardUses s_X9_cardUses
    rw [e1, e2, bx_l, bd2_some, if_pos rfl]
    rw [e_usesOf hk, bd_some, c3, cl_nI (by omega)]
    unfold uF
    rw [if_pos rfl]
    exact Eqv_ok h rfl rfl
theorem q_longestWarpFloat (h : RR I J c L m) (x : Int32) : Eqv c L m [eIS, eIX] (s_X8_longestWarpFloat I c L P x) (s_X9_longestWarpFloat J m x) := by
  rcases rq_Warp (P := P) h x with ⟨E, t, e1, e2, e3⟩ | ⟨H, W, C, P', R, k, hl, hk, hx, rfl, e1, e2⟩
  · exact Eqv_ref h (by unfold s_X8_longestWarpFloat; rw [e1, bx_r]) (by unfold s_X9_longestWarpFloat; rw [e2, bd2_some]; rfl) e3
  · obtain ⟨⟨g0, g2, g3, g4, g5⟩, b1, b2, b3, b4, b5, b6⟩ := hk.g
    obtain ⟨c0, c4, c7, c3, cs⟩ := hk.c
    unfold s_X8_longestWarpFloat s_X9_longestWarpFloat
    rw [e1, e2, bx_l, bd2_some, if_pos rfl]
    rw [l_lwf hk hx, cs, cl_nI (by omega)]
    exact Eqv_ok h rfl rfl
theorem q_longestWeftFloat (h : RR I J c L m) (x : Int32) : Eqv c L m [eIS, eIX] (s_X8_longestWeftFloat I c L P x) (s_X9_longestWeftFloat J m x) := by
  rcases rq_Row (P := P) h x with ⟨E, t, e1, e2, e3⟩ | ⟨H, W, C, P', R, k, hl, hk, hx, rfl, e1, e2⟩
  · exact Eqv_ref h (by unfold s_X8_longestWeftFloat; rw [e1, bx_r]) (by unfold s_X9_longestWeftFloat; rw [e2, bd2_some]; rfl) e3
  · obtain ⟨⟨g0, g2, g3, g4, g5⟩, b1, b2, b3, b4, b5, b6⟩ := hk.g
    obtain ⟨c0, c4, c7, c3, cs⟩ := hk.c
    unfold s_X8_longestWeftFloat s_X9_longestWeftFloat
    rw [e1, e2, bx_l, bd2_some, if_pos rfl]
    rw [l_lwe hk hx, c4, cl_nI (by omega)]
    exact Eqv_ok h rfl rfl
theorem q_cellsOfColour (h : RR I J c L m) (x : Int32) : Eqv c L m [eIS, eIA] (s_X8_cellsOfColour I c L P x) (s_X9_cellsOfColour J m x) := by
  rcases rq_Colour (P := P) h x with ⟨E, t, e1, e2, e3⟩ | ⟨H, W, C, P', R, k, hl, hk, hx, rfl, e1, e2⟩
  · exact Eqv_ref h (by unfold s_X8_cellsOfColour; rw [e1, bx_r]) (by unfold s_X9_cellsOfColour; rw [e2, bd2_some]; rfl) e3
  · obtain ⟨⟨g0, g2, g3, g4, g5⟩, b1, b2, b3, b4, b5, b6⟩ := hk.g
    obtain ⟨c0, c4, c7, c3, cs⟩ := hk.c
    unfold s_X8_cellsOfColour s_X9_cellsOfColour
    rw [e1, e2, bx_l, bd2_some, if_pos rfl]
    rw [show s_X9_cellsOfColour_L14 (stI J m 0 0) m (nI k) lf 0 0 = _ from l_coc2 hk (x := nI k) (j := 0) (Nat.le_refl 0) (Nat.zero_le R), cs, cl_nI (by omega)]
    exact Eqv_ok h rfl rfl
theorem q_isWrong (h : RR I J c L m) (x : Int32) : Eqv c L m [eIS, eIX] (s_X8_isWrong I c L P x) (s_X9_isWrong J m x) := by
  rcases rq_Row (P := P) h x with ⟨E, t, e1, e2, e3⟩ | ⟨H, W, C, P', R, k, hl, hk, hx, rfl, e1, e2⟩
  · exact Eqv_ref h (by unfold s_X8_isWrong; rw [e1, bx_r]) (by unfold s_X9_isWrong; rw [e2, bd2_some]; rfl) e3
  · obtain ⟨⟨g0, g2, g3, g4, g5⟩, b1, b2, b3, b4, b5, b6⟩ := hk.g
    obtain ⟨c0, c4, c7, c3, cs⟩ := hk.c
    unfold s_X8_isWrong s_X9_isWrong
    rw [e1, e2, bx_l, bd2_some, if_pos rfl]
    rw [e_isWrongRow hk hx, bd_some]
    cases dfD I L (nI k) <;> exact Eqv_ok h rfl rfl
theorem q_yarn (h : RR I J c L m) (x : Int32) : Eqv c L m [eIS, eIA] (s_X8_yarn I c L P x) (s_X9_yarn J m x) := by
  rcases rq_Colour (P := P) h x with ⟨E, t, e1, e2, e3⟩ | ⟨H, W, C, P', R, k, hl, hk, hx, rfl, e1, e2⟩
  · exact Eqv_ref h (by unfold s_X8_yarn; rw [e1, bx_r]) (by unfold s_X9_yarn; rw [e2, bd2_some]; rfl) e3
  · obtain ⟨⟨g0, g2, g3, g4, g5⟩, b1, b2, b3, b4, b5, b6⟩ := hk.g
    obtain ⟨c0, c4, c7, c3, cs⟩ := hk.c
    unfold s_X8_yarn s_X9_yarn
    rw [e1, e2, bx_l, bd2_some, if_pos rfl]
    rw [show (110 : Int32) = nI 110 from rfl, nI_add, gd_in (by omega) (by omega), cl_nI (by omega), hk.yarn hx, atF_nI (by omega) (by omega)]
    exact Eqv_ok h rfl rfl
theorem q_yarnNeeded (h : RR I J c L m) (x : Int32) : Eqv c L m [eIS, eIA] (s_X8_yarnNeeded I c L P x) (s_X9_yarnNeeded J m x) := by
  rcases rq_Colour (P := P) h x with ⟨E, t, e1, e2, e3⟩ | ⟨H, W, C, P', R, k, hl, hk, hx, rfl, e1, e2⟩
  · exact Eqv_ref h (by unfold s_X8_yarnNeeded; rw [e1, bx_r]) (by unfold s_X9_yarnNeeded; rw [e2, bd2_some]; rfl) e3
  · obtain ⟨⟨g0, g2, g3, g4, g5⟩, b1, b2, b3, b4, b5, b6⟩ := hk.g
    obtain ⟨c0, c4, c7, c3, cs⟩ := hk.c
    unfold s_X8_yarnNeeded s_X9_yarnNeeded
    rw [e1, e2, bx_l, bd2_some, if_pos rfl]
    rw [gl4, cl4, g4, gl5, cl5, g5, gl4, cs, gd_i (nI_pos' (by omega))]
    unfold x3_ynd
    rw [c3, cs, cl_nI (by omega), cl_nI (by omega)]
    by_cases q : P' = 0
    · subst q
      rw [if_pos nI_z, if_neg (by decide)]
      exact Eqv_ok h rfl rfl
    · have hm : R % P' < P' := Nat.mod_lt _ (by omega)
      rw [if_neg (nI_ne0 (by omega) (by omega)), if_pos (nI_p0 (by omega) (by omega)), gd_i (nI_ne0 (by omega) (by omega)), nI_modt (by omega) (by omega) (by omega), lx_s]
      have := l_yn hk (x := nI k) (a := R % P') (j := R % P') (Nat.le_refl _) (by omega)
      rw [Nat.sub_self, show nI (ynC I L (nI k) (R % P') 0) = 0 from rfl] at this
      rw [this, bd_some]
      dsimp only
      rw [gl2, cl2, g2, nI_mul, ynF_cnt hk _ (by omega)]
      exact Eqv_ok h rfl rfl
end ASK
