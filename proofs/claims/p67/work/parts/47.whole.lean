/-! what a whole loom shows -/
section WHL
variable {I J : JI} {L s H W N a c h n r : Nat} {x y : Int32}
/-- the rows' number -/
def rwN (I : JI) (s : Nat) : Nat := (I s 3).toNatClampNeg
theorem SOK.rw (g : SOK N I L s H W) : I s 3 = nI (rwN I s) ∧ rwN I s ≤ 60 := by
  obtain ⟨r, b, y, ⟨g1, g2⟩, -⟩ := g
  have e : rwN I s = r := by unfold rwN; rw [g2, nI_clamp (by omega)]
  rw [e]; exact ⟨g2, g1⟩
theorem cell_lt (hF : FOK I L H W) (g : SOK N I L (L + 10) H W) {i w : Nat} (hi : i < rwN I (L + 10)) (hw : w < W) : ∃ k, k < 6 ∧ x3_cell I L (nI i) (nI w) = nI k := by
  obtain ⟨⟨⟨H2, H3⟩, W1, W4⟩, -, ⟨-, f9⟩, -⟩ := hF
  obtain ⟨e1, e2⟩ := g.rw
  obtain ⟨r, b, y, ⟨g1, g2⟩, -, g7, -⟩ := g
  have er : rwN I (L + 10) = r := by unfold rwN; rw [g2, nI_clamp (by omega)]
  unfold x3_cell
  rw [atF_nI (show w < 24 by omega) (by omega), show L + 10 + 6 = L + 16 from rfl, atF_nI (f := I (L + 16)) (show i < 60 by omega) (by omega)]
  by_cases q : hasB (atF (I (L + 10 + 5)) 60 (nI i)) (nI w) = true
  · rw [if_pos q]; obtain ⟨k, k1, k2⟩ := f9 w hw; exact ⟨k, k1, k2⟩
  · rw [if_neg q]; obtain ⟨k, k1, k2⟩ := g7 i (by omega); exact ⟨k, k1, k2⟩
def ccN (I : JI) (L i k : Nat) : Nat → Nat := cntB (fun w => decide (x3_cell I L (nI i) (nI w) = nI k))
def ccT (I : JI) (L W k : Nat) : Nat → Nat
  | 0 => 0
  | i + 1 => ccT I L W k i + ccN I L i k W
theorem ccW_eq {i k z : Nat} : ∀ j, ccW I L (nI k) (nI i) (nI z) j = nI (z + ccN I L i k j) := by
  intro j
  induction j with
  | zero => rfl
  | succ j ih =>
    rw [ccW, show ccN I L i k (j + 1) = ccN I L i k j + (if decide (x3_cell I L (nI i) (nI j) = nI k) = true then 1 else 0) from rfl]
    by_cases q : x3_cell I L (nI i) (nI j) = nI k
    · rw [if_pos q, ih, if_pos (by simpa using q), show nI (z + ccN I L i k j) + 1 = nI (z + ccN I L i k j + 1) from (nI_succ _).symm, Nat.add_assoc]
    · rw [if_neg q, ih, if_neg (by simpa using q), Nat.add_zero]
theorem ccR_eq {k : Nat} (hW : I L 4 = nI W) (hW4 : W ≤ 4) : ∀ j, ccR I L (nI k) j = nI (ccT I L W k j) := by
  intro j
  induction j with
  | zero => rfl
  | succ j ih => rw [ccR, ih, hW, nI_clamp (by omega), ccW_eq]; rfl
theorem ccN_sum {i : Nat} : ∀ j, (∀ w, w < j → ∃ k, k < 6 ∧ x3_cell I L (nI i) (nI w) = nI k) → ccN I L i 0 j + ccN I L i 1 j + ccN I L i 2 j + ccN I L i 3 j + ccN I L i 4 j + ccN I L i 5 j = j := by
  intro j
  induction j with
  | zero => intro _; rfl
  | succ j ih =>
    intro h
    have h1 := ih fun w hw => h w (by omega)
    obtain ⟨k, k1, k2⟩ := h j (by omega)
    have st : ∀ q, q < 6 → ccN I L i q (j + 1) = ccN I L i q j + (if k = q then 1 else 0) := fun q hq => by
      rw [show ccN I L i q (j + 1) = ccN I L i q j + (if decide (x3_cell I L (nI i) (nI j) = nI q) = true then 1 else 0) from rfl, k2]
      congr 1
      by_cases e : k = q
      · rw [if_pos e, if_pos (by rw [e]; simp)]
      · rw [if_neg e, if_neg (by simp; intro e2; exact e ((nI_eq (by omega) (by omega)).mp e2))]
    rw [st 0 (by decide), st 1 (by decide), st 2 (by decide), st 3 (by decide), st 4 (by decide), st 5 (by decide)]
    rcases (show k = 0 ∨ k = 1 ∨ k = 2 ∨ k = 3 ∨ k = 4 ∨ k = 5 by omega) with rfl | rfl | rfl | rfl | rfl | rfl <;> simp <;> omega
theorem ccT_sum (hF : FOK I L H W) (g : SOK N I L (L + 10) H W) : ∀ j, j ≤ rwN I (L + 10) → ccT I L W 0 j + ccT I L W 1 j + ccT I L W 2 j + ccT I L W 3 j + ccT I L W 4 j + ccT I L W 5 j = j * W := by
  intro j
  induction j with
  | zero => intro _; simp [ccT]
  | succ j ih =>
    intro hj
    have h1 := ih (by omega)
    have h2 := ccN_sum (I := I) (L := L) (i := j) W fun w hw => cell_lt hF g (by omega) hw
    have e : (j + 1) * W = j * W + W := Nat.succ_mul j W
    simp only [ccT]
    omega
theorem fwF_or : ∀ n j, (fwF I L n j = -1 ∧ ∀ k, j ≤ k → k < j + n → dfD I L (nI k) = false) ∨ ∃ k, j ≤ k ∧ k < j + n ∧ fwF I L n j = nI k ∧ dfD I L (nI k) = true := by
  intro n
  induction n with
  | zero => intro j; exact Or.inl ⟨rfl, fun k h1 h2 => by omega⟩
  | succ n ih =>
    intro j
    rw [fwF]
    by_cases q : dfD I L (nI j) = true
    · rw [if_pos q]; exact Or.inr ⟨j, Nat.le_refl _, by omega, rfl, q⟩
    · rw [if_neg q]
      rcases ih (j + 1) with ⟨h1, h2⟩ | ⟨k, h1, h2, h3, h4⟩
      · refine Or.inl ⟨h1, fun k k1 k2 => ?_⟩
        by_cases e : k = j
        · subst e; exact Bool.eq_false_iff.mpr q
        · exact h2 k (by omega) (by omega)
      · exact Or.inr ⟨k, by omega, by omega, h3, h4⟩
theorem m1_ne {k : Nat} (h : k < 2 ^ 31) : ¬ nI k = -1 := fun e => by
  have := nI_pos h
  rw [e] at this
  exact this (by decide)
theorem fw_cw {R : Nat} (hR : R ≤ 60) : (fwF I L R 0 = -1 ∧ cwF I L R = 0) ∨ ∃ k, k < R ∧ fwF I L R 0 = nI k ∧ ¬ cwF I L R = 0 := by
  rcases fwF_or (I := I) (L := L) R 0 with ⟨h1, h2⟩ | ⟨k, h1, h2, h3, h4⟩
  · refine Or.inl ⟨h1, ?_⟩
    rw [cwF_cnt, cntB_false fun k hk => h2 k (Nat.zero_le _) (by omega)]; rfl
  · refine Or.inr ⟨k, by omega, h3, fun e => ?_⟩
    rw [cwF_cnt] at e
    have hle := cntB_le (fun j => dfD I L (nI j)) R
    have e0 : cntB (fun j => dfD I L (nI j)) R = 0 := (nI_eq (by omega) (by decide)).mp (e : nI _ = nI 0)
    have : ∀ n, k < n → 0 < cntB (fun j => dfD I L (nI j)) n := by
      intro n
      induction n with
      | zero => intro h; omega
      | succ n ih =>
        intro h
        rw [show cntB (fun j => dfD I L (nI j)) (n + 1) = cntB (fun j => dfD I L (nI j)) n + (if dfD I L (nI n) = true then 1 else 0) from rfl]
        by_cases e : k = n
        · subst e; rw [if_pos h4]; omega
        · have := ih (by omega); omega
    have := this R (by omega)
    omega
theorem spI_or : ∀ (n j a : Nat), (∃ b, j ≤ b ∧ b < j + n ∧ spI I L a n j = some (nI a * 12 + nI b)) ∨ spI I L a n j = none := by
  intro n
  induction n with
  | zero => intro j a; exact Or.inr rfl
  | succ n ih =>
    intro j a
    rw [spI]
    by_cases q : exB I L (nI a) (nI j) = true
    · rw [if_pos q]; exact Or.inl ⟨j, Nat.le_refl _, by omega, rfl⟩
    · rw [if_neg q]
      rcases ih (j + 1) a with ⟨b, h1, h2, h3⟩ | h
      · exact Or.inl ⟨b, by omega, by omega, h3⟩
      · exact Or.inr h
theorem spO_or (hC : (I L 7).toNatClampNeg = 3) : ∀ (n j : Nat), j + n = 3 → (∃ a b, a < b ∧ b < 3 ∧ spO I L n j = nI a * 12 + nI b) ∨ spO I L n j = -1 := by
  intro n
  induction n with
  | zero => intro j _; exact Or.inr rfl
  | succ n ih =>
    intro j hj
    rw [spO, hC]
    rcases spI_or (I := I) (L := L) (3 - (j + 1)) (j + 1) j with ⟨b, h1, h2, h3⟩ | h
    · rw [h3]; exact Or.inl ⟨j, b, by omega, by omega, rfl⟩
    · rw [h]; exact ih (j + 1) (by omega)
theorem pair_or (hF : FOK I L H W) : (x3_pair I L = -1) ∨ (¬ fwF I L (I (L + 10) 3).toNatClampNeg 0 = -1 ∧ ∃ a b, a < b ∧ b < 3 ∧ x3_pair I L = nI (a * 12 + b)) := by
  have f7 := hF.2.1.2.2.1
  have e7 : (I L 7).toNatClampNeg = 3 := by rw [f7, nI_clamp (by decide)]
  unfold x3_pair
  by_cases q : fwF I L (I (L + 10) 3).toNatClampNeg 0 = -1
  · rw [if_pos q]; exact Or.inl rfl
  · rw [if_neg q, e7]
    rcases spO_or (I := I) (L := L) e7 3 0 rfl with ⟨a, b, h1, h2, h3⟩ | h
    · refine Or.inr ⟨q, a, b, h1, h2, ?_⟩
      rw [h3, show (12 : Int32) = nI 12 from rfl, nI_mul, nI_add]
    · exact Or.inl h
theorem pair_f {a b : Nat} (h : a < b) (hb : b < 3) : ¬ nI (a * 12 + b) = -1 ∧ nI (a * 12 + b) / 12 = nI a ∧ nI (a * 12 + b) - nI (a * 12 + b) / 12 * 12 = nI b := by
  refine ⟨m1_ne (by omega), ?_, ?_⟩
  · rw [show (12 : Int32) = nI 12 from rfl, nI_divt (by omega) (by decide) (by decide)]; congr 1; omega
  · rw [show (12 : Int32) = nI 12 from rfl, nI_modt (by omega) (by decide) (by decide)]; congr 1; omega
theorem lrd_le {R : Nat} (hR : I (L + 10) 3 = nI R) : ∀ n j, j + n ≤ R ∨ n = 0 → ∃ p, p ≤ R ∧ lrdF I L n j = nI p := by
  intro n
  induction n with
  | zero => intro j _; exact ⟨R, Nat.le_refl _, hR⟩
  | succ n ih =>
    intro j hj
    rw [lrdF]
    by_cases q : crR I L (nI j) ((I (L + 10) 3).toNatClampNeg - j) j = true
    · rw [if_pos q]; exact ⟨j, by omega, rfl⟩
    · rw [if_neg q]; exact ih (j + 1) (by omega)
theorem ysum_eq {f : Nat → Int32} {y : Nat → Nat} (h : ∀ k, k < 6 → f k = nI (y k)) : ysum f 6 = nI (ysm y) := by
  unfold ysm
  rw [ysum, ysum, ysum, ysum, ysum, ysum, ysum, atF_nI (by decide) (by decide), atF_nI (by decide) (by decide), atF_nI (by decide) (by decide), atF_nI (by decide) (by decide), atF_nI (by decide) (by decide), atF_nI (by decide) (by decide), h 0 (by decide), h 1 (by decide), h 2 (by decide), h 3 (by decide), h 4 (by decide), h 5 (by decide), show (0 : Int32) = nI 0 from rfl, nI_add, nI_add, nI_add, nI_add, nI_add, nI_add, Nat.zero_add]
/-- yarn adds up -/
theorem bal0 (hF : FOK I L H W) (g : SOK N I L (L + 10) H W) : (ysum (I (L + 10 + 2)) 6 + I (L + 10) 3 * I L 4) - I (L + 10) 4 = 0 := by
  obtain ⟨-, ⟨-, f4, -⟩, -⟩ := hF
  obtain ⟨r, b, y, ⟨g1, g2⟩, ⟨g3, g4, g5, g6⟩, -⟩ := g
  rw [ysum_eq g6, g2, f4, g4, nI_mul, nI_add, g5, nI_sub (Nat.le_refl b), Nat.sub_self]; rfl
theorem und0 (hF : FOK I L H W) (g : SOK N I L (L + 10) H W) (h5 : I (L + 10) 5 = 0) : cwF I L (rwN I (L + 10)) = 0 := by
  obtain ⟨e1, e2⟩ := g.rw
  obtain ⟨r, b, y, ⟨g1, g2⟩, -, -, -, -, -, g12⟩ := g
  have er : rwN I (L + 10) = r := by unfold rwN; rw [g2, nI_clamp (by omega)]
  obtain ⟨-, -, -, q4⟩ := g12 h5
  rw [cwF_cnt, cntB_false]
  · rfl
  · intro k hk
    obtain ⟨c1, c2⟩ := hF.cfr (i := k) (by omega)
    unfold dfD eqD
    rw [c1]
    obtain ⟨p1, p2⟩ := q4 k (by omega)
    have a1 : atF (I (L + 10 + 5)) 60 (nI k) = x3_mask I L (atF (I (L + 3)) 12 (nI (cdI I L k))) := by
      rw [atF_nI (show k < 60 by omega) (by omega), atF_nI (show cdI I L k < 12 by omega) (by omega)]; exact p1
    have a2 : atF (I (L + 10 + 6)) 60 (nI k) = atF (I (L + 4)) 12 (nI (cdI I L k)) := by
      rw [atF_nI (show k < 60 by omega) (by omega), atF_nI (show cdI I L k < 12 by omega) (by omega)]; exact p2
    simp [a1, a2]
end WHL
