/-! what is seen: its parts; equal looms look equal -/
theorem toL {n : Nat} (h : n < 2 ^ 31) : (nI n).toInt64 = Int64.ofNat n := by
  refine Int64.toInt_inj.mp ?_
  rw [Int32.toInt_toInt64, nI_toInt h, Int64.toInt_ofNat_of_lt (by omega)]
theorem toL_add {a b : Nat} (h : a + b < 2 ^ 31) : (nI (a + b)).toInt64 = (nI a).toInt64 + (nI b).toInt64 := by
  rw [toL h, toL (by omega), toL (by omega), Int64.ofNat_add]
theorem lcmp_ge {a b : Nat} (h : b ≤ a) (ha : a < 2 ^ 31) : ¬ lg_cmp (nI a).toInt64 (nI b).toInt64 < 0 := by
  unfold lg_cmp
  rw [toL ha, toL (by omega)]
  by_cases q : b = a
  · subst q
    split
    · decide
    · rw [if_pos rfl]; decide
  · rw [if_pos (show Int64.ofNat b < Int64.ofNat a by
      rw [Int64.lt_iff_toInt_lt, Int64.toInt_ofNat_of_lt (by omega), Int64.toInt_ofNat_of_lt (by omega)]; omega)]
    decide
section SEEN
variable {I J : JI} {L H W i j : Nat}
theorem goW_o (h : j ≠ 40) : ∀ (m k : Nat) (f : Nat → Int64), goW I L i m k f j = f j := by
  intro m
  induction m with
  | zero => intro k f; rfl
  | succ m ih => intro k f; rw [goW, ih, upL_o h]
theorem goR_o (h : j ≠ 40) : ∀ (m k : Nat) (f : Nat → Int64), goR I L W m k f j = f j := by
  intro m
  induction m with
  | zero => intro k f; rfl
  | succ m ih => intro k f; rw [goR, ih, goW_o h]
theorem goH_o (h : j < 30) : ∀ (m k : Nat) (f : Nat → Int64), goH I L m k f j = f j := by
  intro m
  induction m with
  | zero => intro k f; rfl
  | succ m ih => intro k f; rw [goH, ih, upL_o (by omega)]
theorem goC_o (h : j < 20) : ∀ (m k : Nat) (f : Nat → Int64), goC I L m k f j = f j := by
  intro m
  induction m with
  | zero => intro k f; rfl
  | succ m ih => intro k f; rw [goC, ih, upL_o (by omega), upL_o (by omega)]
theorem goY_o (h : j < 10) : ∀ (m k : Nat) (f : Nat → Int64), goY I L m k f j = f j := by
  intro m
  induction m with
  | zero => intro k f; rfl
  | succ m ih => intro k f; rw [goY, ih, upL_o (by omega)]
theorem see_0 : seeF I L H W 0 = (nI (rwN I (L + 10))).toInt64 := by
  unfold seeF
  rw [goR_o (by decide), goH_o (by decide), goC_o (by decide), goY_o (by decide), upL_o (by decide), upL_at]
theorem see_10 {k : Nat} (h : k < 6) : seeF I L H W (10 + k) = (I (L + 10 + 2) k).toInt64 := by
  unfold seeF
  rw [goR_o (by omega), goH_o (by omega), goC_o (by omega)]
  rcases (show k = 0 ∨ k = 1 ∨ k = 2 ∨ k = 3 ∨ k = 4 ∨ k = 5 by omega) with rfl | rfl | rfl | rfl | rfl | rfl <;> simp [goY, upL]
theorem see_20 {k : Nat} (h : k < 3) : seeF I L H W (20 + k) = (I (L + 10 + 4) k).toInt64 := by
  unfold seeF
  rw [goR_o (by omega), goH_o (by omega)]
  rcases (show k = 0 ∨ k = 1 ∨ k = 2 by omega) with rfl | rfl | rfl <;> simp [goC, upL]
theorem goY_eq (h : SE I (L + 10) J (L + 10)) : ∀ (m k : Nat) (f : Nat → Int64), k + m ≤ 6 → goY I L m k f = goY J L m k f := by
  intro m
  induction m with
  | zero => intro k f _; rfl
  | succ m ih => intro k f hk; rw [goY, goY, h 2 k (by decide) (show k < 6 by omega), ih _ _ (by omega)]
theorem goC_eq (h : SE I (L + 10) J (L + 10)) (hL : LE L I J) : ∀ (m k : Nat) (f : Nat → Int64), k + m ≤ 3 → goC I L m k f = goC J L m k f := by
  intro m
  induction m with
  | zero => intro k f _; rfl
  | succ m ih => intro k f hk; rw [goC, goC, h 4 k (by decide) (show k < 12 by omega), h 3 k (by decide) (show k < 12 by omega), hL.mask, ih _ _ (by omega)]
theorem goH_eq (h : SE I (L + 10) J (L + 10)) : ∀ (m k : Nat) (f : Nat → Int64), k + m ≤ 3 → goH I L m k f = goH J L m k f := by
  intro m
  induction m with
  | zero => intro k f _; rfl
  | succ m ih => intro k f hk; rw [goH, goH, h 1 k (by decide) (show k < 8 by omega), h.sc (j := 0) (by decide), h.sc (j := 1) (by decide), ih _ _ (by omega)]
theorem cell_eq (h : SE I (L + 10) J (L + 10)) (hL : LE L I J) {x y : Int32} : x3_cell I L x y = x3_cell J L x y := by
  unfold x3_cell
  have e5 := h.at (k := 5) (x := x) (by decide)
  have e6 := h.at (k := 6) (x := x) (by decide)
  rw [show atF (I (L + 10 + 5)) 60 x = atF (J (L + 10 + 5)) 60 x from e5, show atF (I (L + 10 + 6)) 60 x = atF (J (L + 10 + 6)) 60 x from e6, hL (L + 2) (by omega) (by omega)]
theorem goW_eq (h : SE I (L + 10) J (L + 10)) (hL : LE L I J) (hi : i < 60) : ∀ (m k : Nat) (f : Nat → Int64), goW I L i m k f = goW J L i m k f := by
  intro m
  induction m with
  | zero => intro k f; rfl
  | succ m ih => intro k f; rw [goW, goW, cell_eq h hL, h 5 i (by decide) hi, ih]
theorem goR_eq (h : SE I (L + 10) J (L + 10)) (hL : LE L I J) : ∀ (m k : Nat) (f : Nat → Int64), k + m ≤ 60 → goR I L W m k f = goR J L W m k f := by
  intro m
  induction m with
  | zero => intro k f _; rfl
  | succ m ih => intro k f hk; rw [goR, goR, goW_eq h hL (by omega), ih _ _ (by omega)]
theorem see_eq (h : SE I (L + 10) J (L + 10)) (hL : LE L I J) (hH : H ≤ 3) (hr : rwN I (L + 10) ≤ 60) : seeF I L H W = seeF J L H W := by
  unfold seeF
  have e : rwN I (L + 10) = rwN J (L + 10) := by unfold rwN; rw [h.sc (j := 3) (by decide)]
  rw [goR_eq h hL _ _ _ (by omega), goH_eq h _ _ _ (by omega), goC_eq h hL _ _ _ (by omega), goY_eq h _ _ _ (by omega), e, h.sc (j := 2) (by decide)]
end SEEN
