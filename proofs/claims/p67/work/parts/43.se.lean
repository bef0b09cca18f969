/-! states that look the same -/
def ln7 (k : Nat) : Nat := [6, 8, 6, 12, 12, 60, 60].getD k 0
/-- the state at s in I looks as the one at t in J -/
def SE (I : JI) (s : Nat) (J : JI) (t : Nat) : Prop := ∀ k j, k < 7 → j < ln7 k → I (s + k) j = J (t + k) j
/-- the loom's fixed part is the same -/
def LE (L : Nat) (I J : JI) : Prop := ∀ z, L ≤ z → z < L + 10 → I z = J z
section SEL
variable {I J K : JI} {s t u L k j N m : Nat} {v x y : Int32}
theorem SE.rf : SE I s I s := fun _ _ _ _ => rfl
theorem SE.sy (h : SE I s J t) : SE J t I s := fun k j hk hj => (h k j hk hj).symm
theorem SE.tr (h : SE I s J t) (g : SE J t K u) : SE I s K u := fun k j hk hj => (h k j hk hj).trans (g k j hk hj)
theorem LE.rf : LE L I I := fun _ _ _ => rfl
theorem LE.sy (h : LE L I J) : LE L J I := fun z h1 h2 => (h z h1 h2).symm
theorem LE.tr (h : LE L I J) (g : LE L J K) : LE L I K := fun z h1 h2 => (h z h1 h2).trans (g z h1 h2)
theorem LE.of (h : ∀ z, z < s → J z = I z) (hs : L + 10 ≤ s) : LE L I J := fun z _ h2 => (h z (by omega)).symm
theorem SE.sc (h : SE I s J t) (hj : j < 6) : I s j = J t j := h 0 j (by decide) hj
theorem SE.st (h : SE I s J t) (hk : k < 7) : SE (stI I (s + k) j v) s (stI J (t + k) j v) t := fun k' j' hk' hj' => by
  by_cases e : k' = k
  · subst e
    by_cases e2 : j' = j
    · subst e2; rw [stI_at, stI_at]
    · rw [stI_aj e2, stI_aj e2]; exact h k' j' hk' hj'
  · rw [stI_o (by omega), stI_o (by omega)]; exact h k' j' hk' hj'
theorem SE.st0 (h : SE I s J t) : SE (stI I s j v) s (stI J t j v) t := h.st (k := 0) (by decide)
theorem SE.at (h : SE I s J t) (hk : k < 7) : atF (I (s + k)) (ln7 k) x = atF (J (t + k)) (ln7 k) x := by
  unfold atF
  by_cases e : x < 0 ∨ ln7 k ≤ x.toNatClampNeg
  · rw [if_pos e, if_pos e]
  · rw [if_neg e, if_neg e]; exact h k _ hk (Nat.not_le.mp fun q => e (Or.inr q))
theorem SE.pt (h : SE I s J t) (hk : k < 7) : SE (ptI I (s + k) N x v) s (ptI J (t + k) N x v) t := by
  unfold ptI
  by_cases e : x < 0 ∨ N ≤ x.toNatClampNeg
  · rw [if_pos e, if_pos e]; exact h
  · rw [if_neg e, if_neg e]; exact h.st hk
theorem SE.yarn (h : SE I s J t) : SE (x7_addYarn I s x y) s (x7_addYarn J t x y) t := by
  unfold x7_addYarn
  rw [show atF (I (s + 2)) 6 x = atF (J (t + 2)) 6 x from h.at (k := 2) (by decide)]
  exact h.pt (k := 2) (by decide)
theorem SE.row (h : SE I s J t) : SE (x7_addRow I s x y) s (x7_addRow J t x y) t := by
  have h1 : SE (ptI I (s + 5) 60 (I s 3) x) s (ptI J (t + 5) 60 (J t 3) x) t := by rw [h.sc (j := 3) (by decide)]; exact h.pt (k := 5) (by decide)
  have h2 : SE (ptI (ptI I (s + 5) 60 (I s 3) x) (s + 6) 60 (ptI I (s + 5) 60 (I s 3) x s 3) y) s (ptI (ptI J (t + 5) 60 (J t 3) x) (t + 6) 60 (ptI J (t + 5) 60 (J t 3) x t 3) y) t := by
    rw [h1.sc (j := 3) (by decide)]; exact h1.pt (k := 6) (by decide)
  show SE (stI (ptI (ptI I (s + 5) 60 (I s 3) x) (s + 6) 60 (ptI I (s + 5) 60 (I s 3) x s 3) y) s 3 (ptI (ptI I (s + 5) 60 (I s 3) x) (s + 6) 60 (ptI I (s + 5) 60 (I s 3) x s 3) y s 3 + 1)) s (stI (ptI (ptI J (t + 5) 60 (J t 3) x) (t + 6) 60 (ptI J (t + 5) 60 (J t 3) x t 3) y) t 3 (ptI (ptI J (t + 5) 60 (J t 3) x) (t + 6) 60 (ptI J (t + 5) 60 (J t 3) x t 3) y t 3 + 1)) t
  rw [h2.sc (j := 3) (by decide)]; exact h2.st0
theorem LE.c0 (h : LE L I J) : I L = J L := h L (Nat.le_refl _) (by omega)
theorem LE.cfr (h : LE L I J) : x0_cfr I (L + 5) x = x0_cfr J (L + 5) x := by
  unfold x0_cfr
  rw [h (L + 5) (by omega) (by omega), show L + 5 + 2 = L + 7 from rfl, h (L + 7) (by omega) (by omega)]
theorem LE.mask (h : LE L I J) : x3_mask I L x = x3_mask J L x := by
  unfold x3_mask
  rw [h (L + 1) (by omega) (by omega), h.c0]
theorem SE.mvB (h : SE I s J t) (hL : LE L I J) (hs : L + 10 ≤ s) (ht : L + 10 ≤ t) : SE (mvB I L s x j) s (mvB J L t x j) t ∧ LE L (mvB I L s x j) (mvB J L t x j) := by
  refine ⟨?_, fun z h1 h2 => by rw [fr_mvB (Or.inl (by omega)), fr_mvB (Or.inl (by omega))]; exact hL z h1 h2⟩
  unfold Jvm.Pilot.CCardLoomLaw_law_r7482_537966.mvB
  by_cases e : hasB x (nI j) = true
  · rw [if_pos e, if_pos e]
    have h1 : SE (ptI I (s + 1) 8 (nI j) (atF (I (s + 1)) 8 (nI j) + 1)) s (ptI J (t + 1) 8 (nI j) (atF (J (t + 1)) 8 (nI j) + 1)) t := by
      rw [show atF (I (s + 1)) 8 (nI j) = atF (J (t + 1)) 8 (nI j) from h.at (k := 1) (by decide)]; exact h.pt (k := 1) (by decide)
    have e1 : ptI I (s + 1) 8 (nI j) (atF (I (s + 1)) 8 (nI j) + 1) L 1 = ptI J (t + 1) 8 (nI j) (atF (J (t + 1)) 8 (nI j) + 1) L 1 := by
      rw [congrFun (fr_ptI (show L ≠ s + 1 by omega)) 1, congrFun (fr_ptI (show L ≠ t + 1 by omega)) 1, hL.c0]
    have e2 : atF (I (s + 1)) 8 (nI j) = atF (J (t + 1)) 8 (nI j) := h.at (k := 1) (by decide)
    show SE (if _ then _ else _) s (if _ then _ else _) t
    rw [e2] at h1 e1 ⊢
    rw [e1]
    by_cases q : atF (J (t + 1)) 8 (nI j) + 1 = ptI J (t + 1) 8 (nI j) (atF (J (t + 1)) 8 (nI j) + 1) L 1
    · rw [if_pos q, if_pos q, h1.sc (j := 1) (by decide)]
      exact (h1.st0 (j := 1)).st0
    · rw [if_neg q, if_neg q]; exact h1
  · rw [if_neg e, if_neg e]; exact h
theorem SE.mvI (hs : L + 10 ≤ s) (ht : L + 10 ≤ t) : ∀ (m j : Nat) (I J : JI), SE I s J t → LE L I J → SE (mvI L s x m j I) s (mvI L t x m j J) t := by
  intro m
  induction m with
  | zero => intro j I J h _; exact h
  | succ m ih => intro j I J h hL; exact ih (j + 1) _ _ (h.mvB hL hs ht).1 (h.mvB hL hs ht).2
theorem SE.move (h : SE I s J t) (hL : LE L I J) (hs : L + 10 ≤ s) (ht : L + 10 ≤ t) : SE (x3_move I L s x) s (x3_move J L t x) t := by
  have em : x3_moving I s x = x3_moving J t x := by unfold x3_moving; rw [h.sc (j := 0) (by decide), h.sc (j := 1) (by decide)]
  unfold x3_move
  rw [em, hL.c0, h.sc (j := 0) (by decide)]
  exact SE.mvI hs ht _ _ _ _ h.st0 (fun z h1 h2 => by rw [fr_stI (by omega), fr_stI (by omega)]; exact hL z h1 h2)
theorem brA_se (h : SE I s J t) (a : Nat) : ∀ m, brA (I (s + 5)) x a m = brA (J (t + 5)) x a m := by
  intro m
  induction m with
  | zero => rfl
  | succ m ih => show brA _ _ _ m &&& atF _ 60 _ = _; rw [ih, show atF (I (s + 5)) 60 (nI (a + m)) = atF (J (t + 5)) 60 (nI (a + m)) from h.at (k := 5) (by decide)]; rfl
theorem SE.brk (h : SE I s J t) (hL : LE L I J) : SE (x3_break I L s) s (x3_break J L t) t := by
  have e1 : x3_strained I L s = x3_strained J L t := by
    unfold x3_strained
    rw [hL.c0, h.sc (j := 3) (by decide), show atF (I (s + 5)) 60 (J t 3 - 1) = atF (J (t + 5)) 60 (J t 3 - 1) from h.at (k := 5) (by decide), brA_se h]
  unfold x3_break
  rw [e1, hL.c0, h.sc (j := 3) (by decide)]
  by_cases q : J L 2 = 0 ∨ J t 3 < J L 2
  · rw [if_pos q, if_pos q]; exact h
  · rw [if_neg q, if_neg q]
    by_cases q2 : x3_strained J L t = 0
    · rw [if_pos q2, if_pos q2]; exact h
    · rw [if_neg q2, if_neg q2, h.sc (j := 2) (by decide)]; exact (h.st0 (j := 2)).st0
theorem SE.obst (h : SE I s J t) (hL : LE L I J) : x3_obst I L s = x3_obst J L t := by
  unfold x3_obst
  rw [h.sc (j := 3) (by decide), hL.cfr, hL (L + 5) (by omega) (by omega), hL.c0, show ∀ y, atF (I (s + 4)) 12 y = atF (J (t + 4)) 12 y from fun y => h.at (k := 4) (by decide), show ∀ y, atF (I (s + 2)) 6 y = atF (J (t + 2)) 6 y from fun y => h.at (k := 2) (by decide), show ∀ y, atF (I (s + 3)) 12 y = atF (J (t + 3)) 12 y from fun y => h.at (k := 3) (by decide), hL.mask]
theorem LE.up (hL : LE L I J) {f g : JI} (hf : ∀ z, z < L + 10 → f z = I z) (hg : ∀ z, z < L + 10 → g z = J z) : LE L f g := fun z h1 h2 => by rw [hf z h2, hg z h2]; exact hL z h1 h2
theorem SE.wn (h : SE I s J t) (hL : LE L I J) (hs : L + 10 ≤ s) (ht : L + 10 ≤ t) : SE (x3_weaveNext I L s) s (x3_weaveNext J L t) t ∧ LE L (x3_weaveNext I L s) (x3_weaveNext J L t) := by
  refine ⟨?_, hL.up (fun z hz => fr_x3_weaveNext (Or.inl (by omega))) (fun z hz => fr_x3_weaveNext (Or.inl (by omega)))⟩
  have ec : x0_cfr I (L + 5) (I s 3) = x0_cfr J (L + 5) (J t 3) := by rw [h.sc (j := 3) (by decide), hL.cfr]
  have ew : atF (I (s + 4)) 12 (x0_cfr I (L + 5) (I s 3)) = atF (J (t + 4)) 12 (x0_cfr J (L + 5) (J t 3)) := by rw [ec]; exact h.at (k := 4) (by decide)
  have h1 : SE (x7_addYarn I s (atF (I (s + 4)) 12 (x0_cfr I (L + 5) (I s 3))) (-(I L 4))) s (x7_addYarn J t (atF (J (t + 4)) 12 (x0_cfr J (L + 5) (J t 3))) (-(J L 4))) t := by
    rw [ew, hL.c0]; exact h.yarn
  have L1 := hL.up (f := x7_addYarn I s (atF (I (s + 4)) 12 (x0_cfr I (L + 5) (I s 3))) (-(I L 4))) (g := x7_addYarn J t (atF (J (t + 4)) 12 (x0_cfr J (L + 5) (J t 3))) (-(J L 4))) (fun z hz => fr_x7_addYarn (Or.inl (by omega))) (fun z hz => fr_x7_addYarn (Or.inl (by omega)))
  unfold x3_weaveNext
  simp only []
  generalize x7_addYarn I s (atF (I (s + 4)) 12 (x0_cfr I (L + 5) (I s 3))) (-(I L 4)) = I1 at h1 L1 ⊢
  generalize x7_addYarn J t (atF (J (t + 4)) 12 (x0_cfr J (L + 5) (J t 3))) (-(J L 4)) = J1 at h1 L1 ⊢
  have h2 : SE (x3_move I1 L s (atF (I1 (s + 3)) 12 (x0_cfr I (L + 5) (I s 3)))) s (x3_move J1 L t (atF (J1 (t + 3)) 12 (x0_cfr J (L + 5) (J t 3)))) t := by
    rw [ec, show ∀ y, atF (I1 (s + 3)) 12 y = atF (J1 (t + 3)) 12 y from fun y => h1.at (k := 3) (by decide)]; exact h1.move L1 hs ht
  have L2 := L1.up (f := x3_move I1 L s (atF (I1 (s + 3)) 12 (x0_cfr I (L + 5) (I s 3)))) (g := x3_move J1 L t (atF (J1 (t + 3)) 12 (x0_cfr J (L + 5) (J t 3)))) (fun z hz => fr_x3_move (Or.inl (by omega))) (fun z hz => fr_x3_move (Or.inl (by omega)))
  generalize x3_move I1 L s (atF (I1 (s + 3)) 12 (x0_cfr I (L + 5) (I s 3))) = I2 at h2 L2 ⊢
  generalize x3_move J1 L t (atF (J1 (t + 3)) 12 (x0_cfr J (L + 5) (J t 3))) = J2 at h2 L2 ⊢
  have h3 : SE (x7_addRow I2 s (x3_mask I2 L (I2 s 0) &&& (I2 s 2 ^^^ (-1))) (atF (I (s + 4)) 12 (x0_cfr I (L + 5) (I s 3)))) s (x7_addRow J2 t (x3_mask J2 L (J2 t 0) &&& (J2 t 2 ^^^ (-1))) (atF (J (t + 4)) 12 (x0_cfr J (L + 5) (J t 3)))) t := by
    rw [ew, h2.sc (j := 0) (by decide), h2.sc (j := 2) (by decide), L2.mask]; exact h2.row
  have L3 := L2.up (f := x7_addRow I2 s (x3_mask I2 L (I2 s 0) &&& (I2 s 2 ^^^ (-1))) (atF (I (s + 4)) 12 (x0_cfr I (L + 5) (I s 3)))) (g := x7_addRow J2 t (x3_mask J2 L (J2 t 0) &&& (J2 t 2 ^^^ (-1))) (atF (J (t + 4)) 12 (x0_cfr J (L + 5) (J t 3)))) (fun z hz => fr_x7_addRow (Or.inl (by omega))) (fun z hz => fr_x7_addRow (Or.inl (by omega)))
  exact h3.brk L3
theorem SE.wu (hs : L + 10 ≤ s) (ht : L + 10 ≤ t) : ∀ (m : Nat) (I J : JI), SE I s J t → LE L I J → wuN L s m I = wuN L t m J ∧ SE (wuI L s m I) s (wuI L t m J) t := by
  intro m
  induction m with
  | zero => intro I J h hL; exact ⟨rfl, h⟩
  | succ m ih =>
    intro I J h hL
    rw [wuN, wuN, wuI, wuI, h.obst hL]
    by_cases q : x3_obst J L t = 0
    · rw [if_pos q, if_pos q, if_pos q, if_pos q]
      obtain ⟨g1, g2⟩ := h.wn hL hs ht
      obtain ⟨k1, k2⟩ := ih _ _ g1 g2
      exact ⟨by rw [k1], k2⟩
    · rw [if_neg q, if_neg q, if_neg q, if_neg q]; exact ⟨rfl, h⟩
/-- as many as one asks for, or as many as are possible -/
theorem wuN_min : ∀ (a b : Nat) (I : JI), a ≤ b → wuN L s a I = min a (wuN L s b I) := by
  intro a
  induction a with
  | zero => intro b I _; rw [wuN]; exact (Nat.zero_min _).symm
  | succ a ih =>
    intro b I hb
    obtain ⟨b, rfl⟩ : ∃ b', b = b' + 1 := ⟨b - 1, by omega⟩
    rw [wuN, wuN]
    by_cases q : x3_obst I L s = 0
    · rw [if_pos q, if_pos q, ih b _ (by omega)]; omega
    · rw [if_neg q, if_neg q]; rfl
theorem wuN_le : ∀ (a : Nat) (I : JI), wuN L s a I ≤ a := fun a I => by rw [wuN_min a a I (Nat.le_refl _)]; omega
end SEL
