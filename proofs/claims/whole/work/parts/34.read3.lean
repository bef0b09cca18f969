/-! the cloth -/
section READ3
variable {I J : JI} {L m H W C P R : Nat}
theorem cell_C {r w : Nat} (hr : r < 60) (hw : w < 24) : x3_cell I L (nI r) (nI w) = cellC I L (L + 10) r w := by
  unfold x3_cell cellC
  rw [atF_nI hr (by omega), hasB_bt (by omega), atF_nI hw (by omega), atF_nI hr (by omega)]
theorem sh_C {r w : Nat} (hr : r < 60) (hw : w < 24) : hasB (atF (I (L + 10 + 5)) 60 (nI r)) (nI w) = bt (I (L + 10 + 5) r) w := by
  rw [atF_nI hr (by omega), hasB_bt (by omega)]
theorem l_lwf (h : KR I L (L + 10) (J (m + 1)) H W C P R) {q : Nat} (hq : q < W) : s_X9_longestWarpFloat_L17 J m (nI q) lf 0 0 0 = some ((lrF (fun i => hasB (atF (I (L + 10 + 5)) 60 (nI i)) (nI q)) R).2, (lrF (fun i => hasB (atF (I (L + 10 + 5)) 60 (nI i)) (nI q)) R).1, nI R) := by
  obtain ⟨⟨g0, g2, g3, g4, g5⟩, b1, b2, b3, b4, b5, b6⟩ := h.g
  refine loopA (fun f a i => s_X9_longestWarpFloat_L17 J m (nI q) f a.2 a.1 i) (fun j => lrF (fun i => hasB (atF (I (L + 10 + 5)) 60 (nI i)) (nI q)) j) _ 0 R (fun f => ?_) (fun f j _ hj => ?_) lf 0 (Nat.le_refl 0) (Nat.zero_le R) (by unfold lf; omega)
  · rw [s_X9_longestWarpFloat_L17, gl5, cl5, g5, if_pos (Int32.le_refl _)]
  · rw [s_X9_longestWarpFloat_L17, gl5, cl5, g5, if_neg (nI_ge hj (by omega)), e_shows h hj hq, bd_some, nI_1]
    rw [show lrF (fun i => hasB (atF (I (L + 10 + 5)) 60 (nI i)) (nI q)) (j + 1) = (mxF (lrF (fun i => hasB (atF (I (L + 10 + 5)) 60 (nI i)) (nI q)) j).1 (if hasB (atF (I (L + 10 + 5)) 60 (nI j)) (nI q) = true then (lrF (fun i => hasB (atF (I (L + 10 + 5)) 60 (nI i)) (nI q)) j).2 + 1 else 0), if hasB (atF (I (L + 10 + 5)) 60 (nI j)) (nI q) = true then (lrF (fun i => hasB (atF (I (L + 10 + 5)) 60 (nI i)) (nI q)) j).2 + 1 else 0) from rfl, sh_C (by omega) (by omega)]
    cases bt (I (L + 10 + 5) j) q <;> rfl
theorem l_lwe (h : KR I L (L + 10) (J (m + 1)) H W C P R) {q : Nat} (hq : q < R) : s_X9_longestWeftFloat_L17 J m (nI q) lf 0 0 0 = some ((lrF (fun i => !hasB (atF (I (L + 10 + 5)) 60 (nI q)) (nI i)) W).2, (lrF (fun i => !hasB (atF (I (L + 10 + 5)) 60 (nI q)) (nI i)) W).1, nI W) := by
  obtain ⟨⟨g0, g2, g3, g4, g5⟩, b1, b2, b3, b4, b5, b6⟩ := h.g
  refine loopA (fun f a i => s_X9_longestWeftFloat_L17 J m (nI q) f a.2 a.1 i) (fun j => lrF (fun i => !hasB (atF (I (L + 10 + 5)) 60 (nI q)) (nI i)) j) _ 0 W (fun f => ?_) (fun f j _ hj => ?_) lf 0 (Nat.le_refl 0) (Nat.zero_le W) (by unfold lf; omega)
  · rw [s_X9_longestWeftFloat_L17, gl2, cl2, g2, if_pos (Int32.le_refl _)]
  · rw [s_X9_longestWeftFloat_L17, gl2, cl2, g2, if_neg (nI_ge hj (by omega)), e_shows h hq hj, bd_some, nI_1]
    rw [show lrF (fun i => !hasB (atF (I (L + 10 + 5)) 60 (nI q)) (nI i)) (j + 1) = (mxF (lrF (fun i => !hasB (atF (I (L + 10 + 5)) 60 (nI q)) (nI i)) j).1 (if (!hasB (atF (I (L + 10 + 5)) 60 (nI q)) (nI j)) = true then (lrF (fun i => !hasB (atF (I (L + 10 + 5)) 60 (nI q)) (nI i)) j).2 + 1 else 0), if (!hasB (atF (I (L + 10 + 5)) 60 (nI q)) (nI j)) = true then (lrF (fun i => !hasB (atF (I (L + 10 + 5)) 60 (nI q)) (nI i)) j).2 + 1 else 0) from rfl, sh_C (by omega) (by omega)]
    cases bt (I (L + 10 + 5) q) j <;> rfl
theorem e_half (h : KR I L (L + 10) (J (m + 1)) H W C P R) {r w : Nat} (hr : r < R) (hw : w < W) : (2 * cellC I L (L + 10) r w + zb (bt (I (L + 10 + 5) r) w)) / 2 = x3_cell I L (nI r) (nI w) := by
  obtain ⟨-, b1, b2, b3, b4, b5, b6⟩ := h.g
  obtain ⟨q, q1, q2⟩ := ((h.row hr).2.2 w hw).2
  rw [cell_C (by omega) (by omega), q2, half_cell _ _ (by omega)]
theorem l_coc1 (h : KR I L (L + 10) (J (m + 1)) H W C P R) {r : Nat} (hr : r < R) {z x : Int32} {j : Nat} (hj0 : 0 ≤ j) (hjN : j ≤ W) : s_X9_cellsOfColour_L27 J m (nI r) x lf (ccW I L x (nI r) z j) (nI j) = some (ccW I L x (nI r) z W, nI W) := by
  obtain ⟨⟨g0, g2, g3, g4, g5⟩, b1, b2, b3, b4, b5, b6⟩ := h.g
  obtain ⟨c0, c4, c7, c3, cs⟩ := h.c
  refine loopA (fun f a i => s_X9_cellsOfColour_L27 J m (nI r) x f a i) (fun j => ccW I L x (nI r) z j) _ 0 W (fun f => ?_) (fun f j hj1 hj => ?_) lf j hj0 hjN (by unfold lf; omega)
  · show s_X9_cellsOfColour_L27 J m (nI r) x (f + 1) (ccW I L x (nI r) z W) (nI W) = _
    rw [s_X9_cellsOfColour_L27, gl2, cl2, g2, if_pos (Int32.le_refl _)]
  · show s_X9_cellsOfColour_L27 J m (nI r) x (f + 1) (ccW I L x (nI r) z j) (nI j) = _
    rw [s_X9_cellsOfColour_L27, gl2, cl2, g2, if_neg (nI_ge hj (by omega)), e_cellOf h hr hj, bd_some, nI_1, e_half h hr hj]
    rw [show ccW I L x (nI r) z (j + 1) = if x3_cell I L (nI r) (nI j) = x then ccW I L x (nI r) z j + 1 else ccW I L x (nI r) z j from rfl]
    by_cases q : x3_cell I L (nI r) (nI j) = x
    · rw [if_pos q, if_pos q]; rfl
    · rw [if_neg q, if_neg q, lx_s, one_zb, zbf, Int32.add_zero]
theorem l_coc2 (h : KR I L (L + 10) (J (m + 1)) H W C P R) {x : Int32} {j : Nat} (hj0 : 0 ≤ j) (hjN : j ≤ R) : s_X9_cellsOfColour_L14 J m x lf (ccR I L x j) (nI j) = some (ccR I L x R, nI R) := by
  obtain ⟨⟨g0, g2, g3, g4, g5⟩, b1, b2, b3, b4, b5, b6⟩ := h.g
  obtain ⟨c0, c4, c7, c3, cs⟩ := h.c
  refine loopA (fun f a i => s_X9_cellsOfColour_L14 J m x f a i) (fun j => ccR I L x j) _ 0 R (fun f => ?_) (fun f j hj1 hj => ?_) lf j hj0 hjN (by unfold lf; omega)
  · show s_X9_cellsOfColour_L14 J m x (f + 1) (ccR I L x R) (nI R) = _
    rw [s_X9_cellsOfColour_L14, gl5, cl5, g5, if_pos (Int32.le_refl _)]
  · show s_X9_cellsOfColour_L14 J m x (f + 1) (ccR I L x j) (nI j) = _
    rw [s_X9_cellsOfColour_L14, gl5, cl5, g5, if_neg (nI_ge hj (by omega))]
    rw [show s_X9_cellsOfColour_L27 J m (nI j) x lf (ccR I L x j) 0 = _ from l_coc1 h hj (z := ccR I L x j) (x := x) (j := 0) (Nat.le_refl 0) (Nat.zero_le W), bd_some, nI_1]
    rw [show ccR I L x (j + 1) = ccW I L x (nI j) (ccR I L x j) (I L 4).toNatClampNeg from rfl, c4, cl_nI (by omega)]
theorem crW_find {p : Nat} : ∀ n j r, p ≤ r → crW I L (nI r) (nI p) n j = (findF (fun w => !decide (x3_cell I L (nI r) (nI w) = x3_cell I L (nI (r - p)) (nI w))) n j).isNone := by
  intro n
  induction n with
  | zero => intro j r _; rfl
  | succ n ih =>
    intro j r hp
    unfold crW
    rw [findF_s, nI_sub hp]
    by_cases q : x3_cell I L (nI r) (nI j) = x3_cell I L (nI (r - p)) (nI j)
    · rw [if_pos q, if_neg (by simp [q]), ih _ _ hp]
    · rw [if_neg q, if_pos (by simp [q])]; rfl
theorem l_alike (h : KR I L (L + 10) (J (m + 1)) H W C P R) {r r2 : Nat} (hr : r < R) (hr2 : r2 < R) {j : Nat} (hj0 : 0 ≤ j) (hjN : j ≤ W) : s_X9_areAlike_L2 J m (nI r) (nI r2) lf (nI j) = some (sumF (fun _ => false) (nI W) (findF (fun w => !decide (x3_cell I L (nI r) (nI w) = x3_cell I L (nI r2) (nI w))) (W - j) j)) := by
  obtain ⟨⟨g0, g2, g3, g4, g5⟩, b1, b2, b3, b4, b5, b6⟩ := h.g
  obtain ⟨c0, c4, c7, c3, cs⟩ := h.c
  refine loopS (fun f i => s_X9_areAlike_L2 J m (nI r) (nI r2) f i) (fun w => !decide (x3_cell I L (nI r) (nI w) = x3_cell I L (nI r2) (nI w))) (fun _ => false) (nI W) 0 (W) (fun f => ?_) (fun f j hj1 hj => ?_) lf j hj0 hjN (by unfold lf; omega)
  · show s_X9_areAlike_L2 J m (nI r) (nI r2) (f + 1) (nI (W)) = _
    rw [s_X9_areAlike_L2, gl2, cl2, g2, if_pos (Int32.le_refl _)]
  · show s_X9_areAlike_L2 J m (nI r) (nI r2) (f + 1) (nI j) = _
    rw [s_X9_areAlike_L2, gl2, cl2, g2, if_neg (nI_ge hj (by omega)), e_cellOf h hr hj, bd_some, e_cellOf h hr2 hj, bd_some, nI_1, e_half h hr hj, e_half h hr2 hj]
    by_cases q : x3_cell I L (nI r) (nI j) = x3_cell I L (nI r2) (nI j)
    · rw [if_pos q, decide_eq_true q]; rfl
    · rw [if_neg q, decide_eq_false q]; rfl
theorem e_areAlike (h : KR I L (L + 10) (J (m + 1)) H W C P R) {r p : Nat} (hr : r < R) (hp : p ≤ r) : s_X9_areAlike J m (nI r) (nI (r - p)) = some (crW I L (nI r) (nI p) W 0) := by
  unfold s_X9_areAlike
  rw [show s_X9_areAlike_L2 J m (nI r) (nI (r - p)) lf 0 = _ from l_alike h hr (r2 := r - p) (by omega) (j := 0) (Nat.le_refl 0) (Nat.zero_le W), crW_find _ _ _ hp, Nat.sub_zero]
  cases findF (fun w => !decide (x3_cell I L (nI r) (nI w) = x3_cell I L (nI (r - p)) (nI w))) W 0 <;> rfl
theorem crR_find {p W : Nat} (hW : (I L 4).toNatClampNeg = W) : ∀ n j, crR I L (nI p) n j = (findF (fun r => !crW I L (nI r) (nI p) W 0) n j).isNone := by
  intro n
  induction n with
  | zero => intro j; rfl
  | succ n ih =>
    intro j
    unfold crR
    rw [findF_s, hW]
    by_cases q : crW I L (nI j) (nI p) W 0 = true
    · rw [if_pos q, if_neg (by simp [q]), ih]
    · rw [if_neg q, if_pos (by simp [q])]; rfl
theorem l_rowPer1 (h : KR I L (L + 10) (J (m + 1)) H W C P R) {p : Nat} {j : Nat} (hj0 : p ≤ j) (hjN : j ≤ R) : s_X9_isRowPeriod_L2 J m (nI p) lf (nI j) = some (sumF (fun _ => false) (nI R) (findF (fun r => !crW I L (nI r) (nI p) W 0) (R - j) j)) := by
  obtain ⟨⟨g0, g2, g3, g4, g5⟩, b1, b2, b3, b4, b5, b6⟩ := h.g
  obtain ⟨c0, c4, c7, c3, cs⟩ := h.c
  refine loopS (fun f i => s_X9_isRowPeriod_L2 J m (nI p) f i) (fun r => !crW I L (nI r) (nI p) W 0) (fun _ => false) (nI R) p (R) (fun f => ?_) (fun f j hj1 hj => ?_) lf j hj0 hjN (by unfold lf; omega)
  · show s_X9_isRowPeriod_L2 J m (nI p) (f + 1) (nI (R)) = _
    rw [s_X9_isRowPeriod_L2, gl5, cl5, g5, if_pos (Int32.le_refl _)]
  · show s_X9_isRowPeriod_L2 J m (nI p) (f + 1) (nI j) = _
    rw [s_X9_isRowPeriod_L2, gl5, cl5, g5, if_neg (nI_ge hj (by omega)), nI_sub hj1, e_areAlike h hj hj1, bd_some, nI_1]
    cases crW I L (nI j) (nI p) W 0 <;> rfl
theorem e_isRowPeriod (h : KR I L (L + 10) (J (m + 1)) H W C P R) {p : Nat} (hp : p ≤ R) : s_X9_isRowPeriod J m (nI p) = some (crR I L (nI p) (R - p) p) := by
  obtain ⟨-, b1, b2, b3, b4, b5, b6⟩ := h.g
  obtain ⟨c0, c4, c7, c3, cs⟩ := h.c
  unfold s_X9_isRowPeriod
  rw [l_rowPer1 h (Nat.le_refl p) hp, crR_find (by rw [c4, cl_nI (by omega)])]
  cases findF (fun r => !crW I L (nI r) (nI p) W 0) (R - p) p <;> rfl
theorem l_rowPer2 (h : KR I L (L + 10) (J (m + 1)) H W C P R) {j : Nat} (hj0 : 1 ≤ j) (hjN : j ≤ R + 1) : s_X9_rowPeriod_L11 J m lf (nI j) = some (sumF (fun p => (nI p, J)) (nI (R + 1)) (findF (fun p => crR I L (nI p) (R - p) p) (R + 1 - j) j)) := by
  obtain ⟨⟨g0, g2, g3, g4, g5⟩, b1, b2, b3, b4, b5, b6⟩ := h.g
  obtain ⟨c0, c4, c7, c3, cs⟩ := h.c
  refine loopS (fun f i => s_X9_rowPeriod_L11 J m f i) (fun p => crR I L (nI p) (R - p) p) (fun p => (nI p, J)) (nI (R + 1)) 1 (R + 1) (fun f => ?_) (fun f j hj1 hj => ?_) lf j hj0 hjN (by unfold lf; omega)
  · show s_X9_rowPeriod_L11 J m (f + 1) (nI (R + 1)) = _
    rw [s_X9_rowPeriod_L11, gl5, cl5, g5, if_pos (nI_lt (by omega) (by omega))]
  · show s_X9_rowPeriod_L11 J m (f + 1) (nI j) = _
    rw [s_X9_rowPeriod_L11, gl5, cl5, g5, if_neg (nI_nlt (by omega) (by omega)), e_isRowPeriod h (by omega), bd_some, nI_1]
theorem lrdF_find {R : Nat} (hR : I (L + 10) 3 = nI R) (hR2 : R ≤ 60) : ∀ n j, j + n = R → lrdF I L n j = (match findF (fun p => crR I L (nI p) (R - p) p) n j with | some p => nI p | none => nI R) := by
  intro n
  induction n with
  | zero => intro j _; exact hR
  | succ n ih =>
    intro j hj
    unfold lrdF
    rw [findF_s, hR, cl_nI (by omega)]
    by_cases q : crR I L (nI j) (R - j) j = true
    · rw [if_pos q, if_pos q]
    · rw [if_neg q, if_neg q, ih _ (by omega)]
theorem findF_snoc {p : Nat → Bool} : ∀ n j, findF p (n + 1) j = (match findF p n j with | some k => some k | none => if p (j + n) = true then some (j + n) else none) := by
  intro n
  induction n with
  | zero => intro j; rfl
  | succ n ih =>
    intro j
    rw [findF_s, ih, findF_s p n j]
    by_cases q : p j = true
    · rw [if_pos q, if_pos q]
    · rw [if_neg q, if_neg q, show j + 1 + n = j + (n + 1) by omega]
/-- the row period, both ways -/
theorem e_rowPeriod (h : KR I L (L + 10) (J (m + 1)) H W C P R) : bl (s_X9_rowPeriod_L11 J m lf 1) (fun _ => some (0, J)) = some (lrdF I L (R - 1) 1, J) := by
  obtain ⟨-, b1, b2, b3, b4, b5, b6⟩ := h.g
  obtain ⟨c0, c4, c7, c3, cs⟩ := h.c
  rw [show s_X9_rowPeriod_L11 J m lf 1 = _ from l_rowPer2 h (j := 1) (Nat.le_refl 1) (by omega)]
  by_cases q : R = 0
  · subst q
    show some ((0 : Int32), J) = some (lrdF I L 0 1, J)
    rw [show lrdF I L 0 1 = I (L + 10) 3 from rfl, cs]
    rfl
  · obtain ⟨d, hd⟩ : ∃ d, R = d + 1 := ⟨R - 1, by omega⟩
    have e1 : R + 1 - 1 = (R - 1) + 1 := by omega
    have e2 : 1 + (R - 1) = R := by omega
    have et : crR I L (nI R) (R - R) R = true := by rw [Nat.sub_self]; rfl
    rw [e1, findF_snoc, lrdF_find cs b5 (R - 1) 1 e2, e2, if_pos et]
    cases findF (fun p => crR I L (nI p) (R - p) p) (R - 1) 1 <;> rfl
theorem l_share1 (h : KR I L (L + 10) (J (m + 1)) H W C P R) {r z : Nat} (hr : r < R) {j : Nat} (hj0 : 0 ≤ j) (hjN : j ≤ W) : s_X9_warpShare_L34 J m (nI r) lf (nI (z + cntB (bt (I (L + 10 + 5) r)) j)) (nI j) = some (nI (z + cntB (bt (I (L + 10 + 5) r)) W), nI W) := by
  obtain ⟨⟨g0, g2, g3, g4, g5⟩, b1, b2, b3, b4, b5, b6⟩ := h.g
  obtain ⟨c0, c4, c7, c3, cs⟩ := h.c
  refine loopA (fun f a i => s_X9_warpShare_L34 J m (nI r) f a i) (fun j => nI (z + cntB (bt (I (L + 10 + 5) r)) j)) _ 0 W (fun f => ?_) (fun f j hj1 hj => ?_) lf j hj0 hjN (by unfold lf; omega)
  · show s_X9_warpShare_L34 J m (nI r) (f + 1) (nI (z + cntB (bt (I (L + 10 + 5) r)) W)) (nI W) = _
    rw [s_X9_warpShare_L34, gl2, cl2, g2, if_pos (Int32.le_refl _)]
  · show s_X9_warpShare_L34 J m (nI r) (f + 1) (nI (z + cntB (bt (I (L + 10 + 5) r)) j)) (nI j) = _
    rw [s_X9_warpShare_L34, gl2, cl2, g2, if_neg (nI_ge hj (by omega)), e_shows h hr hj, bd_some, lx_s, one_zb, nI_1]
    rw [show nI (z + cntB (bt (I (L + 10 + 5) r)) j) + zb (bt (I (L + 10 + 5) r) j) = nI (z + cntB (bt (I (L + 10 + 5) r)) (j + 1)) from by rw [← nI_add, Int32.add_assoc, nI_cnt, nI_add]]
theorem shF_sum (h : KR I L (L + 10) (J (m + 1)) H W C P R) : ∀ n, n ≤ R → ∃ z, z ≤ 24 * n ∧ shF (I (L + 10 + 5)) n = nI z := by
  obtain ⟨-, b1, b2, b3, b4, b5, b6⟩ := h.g
  intro n
  induction n with
  | zero => intro _; exact ⟨0, by omega, rfl⟩
  | succ n ih =>
    intro hn
    obtain ⟨z, z1, z2⟩ := ih (by omega)
    have hl := cntB_le (bt (I (L + 10 + 5) n)) W
    refine ⟨z + cntB (bt (I (L + 10 + 5) n)) W, by omega, ?_⟩
    unfold shF
    rw [z2, atF_nI (by omega) (by omega), bcF_LB (h.row (by omega)).1 b2, nI_add]
theorem l_share2 (h : KR I L (L + 10) (J (m + 1)) H W C P R) {j : Nat} (hj0 : 0 ≤ j) (hjN : j ≤ R) : s_X9_warpShare_L22 J m lf (shF (I (L + 10 + 5)) j) (nI j) = some (shF (I (L + 10 + 5)) R, nI R) := by
  obtain ⟨⟨g0, g2, g3, g4, g5⟩, b1, b2, b3, b4, b5, b6⟩ := h.g
  obtain ⟨c0, c4, c7, c3, cs⟩ := h.c
  refine loopA (fun f a i => s_X9_warpShare_L22 J m f a i) (fun j => shF (I (L + 10 + 5)) j) _ 0 R (fun f => ?_) (fun f j hj1 hj => ?_) lf j hj0 hjN (by unfold lf; omega)
  · show s_X9_warpShare_L22 J m (f + 1) (shF (I (L + 10 + 5)) R) (nI R) = _
    rw [s_X9_warpShare_L22, gl5, cl5, g5, if_pos (Int32.le_refl _)]
  · show s_X9_warpShare_L22 J m (f + 1) (shF (I (L + 10 + 5)) j) (nI j) = _
    obtain ⟨z, z1, z2⟩ := shF_sum h j (by omega)
    rw [s_X9_warpShare_L22, gl5, cl5, g5, if_neg (nI_ge hj (by omega)), z2]
    have e0 : s_X9_warpShare_L34 J m (nI j) lf (nI z) 0 = some (nI (z + cntB (bt (I (L + 10 + 5) j)) W), nI W) := l_share1 h (r := j) (z := z) hj (j := 0) (Nat.le_refl 0) (Nat.zero_le W)
    rw [e0, bd_some, nI_1]
    rw [show shF (I (L + 10 + 5)) (j + 1) = shF (I (L + 10 + 5)) j + bcF (atF (I (L + 10 + 5)) 60 (nI j)) from rfl, z2, atF_nI (by omega) (by omega), bcF_LB (h.row hj).1 b2, nI_add]
def alF (f : Nat → Int32) : Nat → Int32
  | 0 => 0
  | j + 1 => alF f j + bcF (atF f 12 (nI j))
theorem l_avg (h : KR I L (L + 10) (J (m + 1)) H W C P R) {j : Nat} (hj0 : 0 ≤ j) (hjN : j ≤ C) : s_X9_averageLifts_L22 J m lf (alF (I (L + 10 + 3)) j) (nI j) = some (alF (I (L + 10 + 3)) C, nI C) := by
  obtain ⟨⟨g0, g2, g3, g4, g5⟩, b1, b2, b3, b4, b5, b6⟩ := h.g
  obtain ⟨c0, c4, c7, c3, cs⟩ := h.c
  refine loopA (fun f a i => s_X9_averageLifts_L22 J m f a i) (fun j => alF (I (L + 10 + 3)) j) _ 0 C (fun f => ?_) (fun f j hj1 hj => ?_) lf j hj0 hjN (by unfold lf; omega)
  · show s_X9_averageLifts_L22 J m (f + 1) (alF (I (L + 10 + 3)) C) (nI C) = _
    rw [s_X9_averageLifts_L22, gl3, cl3, g3, if_pos (Int32.le_refl _)]
  · show s_X9_averageLifts_L22 J m (f + 1) (alF (I (L + 10 + 3)) j) (nI j) = _
    obtain ⟨k1, k2, -⟩ := h.card hj
    rw [s_X9_averageLifts_L22, gl3, cl3, g3, if_neg (nI_ge hj (by omega)), a_ofCard0 (by omega), bd_some, k2, countOf_bc (k1.mono b1), bd_some, nI_1]
    rw [show alF (I (L + 10 + 3)) (j + 1) = alF (I (L + 10 + 3)) j + bcF (atF (I (L + 10 + 3)) 12 (nI j)) from rfl, atF_nI (by omega) (by omega)]
def ynC (I : JI) (L : Nat) (x : Int32) (a : Nat) : Nat → Nat := cntB (fun k => decide (I (L + 10 + 4) (I (L + 5 + 2) (a + k)).toNatClampNeg = x))
theorem ynC_s (I : JI) (L : Nat) (x : Int32) (a n : Nat) : ynC I L x a (n + 1) = ynC I L x a n + (if decide (I (L + 10 + 4) (I (L + 5 + 2) (a + n)).toNatClampNeg = x) = true then 1 else 0) := rfl
theorem ynF_cnt (h : KR I L (L + 10) (J (m + 1)) H W C P R) {x : Int32} {a : Nat} : ∀ n, a + n ≤ P → ynF I L x a n = nI (ynC I L x a n * W) := by
  obtain ⟨-, b1, b2, b3, b4, b5, b6⟩ := h.g
  obtain ⟨c0, c4, c7, c3, cs⟩ := h.c
  intro n
  induction n with
  | zero => intro _; unfold ynC; show (0 : Int32) = nI (0 * W); rw [Nat.zero_mul]; rfl
  | succ n ih =>
    intro hn
    obtain ⟨c, k1, k2, -⟩ := h.pick (k := a + n) (by omega)
    have e : ynC I L x a (n + 1) = ynC I L x a n + (if decide (I (L + 10 + 4) c = x) = true then 1 else 0) := by
      rw [ynC_s, k2, cl_nI (by omega)]
    unfold ynF
    rw [atF_nI (by omega) (by omega), k2, atF_nI (by omega) (by omega), ih (by omega), c4, nI_add, e]
    by_cases q : I (L + 10 + 4) c = x
    · rw [if_pos q, decide_eq_true q, if_pos rfl, Nat.add_mul, Nat.one_mul]
    · rw [if_neg q, decide_eq_false q, if_neg (by decide), Nat.add_zero]
theorem l_yn (h : KR I L (L + 10) (J (m + 1)) H W C P R) {x : Int32} {a : Nat} {j : Nat} (hj0 : a ≤ j) (hjN : j ≤ P) : s_X9_yarnNeeded_L35 J m x lf (nI (ynC I L x a (j - a))) (nI j) = some (nI (ynC I L x a (P - a)), nI P) := by
  obtain ⟨⟨g0, g2, g3, g4, g5⟩, b1, b2, b3, b4, b5, b6⟩ := h.g
  obtain ⟨c0, c4, c7, c3, cs⟩ := h.c
  refine loopA (fun f a i => s_X9_yarnNeeded_L35 J m x f a i) (fun j => nI (ynC I L x a (j - a))) _ a P (fun f => ?_) (fun f j hj1 hj => ?_) lf j hj0 hjN (by unfold lf; omega)
  · show s_X9_yarnNeeded_L35 J m x (f + 1) (nI (ynC I L x a (P - a))) (nI P) = _
    rw [s_X9_yarnNeeded_L35, gl4, cl4, g4, if_pos (Int32.le_refl _)]
  · show s_X9_yarnNeeded_L35 J m x (f + 1) (nI (ynC I L x a (j - a))) (nI j) = _
    obtain ⟨c, k1, k2, k3⟩ := h.pick hj
    obtain ⟨-, -, q, q1, q2, q3⟩ := h.card k1
    rw [s_X9_yarnNeeded_L35, gl4, cl4, g4, if_neg (nI_ge hj (by omega)), show (164 : Int32) = nI 164 from rfl, nI_add, gd_in (by omega) (by omega), cl_nI (by omega), k3, a_ofCard1 (by omega), bd_some, q3, nI_1]
    have e : ynC I L x a (j + 1 - a) = ynC I L x a (j - a) + (if decide (nI q = x) = true then 1 else 0) := by
      rw [show j + 1 - a = (j - a) + 1 by omega]
      rw [ynC_s, show a + (j - a) = j by omega, k2, cl_nI (by omega), q2]
    rw [e]
    by_cases q4 : nI q = x
    · rw [if_pos q4, decide_eq_true q4, if_pos rfl, lx_s, one_zb, zbt, nI_1]
    · rw [if_neg q4, decide_eq_false q4, if_neg (by decide), lx_s, one_zb, zbf, Int32.add_zero]; rfl
theorem l_broken (h : KR I L (L + 10) (J (m + 1)) H W C P R) {j : Nat} (hj0 : 0 ≤ j) (hjN : j ≤ W) : s_X9_brokenOnes_L4 J m lf (nI (cntB (bt (I (L + 10) 2)) j)) (nI j) = some (nI (cntB (bt (I (L + 10) 2)) W), nI W) := by
  obtain ⟨⟨g0, g2, g3, g4, g5⟩, b1, b2, b3, b4, b5, b6⟩ := h.g
  obtain ⟨c0, c4, c7, c3, cs⟩ := h.c
  refine loopA (fun f a i => s_X9_brokenOnes_L4 J m f a i) (fun j => nI (cntB (bt (I (L + 10) 2)) j)) _ 0 W (fun f => ?_) (fun f j hj1 hj => ?_) lf j hj0 hjN (by unfold lf; omega)
  · show s_X9_brokenOnes_L4 J m (f + 1) (nI (cntB (bt (I (L + 10) 2)) W)) (nI W) = _
    rw [s_X9_brokenOnes_L4, gl2, cl2, g2, if_pos (Int32.le_refl _)]
  · show s_X9_brokenOnes_L4 J m (f + 1) (nI (cntB (bt (I (L + 10) 2)) j)) (nI j) = _
    rw [s_X9_brokenOnes_L4, gl2, cl2, g2, if_neg (nI_ge hj (by omega)), a_breaks (by omega), bd_some, lx_s, one_zb, nI_1, h.brk hj]
    rw [show decide (zb (bt (I (L + 10) 2) j) = 1) = bt (I (L + 10) 2) j from by cases bt (I (L + 10) 2) j <;> rfl, nI_cnt]
theorem e_brokenOnes (h : KR I L (L + 10) (J (m + 1)) H W C P R) : s_X9_brokenOnes J m = some (bcF (I (L + 10) 2)) := by
  obtain ⟨-, b1, b2, b3, b4, b5, b6⟩ := h.g
  unfold s_X9_brokenOnes
  rw [show s_X9_brokenOnes_L4 J m lf 0 0 = _ from l_broken h (j := 0) (Nat.le_refl 0) (Nat.zero_le W), bcF_LB h.sets.2.2.1 b2]
  rfl
theorem l_warpsOn (h : KR I L (L + 10) (J (m + 1)) H W C P R) {q : Nat} (hq : q < H) {j : Nat} (hj0 : 0 ≤ j) (hjN : j ≤ W) : s_X9_warpsOn_L14 J m (nI q) lf (nI (cntB (bt (x3_mask I L ((1 : Int32) <<< (nI q &&& 31)))) j)) (nI j) = some (nI (cntB (bt (x3_mask I L ((1 : Int32) <<< (nI q &&& 31)))) W), nI W) := by
  obtain ⟨⟨g0, g2, g3, g4, g5⟩, b1, b2, b3, b4, b5, b6⟩ := h.g
  obtain ⟨c0, c4, c7, c3, cs⟩ := h.c
  refine loopA (fun f a i => s_X9_warpsOn_L14 J m (nI q) f a i) (fun j => nI (cntB (bt (x3_mask I L ((1 : Int32) <<< (nI q &&& 31)))) j)) _ 0 W (fun f => ?_) (fun f j hj1 hj => ?_) lf j hj0 hjN (by unfold lf; omega)
  · show s_X9_warpsOn_L14 J m (nI q) (f + 1) (nI (cntB (bt (x3_mask I L ((1 : Int32) <<< (nI q &&& 31)))) W)) (nI W) = _
    rw [s_X9_warpsOn_L14, gl2, cl2, g2, if_pos (Int32.le_refl _)]
  · show s_X9_warpsOn_L14 J m (nI q) (f + 1) (nI (cntB (bt (x3_mask I L ((1 : Int32) <<< (nI q &&& 31)))) j)) (nI j) = _
    obtain ⟨k, k1, k2, k3, k4⟩ := (mask_bt h ((1 : Int32) <<< (nI q &&& 31))).2 j hj
    rw [s_X9_warpsOn_L14, gl2, cl2, g2, if_neg (nI_ge hj (by omega)), a_harnessOf (by omega), bd_some, k2, nI_1, ← nI_cnt, k4, bt_shl (by omega) (by omega)]
    by_cases q4 : k = q
    · rw [if_pos (by rw [q4]), decide_eq_true q4]; rfl
    · rw [if_neg (fun e => q4 ((nI_eq (by omega) (by omega)).mp e)), decide_eq_false q4]; rfl
theorem l_imb (h : KR I L (L + 10) (J (m + 1)) H W C P R) {z : Int32} {j : Nat} (hj0 : 0 ≤ j) (hjN : j ≤ 6) : s_X9_imbalance_L25 J m lf (z + ysum (I (L + 10 + 2)) j) (nI j) = some (z + ysum (I (L + 10 + 2)) 6, nI 6) := by
  obtain ⟨⟨g0, g2, g3, g4, g5⟩, b1, b2, b3, b4, b5, b6⟩ := h.g
  obtain ⟨c0, c4, c7, c3, cs⟩ := h.c
  refine loopA (fun f a i => s_X9_imbalance_L25 J m f a i) (fun j => z + ysum (I (L + 10 + 2)) j) _ 0 6 (fun f => ?_) (fun f j hj1 hj => ?_) lf j hj0 hjN (by unfold lf; omega)
  · show s_X9_imbalance_L25 J m (f + 1) (z + ysum (I (L + 10 + 2)) 6) (nI 6) = _
    rw [s_X9_imbalance_L25, if_pos (by decide)]
  · show s_X9_imbalance_L25 J m (f + 1) (z + ysum (I (L + 10 + 2)) j) (nI j) = _
    rw [s_X9_imbalance_L25, if_neg (show ¬ (6 : Int32) ≤ nI j from nI_ge hj (by decide)), show (110 : Int32) = nI 110 from rfl, nI_add, gd_in (by omega) (by omega), cl_nI (by omega), lx_s, h.yarn hj, nI_1]
    rw [show ysum (I (L + 10 + 2)) (j + 1) = ysum (I (L + 10 + 2)) j + atF (I (L + 10 + 2)) 6 (nI j) from rfl, atF_nI (by omega) (by omega), Int32.add_assoc]
end READ3
