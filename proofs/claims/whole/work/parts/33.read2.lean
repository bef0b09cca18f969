/-! the reference's counting and searching loops -/
section READ2
variable {I J : JI} {L m H W C P R : Nat}
theorem exC_m1 {c : Nat} (hc : c < 2 ^ 31) : exC (nI c) (-1) (-1) = nI c := by
  have e : ¬ nI c = -1 := fun e => nI_pos hc (by rw [e]; decide)
  unfold exC
  rw [if_neg e, if_neg e]
theorem e_isWrongRow (h : KR I L (L + 10) (J (m + 1)) H W C P R) {r : Nat} (hr : r < R) : s_X9_isWrongRow J m (nI r) = some (dfD I L (nI r)) := by
  obtain ⟨-, b1, b2, b3, -⟩ := h.g
  obtain ⟨c, k1, k2, -⟩ := cfr_pick h hr
  have e : exC (x0_cfr I (L + 5) (nI r)) (-1) (-1) = x0_cfr I (L + 5) (nI r) := by rw [k2, exC_m1 (by omega)]
  unfold s_X9_isWrongRow
  rw [e_asE h hr ⟨c, k1, by rw [e, k2]⟩, bd_some, e]
  unfold dfD
  cases eqD I L (nI r) (x0_cfr I (L + 5) (nI r)) <;> rfl
theorem cwF_cnt {I : JI} {L : Nat} : ∀ n, cwF I L n = nI (cntB (fun j => dfD I L (nI j)) n) := by
  intro n
  induction n with
  | zero => rfl
  | succ n ih =>
    rw [← nI_cnt, ← ih]
    show (if dfD I L (nI n) = true then cwF I L n + 1 else cwF I L n) = _
    cases dfD I L (nI n)
    · exact (Int32.add_zero _).symm
    · rfl
theorem l_wrongs (h : KR I L (L + 10) (J (m + 1)) H W C P R) {j : Nat} (hj0 : 0 ≤ j) (hjN : j ≤ R) : s_X9_wrongs_L4 J m lf (cwF I L j) (nI j) = some (cwF I L R, nI R) := by
  obtain ⟨⟨g0, g2, g3, g4, g5⟩, b1, b2, b3, b4, b5, b6⟩ := h.g
  obtain ⟨c0, c4, c7, c3, cs⟩ := h.c
  refine loopA (fun f a i => s_X9_wrongs_L4 J m f a i) (fun j => cwF I L j) _ 0 R (fun f => ?_) (fun f j hj1 hj => ?_) lf j hj0 hjN (by unfold lf; omega)
  · show s_X9_wrongs_L4 J m (f + 1) (cwF I L R) (nI R) = _
    rw [s_X9_wrongs_L4, gl5, cl5, g5, if_pos (Int32.le_refl _)]
  · show s_X9_wrongs_L4 J m (f + 1) (cwF I L j) (nI j) = _
    rw [s_X9_wrongs_L4, gl5, cl5, g5, if_neg (nI_ge hj (by omega)), e_isWrongRow h hj, bd_some, lx_s, one_zb, nI_1]
    rw [cwF_cnt, cwF_cnt, nI_cnt]
theorem e_wrongs (h : KR I L (L + 10) (J (m + 1)) H W C P R) : s_X9_wrongs J m = some (cwF I L R) := by
  unfold s_X9_wrongs
  rw [show s_X9_wrongs_L4 J m lf 0 0 = some (cwF I L R, nI R) from l_wrongs h (j := 0) (Nat.le_refl 0) (Nat.zero_le R)]
  rfl
theorem fwF_find {I : JI} {L : Nat} : ∀ n j, fwF I L n j = (match findF (fun r => dfD I L (nI r)) n j with | some k => nI k | none => -1) := by
  intro n
  induction n with
  | zero => intro j; rfl
  | succ n ih =>
    intro j
    unfold fwF findF
    by_cases q : dfD I L (nI j) = true
    · rw [if_pos q, if_pos q]
    · rw [if_neg q, if_neg q, ih]
theorem l_firstWrong (h : KR I L (L + 10) (J (m + 1)) H W C P R) {j : Nat} (hj0 : 0 ≤ j) (hjN : j ≤ R) : s_X9_firstWrongRow_L11 J m lf (nI j) = some (sumF (fun r => (nI r, J)) (nI R) (findF (fun r => dfD I L (nI r)) (R - j) j)) := by
  obtain ⟨⟨g0, g2, g3, g4, g5⟩, b1, b2, b3, b4, b5, b6⟩ := h.g
  obtain ⟨c0, c4, c7, c3, cs⟩ := h.c
  refine loopS (fun f i => s_X9_firstWrongRow_L11 J m f i) (fun r => dfD I L (nI r)) (fun r => (nI r, J)) (nI R) 0 (R) (fun f => ?_) (fun f j hj1 hj => ?_) lf j hj0 hjN (by unfold lf; omega)
  · show s_X9_firstWrongRow_L11 J m (f + 1) (nI (R)) = _
    rw [s_X9_firstWrongRow_L11, gl5, cl5, g5, if_pos (Int32.le_refl _)]
  · show s_X9_firstWrongRow_L11 J m (f + 1) (nI j) = _
    rw [s_X9_firstWrongRow_L11, gl5, cl5, g5, if_neg (nI_ge hj (by omega)), e_isWrongRow h hj, bd_some, nI_1]
theorem exF_find {I : JI} {L : Nat} {a b : Int32} : ∀ n j, exF I L a b n j = (findF (fun r => !eqD I L (nI r) (exC (x0_cfr I (L + 5) (nI r)) a b)) n j).isNone := by
  intro n
  induction n with
  | zero => intro j; rfl
  | succ n ih =>
    intro j
    unfold exF findF
    by_cases q : eqD I L (nI j) (exC (x0_cfr I (L + 5) (nI j)) a b) = true
    · rw [if_pos q, if_neg (by rw [q]; decide), ih]
    · rw [if_neg q, if_pos (by simpa using q)]; rfl
theorem exC_lt {C a b c : Nat} (ha : a < C) (hb : b < C) (hc : c < C) : ∃ k, k < C ∧ exC (nI c) (nI a) (nI b) = nI k := by
  unfold exC
  split
  · exact ⟨b, hb, rfl⟩
  · split
    · exact ⟨a, ha, rfl⟩
    · exact ⟨c, hc, rfl⟩
theorem l_explains (h : KR I L (L + 10) (J (m + 1)) H W C P R) {a b : Nat} (ha : a < C) (hb : b < C) {j : Nat} (hj0 : 0 ≤ j) (hjN : j ≤ R) : s_X9_explains_L2 J m (nI a) (nI b) lf (nI j) = some (sumF (fun _ => false) (nI R) (findF (fun r => !eqD I L (nI r) (exC (x0_cfr I (L + 5) (nI r)) (nI a) (nI b))) (R - j) j)) := by
  obtain ⟨⟨g0, g2, g3, g4, g5⟩, b1, b2, b3, b4, b5, b6⟩ := h.g
  obtain ⟨c0, c4, c7, c3, cs⟩ := h.c
  refine loopS (fun f i => s_X9_explains_L2 J m (nI a) (nI b) f i) (fun r => !eqD I L (nI r) (exC (x0_cfr I (L + 5) (nI r)) (nI a) (nI b))) (fun _ => false) (nI R) 0 (R) (fun f => ?_) (fun f j hj1 hj => ?_) lf j hj0 hjN (by unfold lf; omega)
  · show s_X9_explains_L2 J m (nI a) (nI b) (f + 1) (nI (R)) = _
    rw [s_X9_explains_L2, gl5, cl5, g5, if_pos (Int32.le_refl _)]
  · show s_X9_explains_L2 J m (nI a) (nI b) (f + 1) (nI j) = _
    obtain ⟨c, k1, k2, -⟩ := cfr_pick h hj
    rw [s_X9_explains_L2, gl5, cl5, g5, if_neg (nI_ge hj (by omega)), e_asE h hj (by rw [k2]; exact exC_lt ha hb k1), bd_some, nI_1]
    cases eqD I L (nI j) (exC (x0_cfr I (L + 5) (nI j)) (nI a) (nI b)) <;> rfl
theorem e_explains (h : KR I L (L + 10) (J (m + 1)) H W C P R) {a b : Nat} (ha : a < C) (hb : b < C) : s_X9_explains J m (nI a) (nI b) = some (exB I L (nI a) (nI b)) := by
  obtain ⟨-, b1, b2, b3, b4, b5, b6⟩ := h.g
  obtain ⟨c0, c4, c7, c3, cs⟩ := h.c
  unfold s_X9_explains exB
  rw [show s_X9_explains_L2 J m (nI a) (nI b) lf 0 = _ from l_explains h ha hb (j := 0) (Nat.le_refl 0) (Nat.zero_le R), cs, cl_nI (by omega), exF_find, Nat.sub_zero]
  cases findF (fun r => !eqD I L (nI r) (exC (x0_cfr I (L + 5) (nI r)) (nI a) (nI b))) R 0 <;> rfl
theorem spI_find {I : JI} {L a : Nat} : ∀ n j, spI I L a n j = (findF (fun b => exB I L (nI a) (nI b)) n j).map (fun b => nI a * 12 + nI b) := by
  intro n
  induction n with
  | zero => intro j; rfl
  | succ n ih =>
    intro j
    unfold spI findF
    by_cases q : exB I L (nI a) (nI j) = true
    · rw [if_pos q, if_pos q]; rfl
    · rw [if_neg q, if_neg q, ih]
theorem l_susp1 (h : KR I L (L + 10) (J (m + 1)) H W C P R) {a : Nat} (ha : a < C) {j : Nat} (hj0 : 0 ≤ j) (hjN : j ≤ C) : s_X9_suspicion_L25 J m (nI a) lf (nI j) = some (sumF (fun b => nI a * 12 + nI b) (nI C) (findF (fun b => exB I L (nI a) (nI b)) (C - j) j)) := by
  obtain ⟨⟨g0, g2, g3, g4, g5⟩, b1, b2, b3, b4, b5, b6⟩ := h.g
  obtain ⟨c0, c4, c7, c3, cs⟩ := h.c
  refine loopS (fun f i => s_X9_suspicion_L25 J m (nI a) f i) (fun b => exB I L (nI a) (nI b)) (fun b => nI a * 12 + nI b) (nI C) 0 (C) (fun f => ?_) (fun f j hj1 hj => ?_) lf j hj0 hjN (by unfold lf; omega)
  · show s_X9_suspicion_L25 J m (nI a) (f + 1) (nI (C)) = _
    rw [s_X9_suspicion_L25, gl3, cl3, g3, if_pos (Int32.le_refl _)]
  · show s_X9_suspicion_L25 J m (nI a) (f + 1) (nI j) = _
    rw [s_X9_suspicion_L25, gl3, cl3, g3, if_neg (nI_ge hj (by omega)), e_explains h ha hj, bd_some, nI_1]
theorem l_susp2 (h : KR I L (L + 10) (J (m + 1)) H W C P R) {j : Nat} (hj0 : 0 ≤ j) (hjN : j ≤ C) : s_X9_suspicion_L11 J m lf (nI j) = some (sumF (fun a => nI a * 12 + nI ((findF (fun b => exB I L (nI a) (nI b)) (C - (a + 1)) (a + 1)).getD 0)) (nI C) (findF (fun a => (findF (fun b => exB I L (nI a) (nI b)) (C - (a + 1)) (a + 1)).isSome) (C - j) j)) := by
  obtain ⟨⟨g0, g2, g3, g4, g5⟩, b1, b2, b3, b4, b5, b6⟩ := h.g
  obtain ⟨c0, c4, c7, c3, cs⟩ := h.c
  refine loopS (fun f i => s_X9_suspicion_L11 J m f i) (fun a => (findF (fun b => exB I L (nI a) (nI b)) (C - (a + 1)) (a + 1)).isSome) (fun a => nI a * 12 + nI ((findF (fun b => exB I L (nI a) (nI b)) (C - (a + 1)) (a + 1)).getD 0)) (nI C) 0 (C) (fun f => ?_) (fun f j hj1 hj => ?_) lf j hj0 hjN (by unfold lf; omega)
  · show s_X9_suspicion_L11 J m (f + 1) (nI (C)) = _
    rw [s_X9_suspicion_L11, gl3, cl3, g3, if_pos (Int32.le_refl _)]
  · show s_X9_suspicion_L11 J m (f + 1) (nI j) = _
    rw [s_X9_suspicion_L11, gl3, cl3, g3, if_neg (nI_ge hj (by omega)), nI_1, l_susp1 h hj (j := j + 1) (by omega) (by omega)]
    cases findF (fun b => exB I L (nI j) (nI b)) (C - (j + 1)) (j + 1) <;> rfl
theorem spO_find {I : JI} {L C : Nat} (hC : (I L 7).toNatClampNeg = C) : ∀ n j, spO I L n j = (match findF (fun a => (findF (fun b => exB I L (nI a) (nI b)) (C - (a + 1)) (a + 1)).isSome) n j with | some a => nI a * 12 + nI ((findF (fun b => exB I L (nI a) (nI b)) (C - (a + 1)) (a + 1)).getD 0) | none => -1) := by
  intro n
  induction n with
  | zero => intro j; rfl
  | succ n ih =>
    intro j
    unfold spO
    rw [findF_s, hC, spI_find, ih]
    cases q : findF (fun b => exB I L (nI j) (nI b)) (C - (j + 1)) (j + 1) with
    | none => rfl
    | some k => simp [q]
theorem e_suspicion (h : KR I L (L + 10) (J (m + 1)) H W C P R) : s_X9_suspicion J m = some (x3_pair I L) := by
  obtain ⟨-, b1, b2, b3, b4, b5, b6⟩ := h.g
  obtain ⟨c0, c4, c7, c3, cs⟩ := h.c
  have hle := cntB_le (fun j => dfD I L (nI j)) R
  unfold s_X9_suspicion x3_pair
  rw [e_wrongs h, bd_some, cwF_cnt, cs, c7, cl_nI (by omega), cl_nI (by omega), fwF_find]
  cases q : findF (fun r => dfD I L (nI r)) R 0 with
  | none =>
    have e0 : cntB (fun j => dfD I L (nI j)) R = 0 := cntB_false fun k hk => findF_none R 0 q k (Nat.zero_le k) (by omega)
    rw [e0, if_pos nI_z]
    rfl
  | some k =>
    obtain ⟨-, q2, q3⟩ := findF_some R 0 k q
    have e0 : 0 < cntB (fun j => dfD I L (nI j)) R := by
      apply Nat.pos_of_ne_zero
      intro e
      have hz : ∀ n, cntB (fun j => dfD I L (nI j)) n = 0 → ∀ k, k < n → dfD I L (nI k) = false := by
        intro n
        induction n with
        | zero => intro _ k hk; omega
        | succ n ih =>
          intro e k hk
          have e' : cntB (fun j => dfD I L (nI j)) n + (if dfD I L (nI n) = true then 1 else 0) = 0 := e
          by_cases q4 : dfD I L (nI n) = true
          · rw [if_pos q4] at e'; omega
          · by_cases q5 : k = n
            · subst q5; simpa using q4
            · exact ih (by omega) k (by omega)
      rw [hz R e k (by omega)] at q3
      cases q3
    have e1 : ¬ nI k = -1 := fun e => nI_pos (n := k) (by omega) (by rw [e]; decide)
    rw [if_neg (nI_ne0 e0 (by omega))]
    dsimp only
    rw [if_neg e1, show s_X9_suspicion_L11 J m lf 0 = _ from l_susp2 h (j := 0) (Nat.le_refl 0) (Nat.zero_le C), Nat.sub_zero, spO_find (C := C) (by rw [c7, cl_nI (by omega)])]
    cases findF (fun a => (findF (fun b => exB I L (nI a) (nI b)) (C - (a + 1)) (a + 1)).isSome) C 0 <;> rfl
theorem e_countOf (x : Int32) : s_X9_countOf x = some (nI (cntB (bt x) 8)) := by
  unfold s_X9_countOf
  have := loopA (fun f a i => s_X9_countOf_L4 x f a i) (fun j => nI (cntB (bt x) j)) (nI (cntB (bt x) 8), nI 8) 0 8 (fun f => ?_) (fun f j _ hj => ?_) lf 0 (Nat.le_refl 0) (by omega) (by unfold lf; omega)
  · rw [show s_X9_countOf_L4 x lf 0 0 = some (nI (cntB (bt x) 8), nI 8) from this]; rfl
  · show s_X9_countOf_L4 x (f + 1) (nI (cntB (bt x) 8)) (nI 8) = _
    rw [s_X9_countOf_L4, if_pos (by decide)]
  · show s_X9_countOf_L4 x (f + 1) (nI (cntB (bt x) j)) (nI j) = _
    rw [s_X9_countOf_L4, if_neg (show ¬ (8 : Int32) ≤ nI j from nI_ge hj (by decide)), lx_s, mhas_bt (by omega), one_zb, nI_cnt, nI_1]
theorem countOf_bc {x : Int32} (hx : LB 8 x) : s_X9_countOf x = some (bcF x) := by rw [e_countOf, bcF_LB hx (by omega)]
def uF (f : Nat → Int32) (a b : Int32) (j : Nat) : Int32 := if a = b then cpF f a j else cpF f a j + cpF f b j
theorem uF_step (f : Nat → Int32) (a b : Int32) (j : Nat) (hj : j < 400) : uF f a b (j + 1) = uF f a b j + zb (decide (f j = a) || decide (f j = b)) := by
  unfold uF
  rw [show cpF f a (j + 1) = if atF f 400 (nI j) = a then cpF f a j + 1 else cpF f a j from rfl, show cpF f b (j + 1) = if atF f 400 (nI j) = b then cpF f b j + 1 else cpF f b j from rfl, atF_nI hj (by omega)]
  by_cases qab : a = b
  · subst qab
    rw [if_pos rfl, if_pos rfl]
    by_cases q : f j = a
    · rw [if_pos q, decide_eq_true q]; rfl
    · rw [if_neg q, decide_eq_false q]; exact (Int32.add_zero _).symm
  · rw [if_neg qab, if_neg qab]
    by_cases q : f j = a
    · have q2 : ¬ f j = b := fun e => qab (q.symm.trans e)
      rw [if_pos q, if_neg q2, decide_eq_true q, decide_eq_false q2]
      show cpF f a j + 1 + cpF f b j = cpF f a j + cpF f b j + 1
      rw [Int32.add_assoc, Int32.add_assoc, Int32.add_comm 1]
    · rw [if_neg q, decide_eq_false q]
      by_cases q2 : f j = b
      · rw [if_pos q2, decide_eq_true q2]
        show cpF f a j + (cpF f b j + 1) = cpF f a j + cpF f b j + 1
        rw [Int32.add_assoc]
      · rw [if_neg q2, decide_eq_false q2]
        exact (Int32.add_zero _).symm
theorem l_usesOf (h : KR I L (L + 10) (J (m + 1)) H W C P R) {x y : Int32} {j : Nat} (hj0 : 0 ≤ j) (hjN : j ≤ P) : s_X9_usesOf_L5 J m x y lf (uF (I (L + 5 + 2)) x y j) (nI j) = some (uF (I (L + 5 + 2)) x y P, nI P) := by
  obtain ⟨⟨g0, g2, g3, g4, g5⟩, b1, b2, b3, b4, b5, b6⟩ := h.g
  obtain ⟨c0, c4, c7, c3, cs⟩ := h.c
  refine loopA (fun f a i => s_X9_usesOf_L5 J m x y f a i) (fun j => uF (I (L + 5 + 2)) x y j) _ 0 P (fun f => ?_) (fun f j hj1 hj => ?_) lf j hj0 hjN (by unfold lf; omega)
  · show s_X9_usesOf_L5 J m x y (f + 1) (uF (I (L + 5 + 2)) x y P) (nI P) = _
    rw [s_X9_usesOf_L5, gl4, cl4, g4, if_pos (Int32.le_refl _)]
  · show s_X9_usesOf_L5 J m x y (f + 1) (uF (I (L + 5 + 2)) x y j) (nI j) = _
    obtain ⟨c, k1, k2, k3⟩ := h.pick hj
    rw [s_X9_usesOf_L5, gl4, cl4, g4, if_neg (nI_ge hj (by omega)), show (164 : Int32) = nI 164 from rfl, nI_add, gd_in (by omega) (by omega), gd_in (by omega) (by omega), cl_nI (by omega), k3, nI_1, uF_step _ _ _ _ (by omega), k2]
    simp only [lx_s, one_zb]
    by_cases q : nI c = x
    · rw [if_pos q, decide_eq_true q]; rfl
    · rw [if_neg q, decide_eq_false q]
      by_cases q2 : nI c = y
      · rw [if_pos q2, decide_eq_true q2]; rfl
      · rw [if_neg q2, decide_eq_false q2]; rfl
theorem e_usesOf (h : KR I L (L + 10) (J (m + 1)) H W C P R) {x y : Int32} : s_X9_usesOf J m x y = some (uF (I (L + 5 + 2)) x y P) := by
  unfold s_X9_usesOf
  have := l_usesOf h (x := x) (y := y) (j := 0) (Nat.le_refl 0) (Nat.zero_le P)
  have e : uF (I (L + 5 + 2)) x y 0 = 0 := by
    unfold uF
    split <;> rfl
  rw [e] at this
  rw [show s_X9_usesOf_L5 J m x y lf 0 0 = _ from this]
  rfl
theorem raF_find {f : Nat → Int32} {p : Nat} : ∀ n j, j + n ≤ 400 → p ≤ j → raF f (nI p) n j = (findF (fun k => !decide (f k = f (k - p))) n j).isNone := by
  intro n
  induction n with
  | zero => intro j _ _; rfl
  | succ n ih =>
    intro j hj hp
    unfold raF findF
    rw [atF_nI (by omega) (by omega), nI_sub hp, atF_nI (by omega) (by omega)]
    by_cases q : f j = f (j - p)
    · rw [if_pos q, if_neg (by simp [q]), ih _ (by omega) (by omega)]
    · rw [if_neg q, if_pos (by simp [q])]; rfl
theorem l_isPeriod (h : KR I L (L + 10) (J (m + 1)) H W C P R) {p : Nat} (hp : 0 < p) {j : Nat} (hj0 : p ≤ j) (hjN : j ≤ P) : s_X9_isPeriod_L2 J m (nI p) lf (nI j) = some (sumF (fun _ => false) (nI P) (findF (fun k => !decide (I (L + 5 + 2) k = I (L + 5 + 2) (k - p))) (P - j) j)) := by
  obtain ⟨⟨g0, g2, g3, g4, g5⟩, b1, b2, b3, b4, b5, b6⟩ := h.g
  obtain ⟨c0, c4, c7, c3, cs⟩ := h.c
  refine loopS (fun f i => s_X9_isPeriod_L2 J m (nI p) f i) (fun k => !decide (I (L + 5 + 2) k = I (L + 5 + 2) (k - p))) (fun _ => false) (nI P) p (P) (fun f => ?_) (fun f j hj1 hj => ?_) lf j hj0 hjN (by unfold lf; omega)
  · show s_X9_isPeriod_L2 J m (nI p) (f + 1) (nI (P)) = _
    rw [s_X9_isPeriod_L2, gl4, cl4, g4, if_pos (Int32.le_refl _)]
  · show s_X9_isPeriod_L2 J m (nI p) (f + 1) (nI j) = _
    obtain ⟨c, k1, k2, k3⟩ := h.pick hj
    obtain ⟨c', k1', k2', k3'⟩ := h.pick (k := j - p) (by omega)
    rw [s_X9_isPeriod_L2, gl4, cl4, g4, if_neg (nI_ge hj (by omega)), show (164 : Int32) = nI 164 from rfl, nI_add, nI_sub (by omega), gd_in (by omega) (by omega), gd_in (by omega) (by omega), cl_nI (by omega), cl_nI (by omega), k3, show 164 + j - p = 164 + (j - p) by omega, k3', k2, k2', nI_1]
    by_cases q : nI c = nI c'
    · rw [if_pos q, decide_eq_true q]; rfl
    · rw [if_neg q, decide_eq_false q]; rfl
theorem e_isPeriod (h : KR I L (L + 10) (J (m + 1)) H W C P R) {p : Nat} (hp : 0 < p) (hpP : p ≤ P) : s_X9_isPeriod J m (nI p) = some (decide (P % p = 0) && raF (I (L + 5 + 2)) (nI p) (P - p) p) := by
  obtain ⟨⟨g0, g2, g3, g4, g5⟩, b1, b2, b3, b4, b5, b6⟩ := h.g
  unfold s_X9_isPeriod
  rw [l_isPeriod h hp (Nat.le_refl p) hpP, raF_find _ _ (by omega) (Nat.le_refl p)]
  cases findF (fun k => !decide (I (L + 5 + 2) k = I (L + 5 + 2) (k - p))) (P - p) p with
  | some k => rw [show (some k).isNone = false from rfl, Bool.and_false]; rfl
  | none =>
    show gd (vp_in 4 2030) _ = _
    rw [gl4, cl4, g4, gd_i (nI_ne0 hp (by omega)), nI_modt (by omega) hp (by omega), show (none : Option Nat).isNone = true from rfl, Bool.and_true]
    by_cases q : P % p = 0
    · rw [q, if_pos nI_z, decide_eq_true rfl]
    · rw [if_neg (nI_ne0 (by omega) (by have := Nat.mod_lt P hp; omega)), decide_eq_false q]
theorem lpF_find {f : Nat → Int32} {P : Nat} (hP : P ≤ 100) : ∀ n j, lpF f (nI P) n j = (match findF (fun p => decide (P % p = 0) && raF f (nI p) (P - p) p) n (j + 1) with | some p => nI p | none => 0) ∨ ¬ j + n ≤ 100 := by
  intro n
  induction n with
  | zero => intro j; exact Or.inl rfl
  | succ n ih =>
    intro j
    by_cases hj : j + (n + 1) ≤ 100
    · refine Or.inl ?_
      unfold lpF findF
      rw [cl_nI (by omega), nI_modt (by omega) (by omega) (by omega)]
      have e : (nI (P % (j + 1)) = 0 ∧ raF f (nI (j + 1)) (P - (j + 1)) (j + 1) = true) ↔ (decide (P % (j + 1) = 0) && raF f (nI (j + 1)) (P - (j + 1)) (j + 1)) = true := by
        rw [Bool.and_eq_true, decide_eq_true_iff]
        have : nI (P % (j + 1)) = 0 ↔ P % (j + 1) = 0 := nI_eqL (n := 0) (by have := Nat.mod_lt P (show 0 < j + 1 by omega); omega) (by omega)
        rw [this]
      by_cases q : (decide (P % (j + 1) = 0) && raF f (nI (j + 1)) (P - (j + 1)) (j + 1)) = true
      · rw [if_pos (e.mpr q), if_pos q]
      · rw [if_neg (fun z => q (e.mp z)), if_neg q]
        rcases ih (j + 1) with e2 | e2
        · exact e2
        · omega
    · exact Or.inr hj
theorem l_deckPeriod (h : KR I L (L + 10) (J (m + 1)) H W C P R) {j : Nat} (hj0 : 1 ≤ j) (hjN : j ≤ P + 1) : s_X9_deckPeriod_L11 J m lf (nI j) = some (sumF (fun p => (nI p, J)) (nI (P + 1)) (findF (fun p => decide (P % p = 0) && raF (I (L + 5 + 2)) (nI p) (P - p) p) (P + 1 - j) j)) := by
  obtain ⟨⟨g0, g2, g3, g4, g5⟩, b1, b2, b3, b4, b5, b6⟩ := h.g
  obtain ⟨c0, c4, c7, c3, cs⟩ := h.c
  refine loopS (fun f i => s_X9_deckPeriod_L11 J m f i) (fun p => decide (P % p = 0) && raF (I (L + 5 + 2)) (nI p) (P - p) p) (fun p => (nI p, J)) (nI (P + 1)) 1 (P + 1) (fun f => ?_) (fun f j hj1 hj => ?_) lf j hj0 hjN (by unfold lf; omega)
  · show s_X9_deckPeriod_L11 J m (f + 1) (nI (P + 1)) = _
    rw [s_X9_deckPeriod_L11, gl4, cl4, g4, if_pos (nI_lt (by omega) (by omega))]
  · show s_X9_deckPeriod_L11 J m (f + 1) (nI j) = _
    rw [s_X9_deckPeriod_L11, gl4, cl4, g4, if_neg (nI_nlt (by omega) (by omega)), e_isPeriod h (by omega) (by omega), bd_some, nI_1]
theorem paF_find {f : Nat → Int32} {P : Nat} (hP : P ≤ 100) : ∀ n j, j + n ≤ P → paF f (nI P) n j = (findF (fun k => !decide (f k = f (P - 1 - k))) n j).isNone := by
  intro n
  induction n with
  | zero => intro j _; rfl
  | succ n ih =>
    intro j hj
    unfold paF findF
    rw [atF_nI (by omega) (by omega), show (1 : Int32) = nI 1 from rfl, nI_sub (by omega), nI_sub (by omega), atF_nI (by omega) (by omega)]
    by_cases q : f j = f (P - 1 - j)
    · rw [if_pos q, if_neg (by simp [q]), ih _ (by omega)]
    · rw [if_neg q, if_pos (by simp [q])]; rfl
theorem l_isPal (h : KR I L (L + 10) (J (m + 1)) H W C P R) {j : Nat} (hj0 : 0 ≤ j) (hjN : j ≤ P) : s_X9_isPalindrome_L11 J m lf (nI j) = some (sumF (fun _ => (false, J)) (nI P) (findF (fun k => !decide (I (L + 5 + 2) k = I (L + 5 + 2) (P - 1 - k))) (P - j) j)) := by
  obtain ⟨⟨g0, g2, g3, g4, g5⟩, b1, b2, b3, b4, b5, b6⟩ := h.g
  obtain ⟨c0, c4, c7, c3, cs⟩ := h.c
  refine loopS (fun f i => s_X9_isPalindrome_L11 J m f i) (fun k => !decide (I (L + 5 + 2) k = I (L + 5 + 2) (P - 1 - k))) (fun _ => (false, J)) (nI P) 0 (P) (fun f => ?_) (fun f j hj1 hj => ?_) lf j hj0 hjN (by unfold lf; omega)
  · show s_X9_isPalindrome_L11 J m (f + 1) (nI (P)) = _
    rw [s_X9_isPalindrome_L11, gl4, cl4, g4, if_pos (Int32.le_refl _)]
  · show s_X9_isPalindrome_L11 J m (f + 1) (nI j) = _
    obtain ⟨c, k1, k2, k3⟩ := h.pick hj
    obtain ⟨c', k1', k2', k3'⟩ := h.pick (k := P - 1 - j) (by omega)
    rw [s_X9_isPalindrome_L11, gl4, cl4, g4, if_neg (nI_ge hj (by omega)), show (164 : Int32) = nI 164 from rfl, show (1 : Int32) = nI 1 from rfl, nI_add, nI_add, nI_sub (by omega), nI_sub (by omega), gd_in (by omega) (by omega), gl4, gd_in (by omega) (by omega), cl_nI (by omega), cl_nI (by omega), k3, show 164 + P - 1 - j = 164 + (P - 1 - j) by omega, k3', k2, k2', nI_add]
    by_cases q : nI c = nI c'
    · rw [if_pos q, decide_eq_true q]; rfl
    · rw [if_neg q, decide_eq_false q]; rfl
end READ2
