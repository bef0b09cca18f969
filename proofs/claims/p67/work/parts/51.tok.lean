/-! tokens of a text -/
def scan (q : Nat → Bool) : Nat → Nat → Nat
  | 0, x => x
  | d + 1, x => if q x = true then scan q d (x + 1) else x
theorem scan_b {q : Nat → Bool} : ∀ d x, x ≤ scan q d x ∧ scan q d x ≤ x + d ∧ (scan q d x < x + d → q (scan q d x) = false) ∧ (∀ i, x ≤ i → i < scan q d x → q i = true) := by
  intro d
  induction d with
  | zero => intro x; exact ⟨Nat.le_refl x, Nat.le_refl x, fun h => absurd h (Nat.lt_irrefl x), fun i h1 h2 => absurd (Nat.lt_of_le_of_lt h1 h2) (Nat.lt_irrefl x)⟩
  | succ d ih =>
    intro x
    unfold scan
    by_cases h : q x = true
    · rw [if_pos h]
      obtain ⟨h1, h2, h3, h4⟩ := ih (x + 1)
      refine ⟨by omega, by omega, fun hl => h3 (by omega), fun i i1 i2 => ?_⟩
      by_cases e : i = x
      · subst e; exact h
      · exact h4 i (by omega) i2
    · rw [if_neg h]
      exact ⟨Nat.le_refl x, by omega, fun _ => by simpa using h, fun i i1 i2 => by omega⟩
theorem scan_congr {q r : Nat → Bool} : ∀ d x, (∀ i, x ≤ i → i < x + d → q i = r i) → scan q d x = scan r d x := by
  intro d
  induction d with
  | zero => intro x _; rfl
  | succ d ih =>
    intro x h
    unfold scan
    rw [h x (by omega) (by omega), ih (x + 1) fun i i1 i2 => h i (by omega) (by omega)]
/-- the value of digits -/
def nv (g : Nat → Int32) : Nat → Nat → Int32 → Int32
  | 0, _, v => v
  | n + 1, x, v => nv g n (x + 1) (v * 10 + g x - 48)
section TOKC
variable {I : JI} {a N : Nat}
theorem t_sp (hN : N ≤ 500) : ∀ (d f x : Nat) (I : JI), I a 2 = nI N → I a 3 = nI x → x + d = N → d < f → s_X2_advance_L0 a f I = some (stI I a 3 (nI (scan (fun i => decide (I (a + 1) i = 32)) d x))) := by
  intro d
  induction d with
  | zero =>
    intro f x I h2 h3 hx hf
    obtain ⟨f, rfl⟩ : ∃ g, f = g + 1 := ⟨f - 1, by omega⟩
    have : x = N := by omega
    subst this
    rw [s_X2_advance_L0, h2, h3, if_pos (Int32.le_refl _)]
    show some I = some (stI I a 3 (nI x))
    rw [← h3, stI_id]
  | succ d ih =>
    intro f x I h2 h3 hx hf
    obtain ⟨f, rfl⟩ : ∃ g, f = g + 1 := ⟨f - 1, by omega⟩
    rw [s_X2_advance_L0, h2, h3, if_neg (nI_ge (by omega) (by omega)), atF_nI (by omega) (by omega)]
    unfold scan
    by_cases q : I (a + 1) x = 32
    · rw [if_pos q, if_pos (decide_eq_true q), lx_s, nI_1, ih f (x + 1) _ (by rw [stI_aj (by decide)]; exact h2) stI_at (by omega) (by omega), stI_same, stI_ne (show a + 1 ≠ a by omega)]
    · rw [if_neg q, if_neg (by simp [q]), ← h3, stI_id]
theorem t_wd (hN : N ≤ 500) : ∀ (d f x : Nat) (I : JI), I a 2 = nI N → I a 3 = nI x → x + d = N → d < f → s_X2_readWord_L0 a f I = some (stI I a 3 (nI (scan (fun i => s_X2_isLetter (I (a + 1) i)) d x))) := by
  intro d
  induction d with
  | zero =>
    intro f x I h2 h3 hx hf
    obtain ⟨f, rfl⟩ : ∃ g, f = g + 1 := ⟨f - 1, by omega⟩
    have : x = N := by omega
    subst this
    rw [s_X2_readWord_L0, h2, h3, if_pos (Int32.le_refl _)]
    show some I = some (stI I a 3 (nI x))
    rw [← h3, stI_id]
  | succ d ih =>
    intro f x I h2 h3 hx hf
    obtain ⟨f, rfl⟩ : ∃ g, f = g + 1 := ⟨f - 1, by omega⟩
    rw [s_X2_readWord_L0, h2, h3, if_neg (nI_ge (by omega) (by omega)), atF_nI (by omega) (by omega)]
    unfold scan
    by_cases q : s_X2_isLetter (I (a + 1) x) = true
    · rw [if_pos q, if_pos q, lx_s, nI_1, ih f (x + 1) _ (by rw [stI_aj (by decide)]; exact h2) stI_at (by omega) (by omega), stI_same, stI_ne (show a + 1 ≠ a by omega)]
    · rw [if_neg q, if_neg q, ← h3, stI_id]
theorem t_nb (hN : N ≤ 500) : ∀ (d f x : Nat) (I : JI), I a 2 = nI N → I a 3 = nI x → x + d = N → d < f → s_X2_readNumber_L5 a f I = some (stI (stI I a 6 (nv (I (a + 1)) (scan (fun i => s_X2_isDigit (I (a + 1) i)) d x - x) x (I a 6))) a 3 (nI (scan (fun i => s_X2_isDigit (I (a + 1) i)) d x))) := by
  intro d
  induction d with
  | zero =>
    intro f x I h2 h3 hx hf
    obtain ⟨f, rfl⟩ : ∃ g, f = g + 1 := ⟨f - 1, by omega⟩
    have : x = N := by omega
    subst this
    rw [s_X2_readNumber_L5, h2, h3, if_pos (Int32.le_refl _)]
    show some I = some (stI (stI I a 6 (nv (I (a + 1)) (x - x) x (I a 6))) a 3 (nI x))
    rw [Nat.sub_self]
    show some I = some (stI (stI I a 6 (I a 6)) a 3 (nI x))
    rw [stI_id, ← h3, stI_id]
  | succ d ih =>
    intro f x I h2 h3 hx hf
    obtain ⟨f, rfl⟩ : ∃ g, f = g + 1 := ⟨f - 1, by omega⟩
    rw [s_X2_readNumber_L5, h2, h3, if_neg (nI_ge (by omega) (by omega)), atF_nI (by omega) (by omega)]
    have es : scan (fun i => s_X2_isDigit (I (a + 1) i)) (d + 1) x = if s_X2_isDigit (I (a + 1) x) = true then scan (fun i => s_X2_isDigit (I (a + 1) i)) d (x + 1) else x := rfl
    rw [es]
    by_cases q : s_X2_isDigit (I (a + 1) x) = true
    · rw [if_pos q, if_pos q, lx_s, lx_s, stI_aj (show 3 ≠ 6 by decide), h3, nI_1, ih f (x + 1) _ (by rw [stI_aj (by decide), stI_aj (by decide)]; exact h2) stI_at (by omega) (by omega), stI_ne (show a + 1 ≠ a by omega), stI_ne (show a + 1 ≠ a by omega), stI_aj (show 6 ≠ 3 by decide), stI_at]
      obtain ⟨b1, b2, -, -⟩ := @scan_b (fun i => s_X2_isDigit (I (a + 1) i)) d (x + 1)
      rw [stI_comm (show a ≠ a ∨ 3 ≠ 6 by omega), stI_same, stI_same]
      congr 2
      obtain ⟨k, hk⟩ : ∃ k, scan (fun i => s_X2_isDigit (I (a + 1) i)) d (x + 1) - x = k + 1 := ⟨scan (fun i => s_X2_isDigit (I (a + 1) i)) d (x + 1) - x - 1, by omega⟩
      rw [hk, show scan (fun i => s_X2_isDigit (I (a + 1) i)) d (x + 1) - (x + 1) = k by omega]
      rfl
    · rw [if_neg q, if_neg q, Nat.sub_self]
      show some I = some (stI (stI I a 6 (I a 6)) a 3 (nI x))
      rw [stI_id, ← h3, stI_id]
end TOKC
theorem scan_eq {q : Nat → Bool} : ∀ m d x, m ≤ d → (∀ i, i < m → q (x + i) = true) → (m < d → q (x + m) = false) → scan q d x = x + m := by
  intro m
  induction m with
  | zero =>
    intro d x _ _ h2
    rcases d with _ | d
    · rfl
    · unfold scan
      rw [if_neg (by rw [show x = x + 0 from rfl, h2 (by omega)]; decide)]; rfl
  | succ m ih =>
    intro d x hd h1 h2
    obtain ⟨d, rfl⟩ : ∃ e, d = e + 1 := ⟨d - 1, by omega⟩
    unfold scan
    rw [if_pos (show q x = true from h1 0 (by omega)), ih d (x + 1) (by omega) (fun i hi => by rw [show x + 1 + i = x + (i + 1) by omega]; exact h1 (i + 1) (by omega)) (fun h => by rw [show x + 1 + m = x + (m + 1) by omega]; exact h2 (by omega))]
    omega
/-- the reading stands before r -/
def RP (I : JI) (a : Nat) (r : List Nat) : Prop := ∃ x, x + r.length ≤ 500 ∧ I a 2 = nI (x + r.length) ∧ I a 3 = nI x ∧ ∀ j, j < r.length → I (a + 1) (x + j) = nI (r.getD j 0)
/-- a token w of kind k is read, r is left -/
def RD (I : JI) (a k : Nat) (w r : List Nat) : Prop := RP I a r ∧ I a 4 = nI k ∧ ∃ q, q + w.length ≤ 500 ∧ I a 5 = nI q ∧ I a 3 = nI (q + w.length) ∧ ∀ j, j < w.length → I (a + 1) (q + j) = nI (w.getD j 0)
def isL (b : Nat) : Bool := decide (97 ≤ b) && decide (b ≤ 122)
def isD (b : Nat) : Bool := decide (48 ≤ b) && decide (b ≤ 57)
/-- what r begins with is not of f -/
def hd0 (f : Nat → Bool) (r : List Nat) : Prop := ∀ b t, r = b :: t → f b = false ∧ b < 128
theorem isL_e {b : Nat} (h : b < 128) : s_X2_isLetter (nI b) = isL b := by
  have : ∀ b : Fin 128, s_X2_isLetter (nI b.val) = isL b.val := by decide +kernel
  exact this ⟨b, h⟩
theorem isD_e {b : Nat} (h : b < 128) : s_X2_isDigit (nI b) = isD b := by
  have : ∀ b : Fin 128, s_X2_isDigit (nI b.val) = isD b.val := by decide +kernel
  exact this ⟨b, h⟩
theorem getD_a {l r : List Nat} {j : Nat} (h : j < l.length) : (l ++ r).getD j 0 = l.getD j 0 := by
  rw [List.getD_eq_getElem?_getD, List.getD_eq_getElem?_getD, List.getElem?_append_left h]
theorem getD_b {l r : List Nat} {j : Nat} : (l ++ r).getD (l.length + j) 0 = r.getD j 0 := by
  rw [List.getD_eq_getElem?_getD, List.getD_eq_getElem?_getD, List.getElem?_append_right (Nat.le_add_right _ _), Nat.add_sub_cancel_left]
section RDS
variable {I J : JI} {a k s v n : Nat} {w r r' : List Nat} {b : Nat} {tx : String}
theorem RP.app (h : RP I a (w ++ r)) : ∃ x, x + w.length + r.length ≤ 500 ∧ I a 2 = nI (x + w.length + r.length) ∧ I a 3 = nI x ∧ (∀ j, j < w.length → I (a + 1) (x + j) = nI (w.getD j 0)) ∧ ∀ j, j < r.length → I (a + 1) (x + w.length + j) = nI (r.getD j 0) := by
  obtain ⟨x, h1, h2, h3, h4⟩ := h
  rw [List.length_append] at h1 h2 h4
  refine ⟨x, by omega, by rw [h2]; congr 1; omega, h3, fun j hj => ?_, fun j hj => ?_⟩
  · rw [h4 j (by omega), getD_a hj]
  · rw [show x + w.length + j = x + (w.length + j) by omega, h4 _ (by omega), getD_b]
theorem RP.fr (h : RP I a r) (h1 : J a = I a) (h2 : J (a + 1) = I (a + 1)) : RP J a r := by
  unfold RP; rw [h1, h2]; exact h
theorem RD.fr (h : RD I a k w r) (h1 : J a = I a) (h2 : J (a + 1) = I (a + 1)) : RD J a k w r := by
  unfold RD RP; rw [h1, h2]; exact h
/-- spaces are passed -/
theorem adv0 (h : RP I a (List.replicate s 32 ++ r)) (hr : hd0 (fun b => decide (b = 32)) r) : ∃ x K, x + r.length ≤ 500 ∧ s_X2_advance I a = (if x < x + r.length then (if s_X2_isLetter (I (a + 1) x) = true then bd (s_X2_readWord K a) fun I13 => some I13 else if s_X2_isDigit (I (a + 1) x) = true then bd (s_X2_readNumber K a) fun I12 => some I12 else some (stI (stI K a 4 (s_X2_kindOfSign (I (a + 1) x))) a 3 (nI (x + 1)))) else some (stI K a 4 0)) ∧ K a 2 = nI (x + r.length) ∧ K a 3 = nI x ∧ K a 5 = nI x ∧ (∀ z, z ≠ a → K z = I z) ∧ ∀ j, j < r.length → I (a + 1) (x + j) = nI (r.getD j 0) := by
  obtain ⟨x, h1, h2, h3, h4, h5⟩ := h.app
  rw [List.length_replicate] at h1 h2 h4 h5
  have e1 := t_sp (a := a) (N := x + s + r.length) h1 (s + r.length) lf x I h2 h3 (by omega) (by unfold lf; omega)
  have e2 : scan (fun i => decide (I (a + 1) i = 32)) (s + r.length) x = x + s := by
    refine scan_eq s _ x (by omega) (fun i hi => ?_) (fun hi => ?_)
    · rw [h4 i hi, List.getD_eq_getElem?_getD, List.getElem?_replicate, if_pos hi]; rfl
    · rcases r with _ | ⟨b, t⟩
      · simp at hi
      · obtain ⟨g1, g2⟩ := hr b t rfl
        have := h5 0 (by simp)
        rw [show x + s + 0 = x + s from rfl] at this
        rw [this]
        have hb : ¬ b = 32 := by simpa using g1
        exact decide_eq_false (fun q => hb ((nI_eq (b := 32) (by omega) (by decide)).mp q))
  rw [e2] at e1
  refine ⟨x + s, stI (stI I a 3 (nI (x + s))) a 5 (nI (x + s)), h1, ?_, ?_, ?_, stI_at, fun z hz => by rw [stI_ne hz, stI_ne hz], h5⟩
  · unfold s_X2_advance
    rw [e1, bd_some, lx_s, stI_at]
    have c2 : stI (stI I a 3 (nI (x + s))) a 5 (nI (x + s)) a 2 = nI (x + s + r.length) := by rw [stI_aj (by decide), stI_aj (by decide)]; exact h2
    have c3 : stI (stI I a 3 (nI (x + s))) a 5 (nI (x + s)) a 3 = nI (x + s) := by rw [stI_aj (by decide), stI_at]
    have c0 : stI (stI I a 3 (nI (x + s))) a 5 (nI (x + s)) (a + 1) = I (a + 1) := by rw [stI_ne (by omega), stI_ne (by omega)]
    rw [c2, c3, c0]
    by_cases q : x + s < x + s + r.length
    · rw [if_pos (nI_lt q (by omega)), if_pos q, atF_nI (by omega) (by omega), lx_s, lx_s, stI_aj (show 3 ≠ 4 by decide), c3, nI_1]
    · rw [if_neg (nI_nlt (b := x + s + r.length) (by omega) (by omega)), if_neg q, lx_s]
  · rw [stI_aj (by decide), stI_aj (by decide)]; exact h2
  · rw [stI_aj (by decide), stI_at]
/-- a word -/
theorem adv_w (h : RP I a (List.replicate s 32 ++ (w ++ r))) (hw : ∀ x, x ∈ w → isL x = true ∧ x < 128) (h1 : 1 ≤ w.length) (h7 : w.length ≤ 7) (hr : hd0 isL r) : ∃ J, s_X2_advance I a = some J ∧ RD J a 1 w r ∧ ∀ z, z ≠ a → J z = I z := by
  obtain ⟨x, K, g1, g2, g3, g4, g5, g6, g7⟩ := adv0 h (by
    intro b t e
    rcases w with _ | ⟨b', t'⟩
    · simp at h1
    · cases e
      obtain ⟨l1, l2⟩ := hw b (by simp)
      refine ⟨decide_eq_false fun q => ?_, l2⟩
      subst q; revert l1; decide)
  rw [List.length_append] at g1 g2 g3 g7
  have by0 : ∀ j, j < w.length → I (a + 1) (x + j) = nI (w.getD j 0) := fun j hj => by rw [g7 j (by omega), getD_a hj]
  have by1 : ∀ j, j < r.length → I (a + 1) (x + w.length + j) = nI (r.getD j 0) := fun j hj => by rw [show x + w.length + j = x + (w.length + j) by omega, g7 _ (by omega), getD_b]
  have lw : ∀ j, j < w.length → s_X2_isLetter (I (a + 1) (x + j)) = true := fun j hj => by
    obtain ⟨l1, l2⟩ := hw _ (getD_mem hj)
    rw [by0 j hj, isL_e l2]; exact l1
  have eK : K (a + 1) = I (a + 1) := g6 _ (by omega)
  have e3 := t_wd (a := a) (N := x + (w.length + r.length)) g1 (w.length + r.length) lf x K g3 g4 (by omega) (by unfold lf; omega)
  have e4 : scan (fun i => s_X2_isLetter (K (a + 1) i)) (w.length + r.length) x = x + w.length := by
    refine scan_eq _ _ x (by omega) (fun i hi => by rw [eK]; exact lw i hi) (fun hi => ?_)
    rw [eK]
    rcases r with _ | ⟨b, t⟩
    · simp at hi
    · obtain ⟨l1, l2⟩ := hr b t rfl
      have := by1 0 (by simp)
      rw [show x + w.length + 0 = x + w.length from rfl] at this
      rw [this, List.getD_cons_zero, isL_e l2]; exact l1
  rw [e4] at e3
  have l0 := lw 0 (by omega)
  rw [show x + 0 = x from rfl] at l0
  rw [if_pos (by omega), if_pos l0] at g2
  have e5 : s_X2_readWord K a = some (stI (stI K a 3 (nI (x + w.length))) a 4 1) := by
    unfold s_X2_readWord
    rw [e3, bd_some, stI_at, stI_aj (show 5 ≠ 3 by decide), g5, nI_sub (by omega), if_pos (show nI (x + w.length - x) ≤ 7 from nI_le (b := 7) (by omega) (by decide)), lx_s]
  rw [e5, bd_some] at g2
  refine ⟨_, g2, ⟨⟨x + w.length, by omega, ?_, ?_, fun j hj => ?_⟩, stI_at, x, by omega, ?_, ?_, fun j hj => ?_⟩, fun z hz => by rw [stI_ne hz, stI_ne hz, g6 z hz]⟩
  · rw [stI_aj (by decide), stI_aj (by decide), g3]; congr 1; omega
  · rw [stI_aj (by decide), stI_at]
  · rw [stI_ne (by omega), stI_ne (by omega), eK]; exact by1 j hj
  · rw [stI_aj (by decide), stI_aj (by decide), g5]
  · rw [stI_aj (by decide), stI_at]
  · rw [stI_ne (by omega), stI_ne (by omega), eK]; exact by0 j hj
theorem nv_dg {g : Nat → Int32} {x v : Nat} (hv : v < 100) (h : ∀ j, j < (dg v).length → g (x + j) = nI ((dg v).getD j 0)) : nv g (dg v).length x 0 = nI v := by
  have st : ∀ v d : Nat, nI v * 10 + nI (48 + d) - 48 = nI (10 * v + d) := fun v d => by
    rw [show (10 : Int32) = nI 10 from rfl, show (48 : Int32) = nI 48 from rfl, nI_mul, nI_add, nI_sub (by omega)]
    congr 1; omega
  by_cases q : v < 10
  · rw [dg_1 q] at h ⊢
    show (0 : Int32) * 10 + g x - 48 = nI v
    rw [show g x = nI (48 + v) from h 0 (by simp), show (0 : Int32) = nI 0 from rfl, st]; congr 1; omega
  · rw [dg_2 q] at h ⊢
    show ((0 : Int32) * 10 + g x - 48) * 10 + g (x + 1) - 48 = nI v
    rw [show g x = nI (48 + v / 10) from h 0 (by simp), show g (x + 1) = nI (48 + v % 10) from h 1 (by simp), show (0 : Int32) = nI 0 from rfl, st, st]; congr 1; omega
theorem dg_isD (hv : v < 100) : ∀ x, x ∈ dg v → isD x = true ∧ x < 128 := by
  intro x hx
  have : 48 ≤ x ∧ x ≤ 57 := by
    by_cases q : v < 10
    · rw [dg_1 q] at hx; simp at hx; omega
    · rw [dg_2 q] at hx; simp at hx; omega
  refine ⟨?_, by omega⟩
  unfold isD; rw [decide_eq_true this.1, decide_eq_true this.2]; rfl
theorem isD_L {x : Nat} (h : isD x = true) : isL x = false ∧ ¬ x = 32 := by
  unfold isD at h
  simp only [Bool.and_eq_true, decide_eq_true_eq] at h
  refine ⟨?_, by omega⟩
  unfold isL; rw [decide_eq_false (show ¬ 97 ≤ x by omega)]; rfl
/-- a number -/
theorem adv_n (h : RP I a (List.replicate s 32 ++ (dg v ++ r))) (hv : v < 100) (hr : hd0 isD r) : ∃ J, s_X2_advance I a = some J ∧ RD J a 2 (dg v) r ∧ J a 6 = nI v ∧ ∀ z, z ≠ a → J z = I z := by
  obtain ⟨l1, l2⟩ := dg_le v
  obtain ⟨x, K, g1, g2, g3, g4, g5, g6, g7⟩ := adv0 h (by
    intro b t e
    have hb : b ∈ dg v := by
      rcases hd : dg v with _ | ⟨b', t'⟩
      · rw [hd] at l1; simp at l1
      · rw [hd] at e; cases e; simp
    obtain ⟨m1, m2⟩ := dg_isD hv b hb
    exact ⟨decide_eq_false (isD_L m1).2, m2⟩)
  rw [List.length_append] at g1 g2 g3 g7
  have by0 : ∀ j, j < (dg v).length → I (a + 1) (x + j) = nI ((dg v).getD j 0) := fun j hj => by rw [g7 j (by omega), getD_a hj]
  have by1 : ∀ j, j < r.length → I (a + 1) (x + (dg v).length + j) = nI (r.getD j 0) := fun j hj => by rw [show x + (dg v).length + j = x + ((dg v).length + j) by omega, g7 _ (by omega), getD_b]
  have lw : ∀ j, j < (dg v).length → s_X2_isDigit (I (a + 1) (x + j)) = true ∧ s_X2_isLetter (I (a + 1) (x + j)) = false := fun j hj => by
    obtain ⟨m1, m2⟩ := dg_isD hv _ (getD_mem hj)
    rw [by0 j hj, isD_e m2, isL_e m2]; exact ⟨m1, (isD_L m1).1⟩
  obtain ⟨K', hK'⟩ : ∃ K', K' = stI K a 6 0 := ⟨_, rfl⟩
  have eK : K' (a + 1) = I (a + 1) := by rw [hK', stI_ne (by omega)]; exact g6 _ (by omega)
  have k2 : K' a 2 = nI (x + ((dg v).length + r.length)) := by rw [hK', stI_aj (by decide)]; exact g3
  have k3 : K' a 3 = nI x := by rw [hK', stI_aj (by decide)]; exact g4
  have k5 : K' a 5 = nI x := by rw [hK', stI_aj (by decide)]; exact g5
  have k6 : K' a 6 = 0 := by rw [hK']; exact stI_at
  have kz : ∀ z, z ≠ a → K' z = I z := fun z hz => by rw [hK', stI_ne hz]; exact g6 z hz
  have e3 := t_nb (a := a) (N := x + ((dg v).length + r.length)) g1 ((dg v).length + r.length) lf x K' k2 k3 (by omega) (by unfold lf; omega)
  have e4 : scan (fun i => s_X2_isDigit (K' (a + 1) i)) ((dg v).length + r.length) x = x + (dg v).length := by
    refine scan_eq _ _ x (by omega) (fun i hi => by rw [eK]; exact (lw i hi).1) (fun hi => ?_)
    rw [eK]
    rcases r with _ | ⟨b, t⟩
    · simp at hi
    · obtain ⟨m1, m2⟩ := hr b t rfl
      have := by1 0 (by simp)
      rw [show x + (dg v).length + 0 = x + (dg v).length from rfl] at this
      rw [this, List.getD_cons_zero, isD_e m2]; exact m1
  rw [e4, eK, show x + (dg v).length - x = (dg v).length by omega, k6, nv_dg hv by0] at e3
  have l0 := lw 0 (by omega)
  rw [show x + 0 = x from rfl] at l0
  rw [if_pos (by omega), if_neg (by rw [l0.2]; decide), if_pos l0.1] at g2
  have e5 : s_X2_readNumber K a = some (stI (stI (stI K' a 6 (nI v)) a 3 (nI (x + (dg v).length))) a 4 2) := by
    unfold s_X2_readNumber
    rw [lx_s, ← hK', e3, bd_some, stI_at, stI_aj (show 5 ≠ 3 by decide), stI_aj (show 5 ≠ 6 by decide), k5, nI_sub (by omega), if_pos (show nI (x + (dg v).length - x) ≤ 3 from nI_le (b := 3) (by omega) (by decide)), lx_s]
  rw [e5, bd_some] at g2
  refine ⟨_, g2, ⟨⟨x + (dg v).length, by omega, ?_, ?_, fun j hj => ?_⟩, stI_at, x, by omega, ?_, ?_, fun j hj => ?_⟩, ?_, fun z hz => by rw [stI_ne hz, stI_ne hz, stI_ne hz, kz z hz]⟩
  · rw [stI_aj (by decide), stI_aj (by decide), stI_aj (by decide), k2]; congr 1; omega
  · rw [stI_aj (by decide), stI_at]
  · rw [stI_ne (by omega), stI_ne (by omega), stI_ne (by omega), eK]; exact by1 j hj
  · rw [stI_aj (by decide), stI_aj (by decide), stI_aj (by decide), k5]
  · rw [stI_aj (by decide), stI_at]
  · rw [stI_ne (by omega), stI_ne (by omega), stI_ne (by omega), eK]; exact by0 j hj
  · rw [stI_aj (by decide), stI_aj (by decide), stI_at]
/-- a sign -/
theorem adv_s (h : RP I a (List.replicate s 32 ++ (b :: r))) (hb : (b = 40 ∧ k = 4) ∨ (b = 41 ∧ k = 5) ∨ (b = 59 ∧ k = 3)) : ∃ J, s_X2_advance I a = some J ∧ RD J a k [b] r ∧ ∀ z, z ≠ a → J z = I z := by
  have f : s_X2_isLetter (nI b) = false ∧ s_X2_isDigit (nI b) = false ∧ s_X2_kindOfSign (nI b) = nI k ∧ ¬ b = 32 ∧ b < 128 := by
    rcases hb with ⟨rfl, rfl⟩ | ⟨rfl, rfl⟩ | ⟨rfl, rfl⟩ <;> decide
  obtain ⟨x, K, g1, g2, g3, g4, g5, g6, g7⟩ := adv0 h (by intro b' t e; cases e; exact ⟨decide_eq_false f.2.2.2.1, f.2.2.2.2⟩)
  have e0 : I (a + 1) x = nI b := g7 0 (by simp)
  have ek : K (a + 1) = I (a + 1) := g6 _ (by omega)
  rw [List.length_cons] at g1 g2 g3 g7
  rw [if_pos (by omega), e0, if_neg (by rw [f.1]; decide), if_neg (by rw [f.2.1]; decide), f.2.2.1] at g2
  refine ⟨_, g2, ⟨⟨x + 1, by omega, ?_, stI_at, fun j hj => ?_⟩, ?_, x, by simp; omega, ?_, stI_at, fun j hj => ?_⟩, fun z hz => by rw [stI_ne hz, stI_ne hz, g6 z hz]⟩
  · rw [stI_aj (by decide), stI_aj (by decide), g3]; congr 1; omega
  · rw [stI_ne (by omega), stI_ne (by omega), ek, show x + 1 + j = x + (j + 1) by omega, g7 _ (by omega)]; rfl
  · rw [stI_aj (by decide), stI_at]
  · rw [stI_aj (by decide), stI_aj (by decide), g5]
  · have : j = 0 := by simp at hj; omega
    subst this
    rw [stI_ne (by omega), stI_ne (by omega), ek]; exact e0
/-- the end -/
theorem adv_e (h : RP I a []) : ∃ J, s_X2_advance I a = some J ∧ RD J a 0 [] [] ∧ ∀ z, z ≠ a → J z = I z := by
  obtain ⟨x, K, g1, g2, g3, g4, g5, g6, g7⟩ := adv0 (s := 0) (r := []) h (by intro b t e; cases e)
  rw [if_neg (by simp)] at g2
  refine ⟨_, g2, ⟨⟨x, g1, ?_, ?_, fun j hj => absurd hj (Nat.not_lt_zero j)⟩, stI_at, x, by simpa using g1, ?_, ?_, fun j hj => absurd hj (Nat.not_lt_zero j)⟩, fun z hz => by rw [stI_ne hz, g6 z hz]⟩
  · rw [stI_aj (by decide)]; exact g3
  · rw [stI_aj (by decide)]; exact g4
  · rw [stI_aj (by decide)]; exact g5
  · rw [stI_aj (by decide)]; exact g4
/-- a word is that word -/
theorem isW_t {q : Nat} (ha : asc tx) (hn : tx.toList.length = n) (hq : q + n ≤ 500) (h5 : I a 5 = nI q) (hw : ∀ j, j < n → I (a + 1) (q + j) = nI ((tb tx).getD j 0)) : ∀ d f j, j + d = n → d < f → s_X2_isWord_L28 I a tx f (nI j) = some (.inr (nI n)) := by
  intro d
  induction d with
  | zero =>
    intro f j hj hf
    obtain ⟨f, rfl⟩ : ∃ g, f = g + 1 := ⟨f - 1, by omega⟩
    have : j = n := by omega
    subst this
    rw [s_X2_isWord_L28, hn, if_pos (show Int32.ofNat j ≤ nI j from Int32.le_refl _)]
  | succ d ih =>
    intro f j hj hf
    obtain ⟨f, rfl⟩ : ∃ g, f = g + 1 := ⟨f - 1, by omega⟩
    rw [s_X2_isWord_L28, hn, if_neg (show ¬ Int32.ofNat n ≤ nI j from nI_ge (by omega) (by omega)), gd_i ⟨ha, vp_nI (by omega) (by omega), by omega⟩, h5, nI_add, atF_nI (by omega) (by omega), cl_nI (by omega), chE_tb tx (by rw [tb_len]; omega), if_pos (hw j (by omega)), nI_1]
    exact ih f (j + 1) (by omega) (by omega)
theorem isW_f {q : Nat} (ha : asc tx) (hx : ∀ x, x ∈ tb tx → x < 128) (hn : tx.toList.length = n) (hwn : w.length = n) (hw8 : ∀ x, x ∈ w → x < 128) (hq : q + n ≤ 500) (h5 : I a 5 = nI q) (hw : ∀ j, j < n → I (a + 1) (q + j) = nI (w.getD j 0)) : ∀ d f j, j + d = n → d < f → (∃ i, j ≤ i ∧ i < n ∧ ¬ w.getD i 0 = (tb tx).getD i 0) → s_X2_isWord_L28 I a tx f (nI j) = some (.inl false) := by
  intro d
  induction d with
  | zero =>
    intro f j hj hf ⟨i, i1, i2, _⟩
    omega
  | succ d ih =>
    intro f j hj hf ⟨i, i1, i2, i3⟩
    obtain ⟨f, rfl⟩ : ∃ g, f = g + 1 := ⟨f - 1, by omega⟩
    have hl : (tb tx).length = n := by rw [tb_len, hn]
    rw [s_X2_isWord_L28, hn, if_neg (show ¬ Int32.ofNat n ≤ nI j from nI_ge (by omega) (by omega)), gd_i ⟨ha, vp_nI (by omega) (by omega), by omega⟩, h5, nI_add, atF_nI (by omega) (by omega), cl_nI (by omega), chE_tb tx (by omega), hw j (by omega)]
    by_cases e : w.getD j 0 = (tb tx).getD j 0
    · rw [if_pos (by rw [e]), nI_1]
      exact ih f (j + 1) (by omega) (by omega) ⟨i, by rcases Nat.lt_or_ge j i with q | q; exact q; exact absurd ((show i = j by omega) ▸ e) i3, i2, i3⟩
    · have b1 := hw8 _ (getD_mem (t := w) (j := j) (by omega))
      have b2 := hx _ (getD_mem (t := tb tx) (j := j) (by omega))
      rw [if_neg fun q => e ((nI_eq (by omega) (by omega)).mp q)]
theorem isW (h : RD I a 1 w r) (hw8 : ∀ x, x ∈ w → x < 128) (ha : asc tx ∧ (∀ x, x ∈ tb tx → x < 128) ∧ tx.toList.length ≤ 10) : s_X2_isWord I a tx = some (decide (w = tb tx)) := by
  obtain ⟨ha, hx, h10⟩ := ha
  obtain ⟨-, h4, q, q1, q2, q3, q4⟩ := h
  unfold s_X2_isWord
  rw [h4, if_pos (show nI 1 = 1 from rfl), q3, q2, nI_sub (by omega), show q + w.length - q = w.length by omega]
  by_cases hl : w.length = tx.toList.length
  · rw [if_pos (show nI w.length = Int32.ofNat _ by rw [hl]; rfl)]
    by_cases e : w = tb tx
    · subst e
      rw [decide_eq_true rfl, show (0 : Int32) = nI 0 from rfl, isW_t ha rfl (by omega) q2 (fun j hj => q4 j (by omega)) tx.toList.length lf 0 (by omega) (by unfold lf; omega), bl_inr]
    · rw [decide_eq_false e, show (0 : Int32) = nI 0 from rfl, isW_f ha hx rfl hl hw8 (by omega) q2 (fun j hj => q4 j (by omega)) tx.toList.length lf 0 (by omega) (by unfold lf; omega) ?_, bl_inl]
      refine Classical.byContradiction fun hc => e ?_
      refine List.ext_getElem (by rw [tb_len]; exact hl) fun i i1 i2 => ?_
      have := Classical.byContradiction fun hd => hc ⟨i, Nat.zero_le i, by omega, hd⟩
      rw [List.getD_eq_getElem?_getD, List.getD_eq_getElem?_getD, List.getElem?_eq_getElem i1, List.getElem?_eq_getElem i2] at this
      exact this
  · rw [if_neg (show ¬ nI w.length = Int32.ofNat tx.toList.length from fun e => hl ((nI_eq (by omega) (by omega)).mp e)), decide_eq_false fun e => hl (by rw [e, tb_len])]
theorem isW0 (h : RD I a k w r) (hk : k < 10) (h1 : ¬ k = 1) : s_X2_isWord I a tx = some false := by
  unfold s_X2_isWord
  rw [h.2.1, if_neg (show ¬ nI k = 1 from fun e => h1 ((nI_eq (b := 1) (by omega) (by decide)).mp e))]
theorem colour_v (h : RD I a 1 [97 + v] r) (hv : v < 6) : s_X2_colour I a = nI v := by
  obtain ⟨-, h4, q, q1, q2, q3, q4⟩ := h
  have hq : q + 1 ≤ 500 := q1
  have e0 : I (a + 1) q = nI (97 + v) := q4 0 (by simp)
  have q3' : I a 3 = nI (q + 1) := q3
  unfold s_X2_colour
  rw [h4, if_pos (show nI 1 = 1 from rfl), q3', q2, nI_sub (by omega), show q + 1 - q = 1 by omega, if_pos (show nI 1 = 1 from rfl), lx_s, atF_nI (by omega) (by omega), e0, show (97 : Int32) = nI 97 from rfl, nI_sub (by omega), show 97 + v - 97 = v by omega, if_neg (show ¬ (6 : Int32) ≤ nI v from nI_ge (b := 6) hv (by decide))]
end RDS
