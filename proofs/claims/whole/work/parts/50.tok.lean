/-! tokens, both ways -/
def scan (q : Nat → Bool) : Nat → Nat → Nat
  | 0, x => x
  | d + 1, x => if q x = true then scan q d (x + 1) else x
theorem scan_b {q : Nat → Bool} : ∀ d x, x ≤ scan q d x ∧ scan q d x ≤ x + d ∧ (scan q d x < x + d → q (scan q d x) = false) ∧ (∀ i, x ≤ i → i < scan q d x → q i = true) := by
  intro d
  induction d with
  | zero => intro x; exact ⟨Nat.le_refl x, Nat.le_refl x, fun h => absurd h (Nat.lt_irrefl x), fun i h1 h2 => absurd (Nat.lt_of_le_of_lt h1 h2) (Nat.lt_irrefl x)⟩
  | succ d ih =>
    intro x
    unfold scan
    by_cases h : q x = true
    · rw [if_pos h]
      obtain ⟨h1, h2, h3, h4⟩ := ih (x + 1)
      refine ⟨by omega, by omega, fun hl => h3 (by omega), fun i i1 i2 => ?_⟩
      by_cases e : i = x
      · subst e; exact h
      · exact h4 i (by omega) i2
    · rw [if_neg h]
      exact ⟨Nat.le_refl x, by omega, fun _ => by simpa using h, fun i i1 i2 => by omega⟩
theorem scan_congr {q r : Nat → Bool} : ∀ d x, (∀ i, x ≤ i → i < x + d → q i = r i) → scan q d x = scan r d x := by
  intro d
  induction d with
  | zero => intro x _; rfl
  | succ d ih =>
    intro x h
    unfold scan
    rw [h x (by omega) (by omega), ih (x + 1) fun i i1 i2 => h i (by omega) (by omega)]
/-- the value of digits -/
def nv (g : Nat → Int32) : Nat → Nat → Int32 → Int32
  | 0, _, v => v
  | n + 1, x, v => nv g n (x + 1) (v * 10 + g x - 48)
def mnv (g : Nat → Int32) (y : Nat) : Nat → Nat → Int32 → Int32
  | 0, _, v => v
  | n + 1, x, v => mnv g y n (x + 1) (if x - y < 3 then 10 * v + g x - 48 else v)
section TOKC
variable {I : JI} {a N : Nat}
theorem t_sp (hN : N ≤ 500) : ∀ (d f x : Nat) (I : JI), I a 2 = nI N → I a 3 = nI x → x + d = N → d < f → s_X2_advance_L0 a f I = some (stI I a 3 (nI (scan (fun i => decide (I (a + 1) i = 32)) d x))) := by
  intro d
  induction d with
  | zero =>
    intro f x I h2 h3 hx hf
    obtain ⟨f, rfl⟩ : ∃ g, f = g + 1 := ⟨f - 1, by omega⟩
    have : x = N := by omega
    subst this
    rw [s_X2_advance_L0, h2, h3, if_pos (Int32.le_refl _)]
    show some I = some (stI I a 3 (nI x))
    rw [← h3, stI_id]
  | succ d ih =>
    intro f x I h2 h3 hx hf
    obtain ⟨f, rfl⟩ : ∃ g, f = g + 1 := ⟨f - 1, by omega⟩
    rw [s_X2_advance_L0, h2, h3, if_neg (nI_ge (by omega) (by omega)), atF_nI (by omega) (by omega)]
    unfold scan
    by_cases q : I (a + 1) x = 32
    · rw [if_pos q, if_pos (decide_eq_true q), lx_s, nI_1, ih f (x + 1) _ (by rw [stI_aj (by decide)]; exact h2) stI_at (by omega) (by omega), stI_same, stI_ne (show a + 1 ≠ a by omega)]
    · rw [if_neg q, if_neg (by simp [q]), ← h3, stI_id]
theorem t_wd (hN : N ≤ 500) : ∀ (d f x : Nat) (I : JI), I a 2 = nI N → I a 3 = nI x → x + d = N → d < f → s_X2_readWord_L0 a f I = some (stI I a 3 (nI (scan (fun i => s_X2_isLetter (I (a + 1) i)) d x))) := by
  intro d
  induction d with
  | zero =>
    intro f x I h2 h3 hx hf
    obtain ⟨f, rfl⟩ : ∃ g, f = g + 1 := ⟨f - 1, by omega⟩
    have : x = N := by omega
    subst this
    rw [s_X2_readWord_L0, h2, h3, if_pos (Int32.le_refl _)]
    show some I = some (stI I a 3 (nI x))
    rw [← h3, stI_id]
  | succ d ih =>
    intro f x I h2 h3 hx hf
    obtain ⟨f, rfl⟩ : ∃ g, f = g + 1 := ⟨f - 1, by omega⟩
    rw [s_X2_readWord_L0, h2, h3, if_neg (nI_ge (by omega) (by omega)), atF_nI (by omega) (by omega)]
    unfold scan
    by_cases q : s_X2_isLetter (I (a + 1) x) = true
    · rw [if_pos q, if_pos q, lx_s, nI_1, ih f (x + 1) _ (by rw [stI_aj (by decide)]; exact h2) stI_at (by omega) (by omega), stI_same, stI_ne (show a + 1 ≠ a by omega)]
    · rw [if_neg q, if_neg q, ← h3, stI_id]
theorem t_nb (hN : N ≤ 500) : ∀ (d f x : Nat) (I : JI), I a 2 = nI N → I a 3 = nI x → x + d = N → d < f → s_X2_readNumber_L5 a f I = some (stI (stI I a 6 (nv (I (a + 1)) (scan (fun i => s_X2_isDigit (I (a + 1) i)) d x - x) x (I a 6))) a 3 (nI (scan (fun i => s_X2_isDigit (I (a + 1) i)) d x))) := by
  intro d
  induction d with
  | zero =>
    intro f x I h2 h3 hx hf
    obtain ⟨f, rfl⟩ : ∃ g, f = g + 1 := ⟨f - 1, by omega⟩
    have : x = N := by omega
    subst this
    rw [s_X2_readNumber_L5, h2, h3, if_pos (Int32.le_refl _)]
    show some I = some (stI (stI I a 6 (nv (I (a + 1)) (x - x) x (I a 6))) a 3 (nI x))
    rw [Nat.sub_self]
    show some I = some (stI (stI I a 6 (I a 6)) a 3 (nI x))
    rw [stI_id, ← h3, stI_id]
  | succ d ih =>
    intro f x I h2 h3 hx hf
    obtain ⟨f, rfl⟩ : ∃ g, f = g + 1 := ⟨f - 1, by omega⟩
    rw [s_X2_readNumber_L5, h2, h3, if_neg (nI_ge (by omega) (by omega)), atF_nI (by omega) (by omega)]
    have es : scan (fun i => s_X2_isDigit (I (a + 1) i)) (d + 1) x = if s_X2_isDigit (I (a + 1) x) = true then scan (fun i => s_X2_isDigit (I (a + 1) i)) d (x + 1) else x := rfl
    rw [es]
    by_cases q : s_X2_isDigit (I (a + 1) x) = true
    · rw [if_pos q, if_pos q, lx_s, lx_s, stI_aj (show 3 ≠ 6 by decide), h3, nI_1, ih f (x + 1) _ (by rw [stI_aj (by decide), stI_aj (by decide)]; exact h2) stI_at (by omega) (by omega), stI_ne (show a + 1 ≠ a by omega), stI_ne (show a + 1 ≠ a by omega), stI_aj (show 6 ≠ 3 by decide), stI_at]
      obtain ⟨b1, b2, -, -⟩ := @scan_b (fun i => s_X2_isDigit (I (a + 1) i)) d (x + 1)
      rw [stI_comm (show a ≠ a ∨ 3 ≠ 6 by omega), stI_same, stI_same]
      congr 2
      obtain ⟨k, hk⟩ : ∃ k, scan (fun i => s_X2_isDigit (I (a + 1) i)) d (x + 1) - x = k + 1 := ⟨scan (fun i => s_X2_isDigit (I (a + 1) i)) d (x + 1) - x - 1, by omega⟩
      rw [hk, show scan (fun i => s_X2_isDigit (I (a + 1) i)) d (x + 1) - (x + 1) = k by omega]
      rfl
    · rw [if_neg q, if_neg q, Nat.sub_self]
      show some I = some (stI (stI I a 6 (I a 6)) a 3 (nI x))
      rw [stI_id, ← h3, stI_id]
end TOKC
section TOKM
variable {J : JI} {m N : Nat}
theorem u_sp (hN : N ≤ 500) : ∀ (d f x : Nat) (J : JI), J m 12 = nI N → J m 13 = nI x → x + d = N → d < f → s_X9_goes_L8 m f J = some (stI J m 13 (nI (scan (fun i => decide (J (m + 6) i = 32)) d x))) := by
  intro d
  induction d with
  | zero =>
    intro f x J h2 h3 hx hf
    obtain ⟨f, rfl⟩ : ∃ g, f = g + 1 := ⟨f - 1, by omega⟩
    have : x = N := by omega
    subst this
    rw [s_X9_goes_L8, h2, h3, if_pos (Int32.le_refl _)]
    show some J = some (stI J m 13 (nI x))
    rw [← h3, stI_id]
  | succ d ih =>
    intro f x J h2 h3 hx hf
    obtain ⟨f, rfl⟩ : ∃ g, f = g + 1 := ⟨f - 1, by omega⟩
    rw [s_X9_goes_L8, h2, h3, if_neg (nI_ge (by omega) (by omega)), gd_in (by omega) (by omega), cl_nI (by omega)]
    unfold scan
    by_cases q : J (m + 6) x = 32
    · rw [if_pos q, if_pos (decide_eq_true q), lx_s, nI_1, ih f (x + 1) _ (by rw [stI_aj (by decide)]; exact h2) stI_at (by omega) (by omega), stI_same, stI_ne (show m + 6 ≠ m by omega)]
    · rw [if_neg q, if_neg (by simp [q]), ← h3, stI_id]
theorem u_small {x : Nat} (hN : N ≤ 500) (h2 : J m 12 = nI N) (hx : x ≤ N) : s_X9_isSmall J m (nI x) = some (decide (x < N) && s_X9_in (J (m + 6) x) 97 122) := by
  unfold s_X9_isSmall
  rw [h2]
  by_cases q : x < N
  · rw [if_neg (nI_ge q (by omega)), gd_in (by omega) (by omega), cl_nI (by omega), decide_eq_true q, Bool.true_and]
    cases s_X9_in (J (m + 6) x) 97 122 <;> rfl
  · have : x = N := by omega
    subst this
    rw [if_pos (Int32.le_refl _), decide_eq_false q, Bool.false_and]
theorem u_digit {x : Nat} (hN : N ≤ 500) (h2 : J m 12 = nI N) (hx : x ≤ N) : s_X9_isDigit J m (nI x) = some (decide (x < N) && s_X9_in (J (m + 6) x) 48 57) := by
  unfold s_X9_isDigit
  rw [h2]
  by_cases q : x < N
  · rw [if_neg (nI_ge q (by omega)), gd_in (by omega) (by omega), cl_nI (by omega), decide_eq_true q, Bool.true_and]
    cases s_X9_in (J (m + 6) x) 48 57 <;> rfl
  · have : x = N := by omega
    subst this
    rw [if_pos (Int32.le_refl _), decide_eq_false q, Bool.false_and]
theorem u_wd (hN : N ≤ 500) : ∀ (d f x : Nat) (J : JI), J m 12 = nI N → J m 13 = nI x → x + d = N → d < f → s_X9_goes_L94 m f J = some (stI J m 13 (nI (scan (fun i => s_X9_in (J (m + 6) i) 97 122) d x))) := by
  intro d
  induction d with
  | zero =>
    intro f x J h2 h3 hx hf
    obtain ⟨f, rfl⟩ : ∃ g, f = g + 1 := ⟨f - 1, by omega⟩
    have : x = N := by omega
    subst this
    rw [s_X9_goes_L94, h3, u_small hN h2 (Nat.le_refl x), bd_some, decide_eq_false (Nat.lt_irrefl x), Bool.false_and, if_neg (by decide)]
    show some J = some (stI J m 13 (nI x))
    rw [← h3, stI_id]
  | succ d ih =>
    intro f x J h2 h3 hx hf
    obtain ⟨f, rfl⟩ : ∃ g, f = g + 1 := ⟨f - 1, by omega⟩
    rw [s_X9_goes_L94, h3, u_small hN h2 (by omega), bd_some, decide_eq_true (show x < N by omega), Bool.true_and]
    unfold scan
    by_cases q : s_X9_in (J (m + 6) x) 97 122 = true
    · rw [if_pos q, if_pos q, lx_s, nI_1, ih f (x + 1) _ (by rw [stI_aj (by decide)]; exact h2) stI_at (by omega) (by omega), stI_same, stI_ne (show m + 6 ≠ m by omega)]
    · rw [if_neg q, if_neg q, ← h3, stI_id]
theorem u_nb {y : Nat} (hN : N ≤ 500) : ∀ (d f x : Nat) (J : JI), J m 12 = nI N → J m 13 = nI x → J m 14 = nI y → y ≤ x → x + d = N → d < f → s_X9_goes_L158 m f J = some (stI (stI J m 16 (mnv (J (m + 6)) y (scan (fun i => s_X9_in (J (m + 6) i) 48 57) d x - x) x (J m 16))) m 13 (nI (scan (fun i => s_X9_in (J (m + 6) i) 48 57) d x))) := by
  intro d
  induction d with
  | zero =>
    intro f x J h2 h3 h4 hy hx hf
    obtain ⟨f, rfl⟩ : ∃ g, f = g + 1 := ⟨f - 1, by omega⟩
    have : x = N := by omega
    subst this
    rw [s_X9_goes_L158, h3, u_digit hN h2 (Nat.le_refl x), bd_some, decide_eq_false (Nat.lt_irrefl x), Bool.false_and, if_neg (by decide)]
    show some J = some (stI (stI J m 16 (mnv (J (m + 6)) y (x - x) x (J m 16))) m 13 (nI x))
    rw [Nat.sub_self]
    show some J = some (stI (stI J m 16 (J m 16)) m 13 (nI x))
    rw [stI_id, ← h3, stI_id]
  | succ d ih =>
    intro f x J h2 h3 h4 hy hx hf
    obtain ⟨f, rfl⟩ : ∃ g, f = g + 1 := ⟨f - 1, by omega⟩
    rw [s_X9_goes_L158, h3, u_digit hN h2 (by omega), bd_some, decide_eq_true (show x < N by omega), Bool.true_and, h4, nI_sub hy]
    have es : scan (fun i => s_X9_in (J (m + 6) i) 48 57) (d + 1) x = if s_X9_in (J (m + 6) x) 48 57 = true then scan (fun i => s_X9_in (J (m + 6) i) 48 57) d (x + 1) else x := rfl
    rw [es]
    by_cases q : s_X9_in (J (m + 6) x) 48 57 = true
    · rw [if_pos q, if_pos q]
      obtain ⟨b1, b2, -, -⟩ := @scan_b (fun i => s_X9_in (J (m + 6) i) 48 57) d (x + 1)
      obtain ⟨k, hk⟩ : ∃ k, scan (fun i => s_X9_in (J (m + 6) i) 48 57) d (x + 1) - x = k + 1 := ⟨scan (fun i => s_X9_in (J (m + 6) i) 48 57) d (x + 1) - x - 1, by omega⟩
      have hk2 : scan (fun i => s_X9_in (J (m + 6) i) 48 57) d (x + 1) - (x + 1) = k := by omega
      by_cases q3 : x - y < 3
      · rw [if_neg (show ¬ (3 : Int32) ≤ nI (x - y) from nI_ge (b := 3) q3 (by omega)), gd_in (by omega) (by omega), cl_nI (by omega), lx_s, lx_s, stI_aj (show 13 ≠ 16 by decide), h3, nI_1]
        rw [ih f (x + 1) _ (by rw [stI_aj (by decide), stI_aj (by decide)]; exact h2) stI_at (by rw [stI_aj (by decide), stI_aj (by decide)]; exact h4) (by omega) (by omega) (by omega), stI_ne (show m + 6 ≠ m by omega), stI_ne (show m + 6 ≠ m by omega), stI_aj (show 16 ≠ 13 by decide), stI_at, hk2, hk]
        rw [stI_comm (show m ≠ m ∨ 13 ≠ 16 by omega), stI_same, stI_same]
        show some (stI (stI J m 16 _) m 13 _) = some (stI (stI J m 16 (mnv (J (m + 6)) y k (x + 1) (if x - y < 3 then 10 * J m 16 + J (m + 6) x - 48 else J m 16))) m 13 _)
        rw [if_pos q3]
      · rw [if_pos (show (3 : Int32) ≤ nI (x - y) from nI_le (a := 3) (by omega) (by omega)), lx_s, nI_1]
        rw [ih f (x + 1) _ (by rw [stI_aj (by decide)]; exact h2) stI_at (by rw [stI_aj (by decide)]; exact h4) (by omega) (by omega) (by omega), stI_ne (show m + 6 ≠ m by omega), stI_aj (show 16 ≠ 13 by decide), hk2, hk]
        rw [stI_comm (show m ≠ m ∨ 13 ≠ 16 by omega), stI_same]
        show some (stI (stI J m 16 _) m 13 _) = some (stI (stI J m 16 (mnv (J (m + 6)) y k (x + 1) (if x - y < 3 then 10 * J m 16 + J (m + 6) x - 48 else J m 16))) m 13 _)
        rw [if_neg q3]
    · rw [if_neg q, if_neg q, Nat.sub_self]
      show some J = some (stI (stI J m 16 (J m 16)) m 13 (nI x))
      rw [stI_id, ← h3, stI_id]
end TOKM
/-- bytes as both see them -/
theorem byt_facts {x y : Int32} (h : BYt x y) : (decide (x = 32) = decide (y = 32)) ∧ s_X2_isLetter x = s_X9_in y 97 122 ∧ s_X2_isDigit x = s_X9_in y 48 57 ∧ (s_X2_isDigit x = true → y = x ∧ ∃ d : Nat, d < 10 ∧ x = nI (48 + d)) ∧ (s_X2_isLetter x = true → y = x ∧ ∃ d : Nat, d < 26 ∧ x = nI (97 + d)) := by
  obtain ⟨b, hb, rfl, rfl⟩ := h
  have : ∀ b : Fin 256, (decide (nI b.val = 32) = decide ((if b.val < 128 then nI b.val else nI b.val - nI 256) = 32)) ∧ s_X2_isLetter (nI b.val) = s_X9_in (if b.val < 128 then nI b.val else nI b.val - nI 256) 97 122 ∧ s_X2_isDigit (nI b.val) = s_X9_in (if b.val < 128 then nI b.val else nI b.val - nI 256) 48 57 ∧ (s_X2_isDigit (nI b.val) = true → b.val < 128 ∧ 48 ≤ b.val ∧ b.val < 58) ∧ (s_X2_isLetter (nI b.val) = true → b.val < 128 ∧ 97 ≤ b.val ∧ b.val < 123) := by decide +kernel
  obtain ⟨h1, h2, h3, h4, h5⟩ := this ⟨b, hb⟩
  refine ⟨h1, h2, h3, fun q => ?_, fun q => ?_⟩
  · obtain ⟨q1, q2, q3⟩ := h4 q
    rw [if_pos q1]
    dsimp only at q1 q2 q3
    exact ⟨rfl, b - 48, by omega, by rw [show 48 + (b - 48) = b by omega]⟩
  · obtain ⟨q1, q2, q3⟩ := h5 q
    rw [if_pos q1]
    dsimp only at q1 q2 q3
    exact ⟨rfl, b - 97, by omega, by rw [show 97 + (b - 97) = b by omega]⟩
def tkM (k : Nat) : Nat := if k = 6 then 0 else k + 1
theorem sign_facts {x y : Int32} (h : BYt x y) : ∃ k : Nat, 3 ≤ k ∧ k ≤ 6 ∧ s_X2_kindOfSign x = nI k ∧ s_X9_signOf y = nI (tkM k) := by
  obtain ⟨b, hb, rfl, rfl⟩ := h
  have : ∀ b : Fin 256, s_X2_kindOfSign (nI b.val) = nI (if b.val = 40 then 4 else if b.val = 41 then 5 else if b.val = 59 then 3 else 6) ∧ s_X9_signOf (if b.val < 128 then nI b.val else nI b.val - nI 256) = nI (tkM (if b.val = 40 then 4 else if b.val = 41 then 5 else if b.val = 59 then 3 else 6)) := by decide +kernel
  obtain ⟨h1, h2⟩ := this ⟨b, hb⟩
  exact ⟨_, by split <;> (try split) <;> (try split) <;> omega, by split <;> (try split) <;> (try split) <;> omega, h1, h2⟩
/-- a number of at most three digits -/
theorem nv_3 {g g' : Nat → Int32} {y n : Nat} (hn : n ≤ 3) (hd : ∀ i, y ≤ i → i < y + n → g' i = g i ∧ ∃ d : Nat, d < 10 ∧ g i = nI (48 + d)) : ∃ v : Nat, v ≤ 999 ∧ nv g n y 0 = nI v ∧ mnv g' y n y 0 = nI v ∧ (10 ≤ v → 2 ≤ n) := by
  have st : ∀ v d : Nat, nI v * 10 + nI (48 + d) - 48 = nI (10 * v + d) := fun v d => by
    rw [show (10 : Int32) = nI 10 from rfl, show (48 : Int32) = nI 48 from rfl, nI_mul, nI_add, nI_sub (by omega)]
    congr 1; omega
  have sm : ∀ v d : Nat, 10 * nI v + nI (48 + d) - 48 = nI (10 * v + d) := fun v d => by
    rw [show (10 : Int32) = nI 10 from rfl, show (48 : Int32) = nI 48 from rfl, nI_mul, nI_add, nI_sub (by omega)]
    congr 1; omega
  have z0 : (0 : Int32) = nI 0 := rfl
  rcases n with _ | _ | _ | _ | n
  · exact ⟨0, by omega, rfl, rfl, fun h => by omega⟩
  · obtain ⟨e1, d1, l1, f1⟩ := hd y (by omega) (by omega)
    refine ⟨10 * 0 + d1, by omega, ?_, ?_, fun h => by omega⟩
    · show (0 : Int32) * 10 + g y - 48 = _
      rw [f1, z0, st]
    · show (if y - y < 3 then 10 * (0 : Int32) + g' y - 48 else 0) = _
      rw [if_pos (by omega), e1, f1, z0, sm]
  · obtain ⟨e1, d1, l1, f1⟩ := hd y (by omega) (by omega)
    obtain ⟨e2, d2, l2, f2⟩ := hd (y + 1) (by omega) (by omega)
    refine ⟨10 * (10 * 0 + d1) + d2, by omega, ?_, ?_, fun h => by omega⟩
    · show ((0 : Int32) * 10 + g y - 48) * 10 + g (y + 1) - 48 = _
      rw [f1, f2, z0, st, st]
    · show (if y + 1 - y < 3 then 10 * (if y - y < 3 then 10 * (0 : Int32) + g' y - 48 else 0) + g' (y + 1) - 48 else _) = _
      rw [if_pos (by omega), if_pos (by omega), e1, e2, f1, f2, z0, sm, sm]
  · obtain ⟨e1, d1, l1, f1⟩ := hd y (by omega) (by omega)
    obtain ⟨e2, d2, l2, f2⟩ := hd (y + 1) (by omega) (by omega)
    obtain ⟨e3, d3, l3, f3⟩ := hd (y + 1 + 1) (by omega) (by omega)
    refine ⟨10 * (10 * (10 * 0 + d1) + d2) + d3, by omega, ?_, ?_, fun h => by omega⟩
    · show (((0 : Int32) * 10 + g y - 48) * 10 + g (y + 1) - 48) * 10 + g (y + 1 + 1) - 48 = _
      rw [f1, f2, f3, z0, st, st, st]
    · show (if y + 1 + 1 - y < 3 then 10 * (if y + 1 - y < 3 then 10 * (if y - y < 3 then 10 * (0 : Int32) + g' y - 48 else 0) + g' (y + 1) - 48 else _) + g' (y + 1 + 1) - 48 else _) = _
      rw [if_pos (by omega), if_pos (by omega), if_pos (by omega), e1, e2, e3, f1, f2, f3, z0, sm, sm, sm]
  · omega
