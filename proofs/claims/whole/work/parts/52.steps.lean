/-! once a fault is told, the reference does nothing more -/
def EM (J : JI) (m : Nat) : Prop := ∃ e : Nat, (1 ≤ e ∧ e ≤ 4) ∧ J m 10 = nI e
section ERM
variable {J : JI} {m : Nat}
theorem EM.le (h : EM J m) : ¬ J m 10 ≤ 0 := by
  obtain ⟨e, e1, e3⟩ := h
  rw [e3]; exact nI_nle (by omega) (by omega)
theorem EM.ne (h : EM J m) : ¬ J m 10 = 0 := by
  obtain ⟨e, e1, e3⟩ := h
  rw [e3]; exact nI_ne0 (by omega) (by omega)
theorem er_goes (h : EM J m) : s_X9_goes J m = some J := by unfold s_X9_goes; rw [if_neg h.le]
theorem er_faults (h : EM J m) (x : Int32) : s_X9_faults J m x = J := by unfold s_X9_faults; rw [if_neg h.le]
theorem er_refuses (h : EM J m) (b : Bool) : s_X9_refuses J m b = J := by unfold s_X9_refuses; rw [if_neg h.ne]
theorem er_limits (h : EM J m) (b : Bool) : s_X9_limits J m b = J := by unfold s_X9_limits; rw [if_neg h.ne]
theorem er_is (h : EM J m) (x : Int32) : s_X9_is J m x = false := by unfold s_X9_is; rw [if_neg h.ne]
theorem er_isWord (h : EM J m) (tx : String) : s_X9_isWord J m tx = some false := by unfold s_X9_isWord; rw [er_is h]; rfl
theorem er_num (h : EM J m) (lo hi : Int32) : s_X9_numberHere J m lo hi = some (lo, J) := by
  unfold s_X9_numberHere
  rw [er_is h, if_neg Bool.false_ne_true, lx_s, er_faults h, if_neg h.le]
theorem er_readNumber (h : EM J m) (lo hi : Int32) : s_X9_readNumber J m lo hi = some (lo, J) := by
  unfold s_X9_readNumber
  rw [er_num h, bd2_some, er_goes h, bd_some]
theorem er_index (h : EM J m) {k : Nat} (hk : k < 2030) : s_X9_indexHere J m (nI k) = some (0, J) := by
  unfold s_X9_indexHere
  rw [gd_in hk (by omega), er_num h, bd2_some]
theorem er_i0 (h : EM J m) : s_X9_indexHere J m 0 = some (0, J) := er_index h (k := 0) (by decide)
theorem er_i2 (h : EM J m) : s_X9_indexHere J m 2 = some (0, J) := er_index h (k := 2) (by decide)
theorem er_i3 (h : EM J m) : s_X9_indexHere J m 3 = some (0, J) := er_index h (k := 3) (by decide)
theorem er_r0 (h : EM J m) : s_X9_readIndex J m 0 = some (0, J) := by
  unfold s_X9_readIndex
  rw [er_i0 h, bd2_some, er_goes h, bd_some]
theorem er_r3 (h : EM J m) : s_X9_readIndex J m 3 = some (0, J) := by
  unfold s_X9_readIndex
  rw [er_i3 h, bd2_some, er_goes h, bd_some]
theorem er_colour (h : EM J m) : s_X9_readColour J m = some (0, J) := by
  unfold s_X9_readColour
  rw [er_is h, if_neg Bool.false_ne_true, lx_s, er_faults h, er_goes h, bd_some]
end ERM
/-! the size of the input stays -/
theorem sz_w {a : Nat} : ∀ (f : Nat) (I I' : JI), s_X2_readWord_L0 a f I = some I' → I' a 1 = I a 1 := by
  intro f
  induction f with
  | zero => intro I I' h; cases h
  | succ f ih =>
    intro I I' h
    rw [s_X2_readWord_L0] at h
    split at h
    · cases h; rfl
    · split at h
      · have h2 := ih _ _ h
        rw [h2, stI_aj (by decide)]
      · cases h; rfl
theorem sz_n {a : Nat} : ∀ (f : Nat) (I I' : JI), s_X2_readNumber_L5 a f I = some I' → I' a 1 = I a 1 := by
  intro f
  induction f with
  | zero => intro I I' h; cases h
  | succ f ih =>
    intro I I' h
    rw [s_X2_readNumber_L5] at h
    split at h
    · cases h; rfl
    · split at h
      · have h2 := ih _ _ h
        rw [h2, stI_aj (by decide), stI_aj (by decide)]
      · cases h; rfl
theorem sz_s {a : Nat} : ∀ (f : Nat) (I I' : JI), s_X2_advance_L0 a f I = some I' → I' a 1 = I a 1 := by
  intro f
  induction f with
  | zero => intro I I' h; cases h
  | succ f ih =>
    intro I I' h
    rw [s_X2_advance_L0] at h
    split at h
    · cases h; rfl
    · split at h
      · have h2 := ih _ _ h
        rw [h2, stI_aj (by decide)]
      · cases h; rfl
theorem adv_size {I I' : JI} {a : Nat} (h : s_X2_advance I a = some I') : I' a 1 = I a 1 := by
  unfold s_X2_advance at h
  cases h1 : s_X2_advance_L0 a lf I with
  | none => rw [h1] at h; cases h
  | some I4 =>
    have e1 := sz_s _ _ _ h1
    rw [h1, bd_some, lx_s] at h
    have e2 : stI I4 a 5 (I4 a 3) a 1 = I a 1 := by rw [stI_aj (by decide)]; exact e1
    generalize stI I4 a 5 (I4 a 3) = I6 at h e2
    split at h
    · split at h
      · unfold s_X2_readWord at h
        cases h3 : s_X2_readWord_L0 a lf I6 with
        | none => rw [h3] at h; cases h
        | some I7 =>
          have e3 := sz_w _ _ _ h3
          rw [h3, bd_some] at h
          split at h
          · cases h; rw [← e2, ← e3]; exact stI_aj (by decide)
          · cases h; rw [← e2, ← e3]; exact stI_aj (by decide)
      · split at h
        · unfold s_X2_readNumber at h
          rw [lx_s] at h
          cases h3 : s_X2_readNumber_L5 a lf (stI I6 a 6 0) with
          | none => rw [h3] at h; cases h
          | some I7 =>
            have e3 := sz_n _ _ _ h3
            rw [stI_aj (by decide)] at e3
            rw [h3, bd_some] at h
            split at h
            · cases h; rw [← e2, ← e3]; exact stI_aj (by decide)
            · cases h; rw [← e2, ← e3]; exact stI_aj (by decide)
        · cases h
          rw [← e2]
          exact (stI_aj (by decide)).trans (stI_aj (by decide))
    · cases h; rw [← e2]; exact stI_aj (by decide)
/-! steps of both -/
def CT (I J : JI) (p m : Nat) : Prop := I p 2 = 0 ∧ I p 3 = -1 ∧ J m 10 = 0 ∧ J m 11 = -1 ∧ I (p + 1) 1 = 0
def TS (I J : JI) (p m N k y x : Nat) : Prop := TK I J (p + 1) m N k y x ∧ CT I J p m
def ER (I J : JI) (p m : Nat) : Prop := ∃ e : Nat, (1 ≤ e ∧ e ≤ 4) ∧ I p 2 = nI e ∧ J m 10 = nI e ∧ J m 11 = I p 3 ∧ I (p + 1) 1 = 0
theorem ER.em {I J : JI} {p m : Nat} (h : ER I J p m) : EM J m := by
  obtain ⟨e, e1, -, e3, -⟩ := h
  exact ⟨e, e1, e3⟩
/-- the next token, after one that ends at x -/
def NX (I J I' J' : JI) (p m N k x : Nat) : Prop := ∃ k' y' x', TS I' J' p m N k' y' x' ∧ x ≤ y' ∧ (k = 2 → k' = 2 → x < y') ∧ (∀ z, z ≠ p → z ≠ p + 1 → I' z = I z) ∧ (∀ z, z ≠ m → J' z = J z)
section STP
variable {I J : JI} {p P m N k y x : Nat}
theorem TS.lt (h : TS I J p m N k y x) (hk : k ≠ 0) : y < x := h.1.2.2.1.2.2.2 hk
theorem TS.b (h : TS I J p m N k y x) : N ≤ 500 ∧ x ≤ N ∧ y ≤ x ∧ k ≤ 6 := ⟨h.1.1.1.1, h.1.1.1.2, h.1.2.2.1.2.1, h.1.2.2.1.1⟩
theorem e_adv (h : TS I J p m N k y x) : ∃ I' J', s_X2_advance I (p + 1) = some I' ∧ s_X9_goes J m = some J' ∧ NX I J I' J' p m N k x ∧ I' p = I p := by
  obtain ⟨hk, c1, c2, c3, c4, c5⟩ := h
  obtain ⟨I', J', k', y', x', a, b, t, hx⟩ := e_adv0 hk.1 c3
  have fI : ∀ z, z ≠ p + 1 → I' z = I z := fun z hz => fr_X2_advance a hz
  have fm : ∀ j, j ≠ 13 → j ≠ 14 → j ≠ 15 → j ≠ 16 → J' m j = J m j := fun j h1 h2 h3 h4 => ff_X9_goes b h1 h2 h3 h4
  have ep : I' p = I p := fI p (by omega)
  refine ⟨I', J', a, b, ⟨k', y', x', ⟨t, by rw [ep]; exact c1, by rw [ep]; exact c2, by rw [fm 10 (by decide) (by decide) (by decide) (by decide)]; exact c3, by rw [fm 11 (by decide) (by decide) (by decide) (by decide)]; exact c4, (adv_size a).trans c5⟩, hx, fun k2 k2' => ?_, fun z _ hz => fI z hz, fun z hz => fr_X9_goes b hz⟩, ep⟩
  by_cases e : x = y'
  · exfalso
    obtain ⟨d1, -⟩ := hk.2.2.2.2 k2
    obtain ⟨-, d2, -⟩ := t.2.2.2.2 k2'
    have hy := t.2.2.1.2.2.2 (by omega)
    have hx' := t.1.1.2
    rw [fI (p + 1 + 1) (by omega), ← e, d1 (by omega)] at d2
    cases d2
  · omega
theorem TS_num (h : TS I J p m N k y x) (v : Int32) : TS (stI I p 4 v) J p m N k y x := by
  obtain ⟨⟨⟨a1, ⟨a2, a3, a4, a5⟩, a6⟩, ⟨b1, b2, b3, b4⟩, b5, b6, b7⟩, c1, c2, c3, c4, c5⟩ := h
  have e1 : stI I p 4 v (p + 1) = I (p + 1) := stI_ne (by omega)
  have e2 : stI I p 4 v (p + 1 + 1) = I (p + 1 + 1) := stI_ne (by omega)
  refine ⟨⟨⟨a1, ⟨by rw [e1]; exact a2, by rw [e1]; exact a3, a4, a5⟩, by rw [e2]; exact a6⟩, ⟨by rw [e1]; exact b1, b2, by rw [e1]; exact b3, b4⟩, b5, by rw [e2]; exact b6, by rw [e1, e2]; exact b7⟩, by rw [stI_aj (by decide)]; exact c1, by rw [stI_aj (by decide)]; exact c2, c3, c4, by rw [e1]; exact c5⟩
theorem e_fail (h : TS I J p m N k y x) {e : Nat} (he : 1 ≤ e ∧ e ≤ 4) : ∃ I', s_X5_fail I p P (nI e) = some (false, I') ∧ ER I' (s_X9_faults J m (nI e)) p m := by
  obtain ⟨⟨-, ⟨-, -, b3, b4⟩, -⟩, c1, c2, c3, c4, c5⟩ := h
  refine ⟨_, rfl, e, he, ?_, ?_, ?_, by rw [stI_ne (show p + 1 ≠ p by omega), stI_ne (show p + 1 ≠ p by omega)]; exact c5⟩
  · rw [stI_aj (by decide), stI_at]
  · unfold s_X9_faults
    rw [c3, if_pos (Int32.le_refl 0), lx_s, lx_s, stI_aj (by decide), stI_at]
  · unfold s_X9_faults
    rw [c3, if_pos (Int32.le_refl 0), lx_s, lx_s, stI_at, stI_at, stI_aj (by decide), b4, stI_ne (show p + 1 ≠ p by omega), b3]
theorem e_refuses (h : TS I J p m N k y x) : s_X9_refuses J m true = s_X9_faults J m (nI 3) ∧ s_X9_limits J m true = s_X9_faults J m (nI 4) ∧ s_X9_refuses J m false = J ∧ s_X9_limits J m false = J := by
  have c3 := h.2.2.2.1
  unfold s_X9_refuses s_X9_limits
  rw [c3, if_pos rfl, if_pos rfl, if_pos rfl, if_pos rfl]
  exact ⟨rfl, rfl, rfl, rfl⟩
theorem e_is (h : TS I J p m N k y x) {q : Nat} (hq : q ≤ 6) : s_X9_is J m (nI (tkM q)) = decide (k = q) := by
  have c3 := h.2.2.2.1
  have b2 := h.1.2.1.2.1
  have hk := h.1.2.2.1.1
  unfold s_X9_is
  rw [c3, if_pos rfl, b2]
  have : nI (tkM k) = nI (tkM q) ↔ k = q := by
    rw [nI_eq (by unfold tkM; split <;> omega) (by unfold tkM; split <;> omega)]
    unfold tkM
    split <;> split <;> omega
  by_cases e : k = q
  · rw [if_pos (this.mpr e), decide_eq_true e]
  · rw [if_neg (fun q => e (this.mp q)), decide_eq_false e]
theorem is_digits (h : TS I J p m N k y x) : s_X9_is J m 3 = decide (k = 2) := e_is h (q := 2) (by omega)
theorem is_word (h : TS I J p m N k y x) : s_X9_is J m 2 = decide (k = 1) := e_is h (q := 1) (by omega)
theorem is_end (h : TS I J p m N k y x) : s_X9_is J m 1 = decide (k = 0) := e_is h (q := 0) (by omega)
theorem is_semi (h : TS I J p m N k y x) : s_X9_is J m 4 = decide (k = 3) := e_is h (q := 3) (by omega)
theorem is_opens (h : TS I J p m N k y x) : s_X9_is J m 5 = decide (k = 4) := e_is h (q := 4) (by omega)
theorem is_closes (h : TS I J p m N k y x) : s_X9_is J m 6 = decide (k = 5) := e_is h (q := 5) (by omega)
theorem kind_c (h : TS I J p m N k y x) : I (p + 1) 4 = nI k := h.1.2.1.1
theorem kind_iff (h : TS I J p m N k y x) {q : Nat} (hq : q ≤ 6) : I (p + 1) 4 = nI q ↔ k = q := by
  rw [kind_c h]
  have := h.b
  exact nI_eq (by omega) (by omega)
theorem e_num (h : TS I J p m N k y x) {lo hi : Int32} : (∃ v, k = 2 ∧ v ≤ 999 ∧ (10 ≤ v → y + 2 ≤ x) ∧ ¬ nI v < lo ∧ nI v ≤ hi ∧ s_X5_seeNumber I p P lo hi = some (true, stI I p 4 (nI v)) ∧ s_X9_numberHere J m lo hi = some (nI v, J) ∧ TS (stI I p 4 (nI v)) J p m N k y x) ∨ (∃ I' J', s_X5_seeNumber I p P lo hi = some (false, I') ∧ s_X9_numberHere J m lo hi = some (lo, J') ∧ ER I' J' p m) := by
  have c3 := h.2.2.2.1
  unfold s_X5_seeNumber s_X9_numberHere
  rw [is_digits h]
  by_cases hk : k = 2
  · obtain ⟨-, -, v, v1, v2, v3, v4⟩ := h.1.2.2.2.2 hk
    rw [if_pos (show I (p + 1) 4 = 2 from (kind_iff h (q := 2) (by omega)).mpr hk), lx_s, v2, stI_at, decide_eq_true hk, if_pos rfl, v3]
    have ht := TS_num h (nI v)
    have hf := e_fail (P := P) ht (e := 2) (by omega)
    obtain ⟨I', f1, f2⟩ := hf
    have f1' : s_X5_fail (stI I p 4 (nI v)) p P 2 = some (false, I') := f1
    have f2' : ER I' (s_X9_faults J m 2) p m := f2
    unfold s_X9_in
    by_cases h1 : nI v < lo
    · rw [if_pos h1, f1', bd2_some, if_neg Bool.false_ne_true, if_pos h1, if_neg Bool.false_ne_true, lx_s, if_neg f2'.em.le]
      exact Or.inr ⟨_, _, rfl, rfl, f2'⟩
    · rw [if_neg h1, if_neg h1]
      by_cases h2 : nI v ≤ hi
      · rw [if_pos h2, if_neg (Int32.not_lt.mpr h2), if_pos rfl, c3, if_pos (Int32.le_refl 0)]
        exact Or.inl ⟨v, hk, v1, v4, h1, h2, rfl, rfl, ht⟩
      · rw [if_neg h2, f1', bd2_some, if_neg Bool.false_ne_true, if_pos (Int32.not_le.mp h2), if_neg Bool.false_ne_true, lx_s, if_neg f2'.em.le]
        exact Or.inr ⟨_, _, rfl, rfl, f2'⟩
  · obtain ⟨I', f1, f2⟩ := e_fail (P := P) h (e := 1) (by omega)
    have f1' : s_X5_fail I p P 1 = some (false, I') := f1
    have f2' : ER I' (s_X9_faults J m 1) p m := f2
    rw [if_neg (show ¬ I (p + 1) 4 = 2 from fun q => hk ((kind_iff h (q := 2) (by omega)).mp q)), f1', bd2_some, decide_eq_false hk, if_neg Bool.false_ne_true, lx_s, if_neg f2'.em.le]
    exact Or.inr ⟨_, _, rfl, rfl, f2'⟩
theorem e_take (h : TS I J p m N k y x) {lo hi : Int32} : (∃ v I' J', k = 2 ∧ v ≤ 999 ∧ (10 ≤ v → y + 2 ≤ x) ∧ ¬ nI v < lo ∧ nI v ≤ hi ∧ s_X5_takeNumber I p P lo hi = some (true, I') ∧ s_X9_readNumber J m lo hi = some (nI v, J') ∧ I' p 4 = nI v ∧ NX I J I' J' p m N k x) ∨ (∃ I' J', s_X5_takeNumber I p P lo hi = some (false, I') ∧ s_X9_readNumber J m lo hi = some (lo, J') ∧ ER I' J' p m) := by
  unfold s_X5_takeNumber s_X9_readNumber
  rcases e_num (P := P) h (lo := lo) (hi := hi) with ⟨v, hk, v1, v2, v3, v4, a, b, t⟩ | ⟨I', J', a, b, t⟩
  · obtain ⟨I', J', a2, b2, ⟨k', y', x', n1, n2, n3, n4, n5⟩, e⟩ := e_adv t
    rw [a, b, bd2_some, bd2_some, if_pos rfl, a2, b2, bd_some, bd_some]
    exact Or.inl ⟨v, I', J', hk, v1, v2, v3, v4, rfl, rfl, by rw [e]; exact stI_at, ⟨k', y', x', n1, n2, n3, fun z z1 z2 => (n4 z z1 z2).trans (stI_ne z1), n5⟩⟩
  · rw [a, b, bd2_some, bd2_some, if_neg Bool.false_ne_true, er_goes t.em, bd_some]
    exact Or.inr ⟨I', J', rfl, rfl, t⟩
theorem idx_lt {v n : Nat} (hn : n < 2 ^ 31) (hv : v < 2 ^ 31) (h : nI v ≤ nI n - 1) : v < n := by
  cases n with
  | zero =>
    exfalso
    have : (0 : Int32) ≤ nI 0 - 1 := Int32.le_trans (nI_pos' hv) h
    exact absurd this (by decide)
  | succ n =>
    rw [nI_pred] at h
    have := (nI_leI hv (by omega)).mp h
    omega
/-- an index below n at the token, not yet taken -/
theorem e_idx (h : TS I J p m N k y x) {n q : Nat} {hi : Int32} (hq : q < 2030) (hn : n < 2 ^ 31) (e : J (m + 1) q = nI n) (e2 : hi = nI n - 1) : (∃ v, v < n ∧ k = 2 ∧ v ≤ 999 ∧ (10 ≤ v → y + 2 ≤ x) ∧ s_X5_seeNumber I p P 0 hi = some (true, stI I p 4 (nI v)) ∧ s_X9_indexHere J m (nI q) = some (nI v, J) ∧ TS (stI I p 4 (nI v)) J p m N k y x) ∨ (∃ I' J', s_X5_seeNumber I p P 0 hi = some (false, I') ∧ s_X9_indexHere J m (nI q) = some (0, J') ∧ ER I' J' p m) := by
  subst e2
  unfold s_X9_indexHere
  rw [gd_in hq (by omega), cl_nI (by omega), e]
  rcases e_num (P := P) h (lo := 0) (hi := nI n - 1) with ⟨v, hk, v1, v2, v3, v4, a, b, t⟩ | ⟨I', J', a, b, t⟩
  · rw [b, bd2_some]
    exact Or.inl ⟨v, idx_lt hn (by omega) v4, hk, v1, v2, a, rfl, t⟩
  · rw [b, bd2_some]
    exact Or.inr ⟨I', J', a, rfl, t⟩
theorem e_col (h : TS I J p m N k y x) : (∃ q I' J', q < 6 ∧ y < x ∧ s_X5_takeColour I p P = some (true, I') ∧ s_X9_readColour J m = some (nI q, J') ∧ I' p 4 = nI q ∧ NX I J I' J' p m N k x) ∨ (∃ I' J', s_X5_takeColour I p P = some (false, I') ∧ s_X9_readColour J m = some (0, J') ∧ ER I' J' p m) := by
  unfold s_X5_takeColour s_X9_readColour
  rw [is_word h, lx_s, stI_at]
  have hb := h.b
  have bad : s_X2_colour I (p + 1) = -1 → (∃ I' J', (if s_X2_colour I (p + 1) = -1 then (bd2 (s_X5_fail (stI I p 4 (s_X2_colour I (p + 1))) p P 1) fun z5 I4 => some (z5, I4)) else (bd (s_X2_advance (stI I p 4 (s_X2_colour I (p + 1))) (p + 1)) fun I3 => some (true, I3))) = some (false, I') ∧ J' = s_X9_faults J m 1 ∧ ER I' J' p m) := by
    intro hc
    obtain ⟨I', f1, f2⟩ := e_fail (P := P) (TS_num h (s_X2_colour I (p + 1))) (e := 1) (by omega)
    have f1' : s_X5_fail (stI I p 4 (s_X2_colour I (p + 1))) p P 1 = some (false, I') := f1
    rw [if_pos hc, f1', bd2_some]
    exact ⟨I', _, rfl, rfl, f2⟩
  by_cases hk : k = 1
  · obtain ⟨w1, w2⟩ := h.1.2.2.2.1 hk
    have hyx := h.lt (by omega)
    obtain ⟨⟨-, ⟨i2, i3, j2, j3⟩, hby⟩, ⟨i4, -, i5, j5⟩, -⟩ := h.1
    rw [decide_eq_true hk, if_pos rfl, j3, j5, nI_sub hb.2.2.1]
    have hcol : s_X2_colour I (p + 1) = if x - y = 1 then (if 6 ≤ (I (p + 1 + 1) y) - 97 then -1 else (I (p + 1 + 1) y) - 97) else -1 := by
      unfold s_X2_colour
      rw [i4, hk, if_pos (show nI 1 = 1 from rfl), i3, i5, nI_sub hb.2.2.1, atF_nI (by omega) (by omega)]
      by_cases q : x - y = 1
      · rw [if_pos (show nI (x - y) = 1 by rw [q]; rfl), if_pos q, lx_s]
      · rw [if_neg (show ¬ nI (x - y) = 1 from fun e => q ((nI_eq (a := x - y) (b := 1) (by omega) (by omega)).mp e)), if_neg q]
    by_cases q : x - y = 1
    · rw [if_pos (show nI (x - y) = 1 by rw [q]; rfl), gd_in (by omega) (by omega), cl_nI (by omega)]
      obtain ⟨-, -, -, -, f5⟩ := byt_facts (hby y (by omega))
      obtain ⟨g1, d, d1, d2⟩ := f5 (w2 y (Nat.le_refl y) hyx)
      rw [if_pos q, d2, show nI (97 + d) - 97 = nI d by rw [show (97 : Int32) = nI 97 from rfl, nI_sub (by omega), show 97 + d - 97 = d by omega]] at hcol
      rw [g1, d2]
      by_cases h6 : d < 6
      · rw [if_neg (show ¬ (6 : Int32) ≤ nI d from nI_ge (b := 6) h6 (by omega))] at hcol
        have hin : s_X9_in (nI (97 + d)) 97 102 = true := by
          unfold s_X9_in
          rw [if_neg (show ¬ nI (97 + d) < 97 from nI_nlt (b := 97) (by omega) (by omega)), if_neg (show ¬ (102 : Int32) < nI (97 + d) from nI_nlt (a := 102) (by omega) (by omega))]
        rw [if_pos hin, gd_in (by omega) (by omega), lx_s, show nI (97 + d) - 97 = nI d by rw [show (97 : Int32) = nI 97 from rfl, nI_sub (by omega), show 97 + d - 97 = d by omega]]
        rw [hcol, if_neg (show ¬ nI d = -1 from fun e => by
          have := nI_pos (n := d) (by omega)
          rw [e] at this
          exact this (by decide))]
        obtain ⟨I', J', a2, b2, ⟨k', y', x', n1, n2, n3, n4, n5⟩, e⟩ := e_adv (TS_num h (nI d))
        rw [a2, b2, bd_some, bd_some]
        exact Or.inl ⟨d, I', J', h6, hyx, rfl, rfl, by rw [e]; exact stI_at, ⟨k', y', x', n1, n2, n3, fun z z1 z2 => (n4 z z1 z2).trans (stI_ne z1), n5⟩⟩
      · rw [if_pos (show (6 : Int32) ≤ nI d from nI_le (a := 6) (by omega) (by omega))] at hcol
        have hin : s_X9_in (nI (97 + d)) 97 102 = false := by
          unfold s_X9_in
          rw [if_neg (show ¬ nI (97 + d) < 97 from nI_nlt (b := 97) (by omega) (by omega)), if_pos (show (102 : Int32) < nI (97 + d) from nI_lt (a := 102) (by omega) (by omega))]
        obtain ⟨I', J', f1, rfl, f2⟩ := bad hcol
        rw [f1, hin, if_neg Bool.false_ne_true, lx_s, er_goes f2.em, bd_some]
        exact Or.inr ⟨I', _, rfl, rfl, f2⟩
    · rw [if_neg (show ¬ nI (x - y) = 1 from fun e => q ((nI_eq (a := x - y) (b := 1) (by omega) (by omega)).mp e))]
      rw [if_neg q] at hcol
      obtain ⟨I', J', f1, rfl, f2⟩ := bad hcol
      rw [f1, lx_s, er_goes f2.em, bd_some]
      exact Or.inr ⟨I', _, rfl, rfl, f2⟩
  · have hcol : s_X2_colour I (p + 1) = -1 := by
      unfold s_X2_colour
      rw [if_neg (show ¬ I (p + 1) 4 = 1 from fun q => hk ((kind_iff h (q := 1) (by omega)).mp q))]
    obtain ⟨I', J', f1, rfl, f2⟩ := bad hcol
    rw [f1, decide_eq_false hk, if_neg Bool.false_ne_true, lx_s, er_goes f2.em, bd_some]
    exact Or.inr ⟨I', _, rfl, rfl, f2⟩
theorem l_word (h : TS I J p m N k y x) {tx : String} (ha : asc tx) (hl : tx.toList.length = x - y) (hw : ∀ i, y ≤ i → i < x → s_X2_isLetter (I (p + 1 + 1) i) = true) : ∀ d f j, j + d = x - y → d < f → ∃ r : Bool, s_X2_isWord_L28 I (p + 1) tx f (nI j) = some (if r = true then .inr (nI (x - y)) else .inl false) ∧ s_X9_isWord_L28 J m tx f (nI j) = some (if r = true then .inr (nI (x - y)) else .inl false) := by
  have hb := h.b
  obtain ⟨⟨-, ⟨i2, i3, j2, j3⟩, hby⟩, ⟨i4, -, i5, j5⟩, -⟩ := h.1
  intro d
  induction d with
  | zero =>
    intro f j hj hf
    obtain ⟨f, rfl⟩ : ∃ g, f = g + 1 := ⟨f - 1, by omega⟩
    have : j = x - y := by omega
    subst this
    refine ⟨true, ?_, ?_⟩
    · rw [s_X2_isWord_L28, hl, if_pos (show Int32.ofNat (x - y) ≤ nI (x - y) from Int32.le_refl _), if_pos rfl]
    · rw [s_X9_isWord_L28, hl, if_pos (show Int32.ofNat (x - y) ≤ nI (x - y) from Int32.le_refl _), if_pos rfl]
  | succ d ih =>
    intro f j hj hf
    obtain ⟨f, rfl⟩ : ∃ g, f = g + 1 := ⟨f - 1, by omega⟩
    obtain ⟨r, r1, r2⟩ := ih f (j + 1) (by omega) (by omega)
    obtain ⟨-, -, -, -, f5⟩ := byt_facts (hby (y + j) (by omega))
    obtain ⟨g1, -⟩ := f5 (hw (y + j) (by omega) (by omega))
    have c1 : s_X2_isWord_L28 I (p + 1) tx (f + 1) (nI j) = if I (p + 1 + 1) (y + j) = chE tx j then s_X2_isWord_L28 I (p + 1) tx f (nI (j + 1)) else some (.inl false) := by
      rw [s_X2_isWord_L28, hl, if_neg (show ¬ Int32.ofNat (x - y) ≤ nI j from nI_ge (by omega) (by omega)), gd_i ⟨ha, vp_nI (by omega) (by omega), by omega⟩, i5, nI_add, atF_nI (by omega) (by omega), cl_nI (by omega), nI_1]
    have c2 : s_X9_isWord_L28 J m tx (f + 1) (nI j) = if I (p + 1 + 1) (y + j) = chE tx j then s_X9_isWord_L28 J m tx f (nI (j + 1)) else some (.inl false) := by
      rw [s_X9_isWord_L28, hl, if_neg (show ¬ Int32.ofNat (x - y) ≤ nI j from nI_ge (by omega) (by omega)), j5, nI_add, gd_in (by omega) (by omega), gd_i ⟨ha, vp_nI (by omega) (by omega), by omega⟩, cl_nI (by omega), cl_nI (by omega), g1, nI_1]
    by_cases q : I (p + 1 + 1) (y + j) = chE tx j
    · exact ⟨r, by rw [c1, if_pos q]; exact r1, by rw [c2, if_pos q]; exact r2⟩
    · exact ⟨false, by rw [c1, if_neg q, if_neg Bool.false_ne_true], by rw [c2, if_neg q, if_neg Bool.false_ne_true]⟩
theorem e_word (h : TS I J p m N k y x) {tx : String} {n : Nat} (ha : asc tx) (hn : tx.toList.length = n) (hn7 : n ≤ 7) : ∃ b : Bool, s_X2_isWord I (p + 1) tx = some b ∧ s_X9_isWord J m tx = some b ∧ (b = true → k = 1 ∧ x = y + n) := by
  have hb := h.b
  unfold s_X2_isWord s_X9_isWord
  rw [is_word h]
  by_cases hk : k = 1
  · obtain ⟨w1, w2⟩ := h.1.2.2.2.1 hk
    have hyx := h.lt (by omega)
    have l := l_word h ha
    obtain ⟨⟨-, ⟨i2, i3, j2, j3⟩, hby⟩, ⟨i4, -, i5, j5⟩, -⟩ := h.1
    rw [i4, hk, if_pos (show nI 1 = 1 from rfl), decide_eq_true rfl, if_pos rfl, i3, i5, j3, j5, nI_sub hb.2.2.1]
    by_cases q : x - y = n
    · obtain ⟨r, r1, r2⟩ := l (by omega) w2 (x - y) lf 0 (by omega) (by unfold lf; omega)
      have r1' : s_X2_isWord_L28 I (p + 1) tx lf 0 = _ := r1
      have r2' : s_X9_isWord_L28 J m tx lf 0 = _ := r2
      rw [hn, if_pos (show nI (x - y) = Int32.ofNat n by rw [q]; rfl), if_pos (show nI (x - y) = Int32.ofNat n by rw [q]; rfl), r1', r2']
      cases r
      · rw [if_neg Bool.false_ne_true, bl_inl]
        exact ⟨false, rfl, rfl, fun h => by cases h⟩
      · rw [if_pos rfl, bl_inr]
        exact ⟨true, rfl, rfl, fun _ => ⟨rfl, by omega⟩⟩
    · have e : ¬ nI (x - y) = Int32.ofNat n := fun e => q ((nI_eq (by omega) (by omega)).mp e)
      rw [hn, if_neg e, if_neg e]
      exact ⟨false, rfl, rfl, fun h => by cases h⟩
  · rw [if_neg (show ¬ I (p + 1) 4 = 1 from fun q => hk ((kind_iff h (q := 1) (by omega)).mp q)), decide_eq_false hk, if_neg Bool.false_ne_true]
    exact ⟨false, rfl, rfl, fun h => by cases h⟩
end STP
theorem asc_loom : asc "loom" ∧ "loom".toList.length = 4 := by unfold asc; decide +kernel
