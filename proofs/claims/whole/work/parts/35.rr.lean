/-! the whole relation; what may be asked -/
def BYt (x y : Int32) : Prop := ∃ b : Nat, b < 256 ∧ x = nI b ∧ y = (if b < 128 then nI b else nI b - nI 256)
def RIn (I J : JI) (c m : Nat) : Prop := ∃ n : Nat, n ≤ 500 ∧ I (c + 2) 1 = nI n ∧ J m 9 = nI n ∧ ∀ k, k < n → BYt (I (c + 3) k) (J (m + 6) k)
def ROut (I J : JI) (c m : Nat) : Prop := ∃ n : Nat, n ≤ 500 ∧ I (c + 28) 1 = nI n ∧ J m 22 = nI n ∧ ∀ k, k < n → I (c + 29) k = J (m + 10) k
def ringS (c x u i : Nat) : Nat := c + 32 + 7 * ((x + 8 - u + i) % 8)
def RHist (I J : JI) (c L m H W C P : Nat) : Prop := ∃ u x : Nat, u ≤ 8 ∧ x < 8 ∧ I (c + 30) 2 = nI u ∧ I (c + 30) 1 = nI x ∧ J m 7 = nI u ∧ ∀ i, i < u → RPart I (L + 5) (fun k => J (m + 3) (2030 * i + k)) ∧ ∃ R, KR I L (ringS c x u i) (fun k => J (m + 3) (2030 * i + k)) H W C P R
def RSlot (I J : JI) (s L m i H W C P : Nat) : Prop := ∃ b : Bool, I s 1 = zb b ∧ J (m + 5) i = zb b ∧ (b = true → RPart I (L + 5) (fun k => J (m + 4) (2030 * i + k)) ∧ ∃ R, KR I L (s + 1) (fun k => J (m + 4) (2030 * i + k)) H W C P R)
def RLd (I J : JI) (c L m H W C P R : Nat) : Prop := (I c 6 = 1 ∧ J m 6 = 1) ∧ KR I L (L + 10) (J (m + 1)) H W C P R ∧ 0 < W ∧ RPart I (L + 5) (J (m + 1)) ∧ RHist I J c L m H W C P ∧ RSlot I J (c + 88) L m 0 H W C P ∧ RSlot I J (c + 96) L m 1 H W C P
def RNl (I J : JI) (c m : Nat) : Prop := (I c 6 = 0 ∧ J m 6 = 0) ∧ I (c + 30) 2 = 0 ∧ (∃ x : Nat, x < 8 ∧ I (c + 30) 1 = nI x) ∧ J m 7 = 0 ∧ (I (c + 88) 1 = 0 ∧ J (m + 5) 0 = 0) ∧ (I (c + 96) 1 = 0 ∧ J (m + 5) 1 = 0)
def RErr (I J : JI) (c m : Nat) : Prop := J m 10 = I (c + 1) 2 ∧ J m 11 = I (c + 1) 3
def RR (I J : JI) (c L m : Nat) : Prop := RIn I J c m ∧ ROut I J c m ∧ RErr I J c m ∧ (RNl I J c m ∨ ∃ H W C P R, RLd I J c L m H W C P R)
/-- which of the exceptions named it is -/
def ThN (Es : List String) (E : String) (t : Int32) : Prop := ∃ i : Nat, Es[i]? = some E ∧ t = nI (i + 1)
def Res {α : Type} (Es : List String) (o : α ⊕ String) (v : α) (t : Int32) : Prop := match o with
  | .inl x => t = 0 ∧ x = v
  | .inr E => ThN Es E t
def Eqv {α : Type} (c L m : Nat) (Es : List String) (cl : Option ((α ⊕ String) × JI)) (mo : Option (α × JI)) : Prop := ∃ (o : α ⊕ String) (I' : JI) (v : α) (J' : JI), cl = some (o, I') ∧ mo = some (v, J') ∧ Res Es o v (J' m 0) ∧ RR I' J' c L m
def eIS : String := "java/lang/IllegalStateException"
def eIX : String := "java/lang/IndexOutOfBoundsException"
def eIA : String := "java/lang/IllegalArgumentException"
/-! the field of what was thrown changes nothing -/
section RRB
variable {I J : JI} {c L m : Nat}
theorem st0 {t : Int32} {z k : Nat} (h : z ≠ m ∨ k ≠ 0) : stI J m 0 t z k = J z k := by
  rcases h with h | h
  · exact stI_o h
  · by_cases q : z = m
    · subst q; exact stI_aj h
    · exact stI_o q
theorem RR_thr (h : RR I J c L m) (t : Int32) : RR I (stI J m 0 t) c L m := by
  have e1 : ∀ j, 0 < j → stI J m 0 t (m + j) = J (m + j) := fun j hj => stI_ne (by omega)
  have e2 : ∀ k, k ≠ 0 → stI J m 0 t m k = J m k := fun k hk => st0 (Or.inr hk)
  unfold RR RIn ROut RErr RNl RLd RHist RSlot at *
  rw [e2 9 (by decide), e2 22 (by decide), e2 10 (by decide), e2 11 (by decide), e2 6 (by decide), e2 7 (by decide), e1 6 (by decide), e1 10 (by decide), e1 5 (by decide), e1 1 (by decide), e1 3 (by decide), e1 4 (by decide)]
  exact h
/-- loaded: what is known -/
theorem RR_ld (h : RR I J c L m) : (I c 6 = 0 ∧ J m 6 = 0) ∨ (I c 6 = 1 ∧ J m 6 = 1 ∧ ∃ H W C P R, RLd I J c L m H W C P R) := by
  obtain ⟨-, -, -, h | ⟨H, W, C, P, R, h⟩⟩ := h
  · exact Or.inl h.1
  · exact Or.inr ⟨h.1.1, h.1.2, H, W, C, P, R, h⟩
def inR (x : Int32) (n : Nat) : Prop := ∃ k, k < n ∧ x = nI k
theorem inR_iff {x : Int32} {n : Nat} (hn : n < 2 ^ 31) : inR x n ↔ 0 ≤ x ∧ x < nI n := by
  constructor
  · rintro ⟨k, hk, rfl⟩
    exact ⟨nI_pos' (by omega), nI_lt hk hn⟩
  · rintro ⟨h1, h2⟩
    obtain ⟨j, j1, j2⟩ := nI_of (Int32.not_lt.mpr h1)
    subst j2
    exact ⟨j, (nI_ltI j1 hn).mp h2, rfl⟩
theorem min_iff {x : Int32} {n : Nat} (hn : n < 2 ^ 31) : s_X9_in x 0 (nI n - 1) = true ↔ inR x n := by
  unfold s_X9_in
  cases n with
  | zero =>
    constructor
    · intro h
      split at h
      · cases h
      · split at h
        · cases h
        · rename_i h1 h2
          exfalso
          have h3 : x ≤ nI 0 - 1 := Int32.not_lt.mp h2
          have h4 : (0 : Int32) ≤ x := Int32.not_lt.mp h1
          have h5 : (0 : Int32) ≤ nI 0 - 1 := Int32.le_trans h4 h3
          exact absurd h5 (by decide)
    · rintro ⟨k, hk, -⟩; omega
  | succ n =>
    rw [nI_pred]
    constructor
    · intro h
      split at h
      · cases h
      · split at h
        · cases h
        · rename_i h1 h2
          obtain ⟨j, j1, j2⟩ := nI_of h1
          subst j2
          have := (nI_leI j1 (by omega)).mp (Int32.not_lt.mp h2)
          exact ⟨j, by omega, rfl⟩
    · rintro ⟨k, hk, rfl⟩
      rw [if_neg (nI_pos (by omega)), if_neg (nI_nlt (by omega) (by omega))]
theorem x_idx {x : Int32} {n : Nat} (hn : n < 2 ^ 31) : (inR x n ∧ s_X8_requireIndex I x (nI n) = some (.inl (), I)) ∨ (¬ inR x n ∧ s_X8_requireIndex I x (nI n) = some (.inr eIX, I)) := by
  unfold s_X8_requireIndex
  by_cases h1 : x < 0
  · rw [if_pos h1]
    exact Or.inr ⟨fun q => absurd ((inR_iff hn).mp q).1 (Int32.not_le.mpr h1), rfl⟩
  · rw [if_neg h1]
    by_cases h2 : x < nI n
    · rw [if_pos h2]
      exact Or.inl ⟨(inR_iff hn).mpr ⟨Int32.not_lt.mp h1, h2⟩, rfl⟩
    · rw [if_neg h2]
      exact Or.inr ⟨fun q => h2 ((inR_iff hn).mp q).2, rfl⟩
theorem x_ld0 {P : Nat} (h : I c 6 = 0) : s_X8_requireLoaded I c L P = some (.inr eIS, I) := by
  unfold s_X8_requireLoaded
  rw [h, gd_i (Or.inl rfl)]
  rfl
theorem x_ld1 {P : Nat} (h : I c 6 = 1) : s_X8_requireLoaded I c L P = some (.inl (), I) := by
  unfold s_X8_requireLoaded
  rw [h, gd_i (Or.inr rfl)]
  rfl
theorem bx_l {α β : Type} (v : α) (I1 : JI) (k : α → JI → Option ((β ⊕ String) × JI)) : bx (some (.inl v, I1)) k = k v I1 := rfl
theorem bx_r {α β : Type} (E : String) (I1 : JI) (k : α → JI → Option ((β ⊕ String) × JI)) : bx (some (.inr E, I1)) k = some (.inr E, I1) := rfl
theorem m_may (a b d : Bool) : s_X9_may J m a b d = some (a && b && d, stI J m 0 (if a = false then 1 else if b = false then 2 else if d = false then 3 else 0)) := by
  unfold s_X9_may
  cases a <;> cases b <;> cases d <;> simp [lx_s, stI_at]
theorem m_may2 (a b : Bool) : s_X9_mayTwo J m a b = some (a && b, stI J m 0 (if a = false then 1 else if b = false then 2 else 0)) := by
  unfold s_X9_mayTwo
  rw [m_may, bd2_some, Bool.and_true]
  cases a <;> cases b <;> rfl
theorem nz0 : nz 0 = false := rfl
theorem nz1 : nz 1 = true := rfl
theorem tA {E : String} {l : List String} : ThN (E :: l) E 1 := ⟨0, rfl, rfl⟩
theorem tB {E F : String} {l : List String} : ThN (F :: E :: l) E 2 := ⟨1, rfl, rfl⟩
theorem tC {E F G : String} {l : List String} : ThN (F :: G :: E :: l) E 3 := ⟨2, rfl, rfl⟩
/-- a call that both refuse -/
theorem Eqv_ref {α : Type} {Es : List String} {E : String} {t : Int32} {v : α} {cl : Option ((α ⊕ String) × JI)} {mo : Option (α × JI)} (h : RR I J c L m) (e1 : cl = some (.inr E, I)) (e2 : mo = some (v, stI J m 0 t)) (e3 : ThN Es E t) : Eqv c L m Es cl mo :=
  ⟨.inr E, I, v, stI J m 0 t, e1, e2, by rw [stI_at]; exact e3, RR_thr h t⟩
/-- a call that both answer, and nothing else changes -/
theorem Eqv_ok {α : Type} {Es : List String} {v : α} {cl : Option ((α ⊕ String) × JI)} {mo : Option (α × JI)} (h : RR I J c L m) (e1 : cl = some (.inl v, I)) (e2 : mo = some (v, stI J m 0 0)) : Eqv c L m Es cl mo :=
  ⟨.inl v, I, v, stI J m 0 0, e1, e2, ⟨stI_at, rfl⟩, RR_thr h 0⟩
end RRB
