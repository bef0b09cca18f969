/-! pure pieces: from the proof of the whole law -/
section PURE
variable {I : JI} {s L : Nat}
theorem wmF_bt {hw : Nat → Int32} {set : Int32} {H : Nat} : ∀ (W : Nat), W ≤ 24 → (∀ w, w < W → ∃ k, k < 32 ∧ hw w = nI k) → LB W (wmF hw set W) ∧ ∀ w, w < W → bt (wmF hw set W) w = bt set (hw w).toNatClampNeg := by
  intro W
  induction W with
  | zero => intro _ _; exact ⟨LB.zero 0, fun w hw => absurd hw (Nat.not_lt_zero w)⟩
  | succ W ih =>
    intro hW hh
    obtain ⟨i1, i2⟩ := ih (by omega) fun w hw => hh w (by omega)
    obtain ⟨k, k1, k2⟩ := hh W (by omega)
    unfold wmF
    rw [atF_nI (by omega) (by omega), k2, hasB_bt k1]
    by_cases q : bt set k = true
    · rw [if_pos q]
      refine ⟨(i1.mono (by omega)).or (LB.shl (by omega) (by omega)), fun w hw => ?_⟩
      rw [bt_or, bt_shl (by omega) (by omega)]
      by_cases e : w = W
      · subst e; rw [k2, cl_nI (by omega), q]; simp
      · rw [i2 w (by omega), decide_eq_false e, Bool.or_false]
    · rw [if_neg q]
      refine ⟨i1.mono (by omega), fun w hw => ?_⟩
      by_cases e : w = W
      · subst e; rw [k2, cl_nI (by omega), i1 _ (Nat.le_refl _)]; simp at q; exact q.symm
      · exact i2 w (by omega)
theorem cntB_full {p : Nat → Bool} : ∀ (n : Nat), cntB p n = n ↔ ∀ k, k < n → p k = true := by
  intro n
  induction n with
  | zero => exact ⟨fun _ k hk => absurd hk (Nat.not_lt_zero k), fun _ => rfl⟩
  | succ n ih =>
    have hl := cntB_le p n
    have e : cntB p (n + 1) = cntB p n + (if p n = true then 1 else 0) := rfl
    constructor
    · intro h k hk
      rw [e] at h
      by_cases q : p n = true
      · rw [if_pos q] at h
        by_cases e2 : k = n
        · subst e2; exact q
        · exact ih.mp (by omega) k (by omega)
      · rw [if_neg q] at h; omega
    · intro h
      rw [e, h n (by omega), if_pos rfl, ih.mpr fun k hk => h k (by omega)]
theorem nI_cnt (p : Nat → Bool) (j : Nat) : nI (cntB p j) + zb (p j) = nI (cntB p (j + 1)) := by
  rw [show cntB p (j + 1) = cntB p j + (if p j = true then 1 else 0) from rfl]
  cases p j
  · exact Int32.add_zero _
  · exact nI_1 _
theorem cpA_o {a b n z j : Nat} (h : z ≠ b) : cpA I a b n z j = I z j := congrFun (fr_cpA h) j
theorem cpA_at {a b n j : Nat} (h : j < n) : cpA I a b n b j = I a j := by unfold cpA; rw [if_pos rfl, if_pos h]
theorem cf1_at {o j : Nat} : cf1 I s o j s j = I o j := stI_at
theorem cf1_o {o j z i : Nat} (h : z ≠ s ∨ i ≠ j) : cf1 I s o j z i = I z i := by
  unfold cf1
  rcases h with h | h
  · exact stI_o h
  · by_cases e : z = s
    · subst e; exact stI_aj h
    · exact stI_o e
theorem copy_s {k : Nat} (hd : k + 7 ≤ s ∨ s + 7 ≤ k) {j : Nat} (hj : j ≤ 5) : x7_copyFrom I k s k j = I s j := by
  unfold x7_copyFrom
  rw [cpA_o (by omega), cpA_o (by omega), cpA_o (by omega), cpA_o (by omega), cpA_o (by omega), cpA_o (by omega)]
  have hns : s ≠ k := by omega
  by_cases e5 : j = 5
  · subst e5; rw [cf1_at, cf1_o (Or.inl hns), cf1_o (Or.inl hns), cf1_o (Or.inl hns), cf1_o (Or.inl hns), cf1_o (Or.inl hns)]
  · rw [cf1_o (Or.inr e5)]
    by_cases e4 : j = 4
    · subst e4; rw [cf1_at, cf1_o (Or.inl hns), cf1_o (Or.inl hns), cf1_o (Or.inl hns), cf1_o (Or.inl hns)]
    · rw [cf1_o (Or.inr e4)]
      by_cases e3 : j = 3
      · subst e3; rw [cf1_at, cf1_o (Or.inl hns), cf1_o (Or.inl hns), cf1_o (Or.inl hns)]
      · rw [cf1_o (Or.inr e3)]
        by_cases e2 : j = 2
        · subst e2; rw [cf1_at, cf1_o (Or.inl hns), cf1_o (Or.inl hns)]
        · rw [cf1_o (Or.inr e2)]
          by_cases e1 : j = 1
          · subst e1; rw [cf1_at, cf1_o (Or.inl hns)]
          · rw [cf1_o (Or.inr e1)]
            have : j = 0 := by omega
            subst this
            rw [cf1_at]
theorem copy_a {k : Nat} (hd : k + 7 ≤ s ∨ s + 7 ≤ k) : (∀ j, j < 8 → x7_copyFrom I k s (k + 1) j = I (s + 1) j) ∧ (∀ j, j < 6 → x7_copyFrom I k s (k + 2) j = I (s + 2) j) ∧ (∀ j, j < 12 → x7_copyFrom I k s (k + 3) j = I (s + 3) j) ∧ (∀ j, j < 12 → x7_copyFrom I k s (k + 4) j = I (s + 4) j) ∧ (∀ j, j < 60 → x7_copyFrom I k s (k + 5) j = I (s + 5) j) ∧ (∀ j, j < 60 → x7_copyFrom I k s (k + 6) j = I (s + 6) j) := by
  unfold x7_copyFrom
  refine ⟨fun j hj => ?_, fun j hj => ?_, fun j hj => ?_, fun j hj => ?_, fun j hj => ?_, fun j hj => ?_⟩
  · rw [cpA_o (by omega), cpA_o (by omega), cpA_o (by omega), cpA_o (by omega), cpA_o (by omega), cpA_at hj, cf1_o (by omega), cf1_o (by omega), cf1_o (by omega), cf1_o (by omega), cf1_o (by omega), cf1_o (by omega)]
  · rw [cpA_o (by omega), cpA_o (by omega), cpA_o (by omega), cpA_o (by omega), cpA_at hj, cpA_o (by omega), cf1_o (by omega), cf1_o (by omega), cf1_o (by omega), cf1_o (by omega), cf1_o (by omega), cf1_o (by omega)]
  · rw [cpA_o (by omega), cpA_o (by omega), cpA_o (by omega), cpA_at hj, cpA_o (by omega), cpA_o (by omega), cf1_o (by omega), cf1_o (by omega), cf1_o (by omega), cf1_o (by omega), cf1_o (by omega), cf1_o (by omega)]
  · rw [cpA_o (by omega), cpA_o (by omega), cpA_at hj, cpA_o (by omega), cpA_o (by omega), cpA_o (by omega), cf1_o (by omega), cf1_o (by omega), cf1_o (by omega), cf1_o (by omega), cf1_o (by omega), cf1_o (by omega)]
  · rw [cpA_o (by omega), cpA_at hj, cpA_o (by omega), cpA_o (by omega), cpA_o (by omega), cpA_o (by omega), cf1_o (by omega), cf1_o (by omega), cf1_o (by omega), cf1_o (by omega), cf1_o (by omega), cf1_o (by omega)]
  · rw [cpA_at hj, cpA_o (by omega), cpA_o (by omega), cpA_o (by omega), cpA_o (by omega), cpA_o (by omega), cf1_o (by omega), cf1_o (by omega), cf1_o (by omega), cf1_o (by omega), cf1_o (by omega), cf1_o (by omega)]
theorem stI_comm {I : JI} {a k b j : Nat} {v w : Int32} (h : a ≠ b ∨ k ≠ j) : stI (stI I a k v) b j w = stI (stI I b j w) a k v := by
  funext x y
  unfold stI
  by_cases h1 : x = b
  · subst h1
    by_cases h2 : x = a
    · subst h2
      by_cases h3 : y = j
      · subst h3
        have : ¬ y = k := fun e => by rcases h with h | h <;> simp_all
        simp [this]
      · simp [h3]
    · simp [h2]
  · simp [h1]
theorem stI_same {I : JI} {a k : Nat} {v w : Int32} : stI (stI I a k v) a k w = stI I a k w := by
  funext x y
  unfold stI
  by_cases h1 : x = a
  · by_cases h2 : y = k
    · simp [h1, h2]
    · simp [h1, h2]
  · simp [h1]
theorem stI_id {I : JI} {a k : Nat} : stI I a k (I a k) = I := by
  funext x y
  unfold stI
  by_cases h1 : x = a
  · by_cases h2 : y = k
    · simp [h1, h2]
    · simp [h1, h2]
  · simp [h1]
theorem cwF_cnt {I : JI} {L : Nat} : ∀ n, cwF I L n = nI (cntB (fun j => dfD I L (nI j)) n) := by
  intro n
  induction n with
  | zero => rfl
  | succ n ih =>
    rw [← nI_cnt, ← ih]
    show (if dfD I L (nI n) = true then cwF I L n + 1 else cwF I L n) = _
    cases dfD I L (nI n)
    · exact (Int32.add_zero _).symm
    · rfl
theorem one_bt {x : Int32} {j k : Nat} (hj : j < 32) (hk : k < 32) : bt (x ^^^ ((1 : Int32) <<< (nI k &&& 31))) j = (bt x j ^^ decide (j = k)) := by rw [bt_xor, bt_shl hk hj]
theorem or_bt {x : Int32} {j k : Nat} (hj : j < 32) (hk : k < 32) : bt (x ||| ((1 : Int32) <<< (nI k &&& 31))) j = (bt x j || decide (j = k)) := by rw [bt_or, bt_shl hk hj]
end PURE
