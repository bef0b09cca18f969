/-! a quotient of two whole numbers is a number -/
section FPN

theorem enc_rr (f : Jvm.FP.Core.Fmt) (K T D : Nat) (hT : f.tails = T) (hT0 : 0 < T) (hp : 2 ^ f.p = 2 * T) (hE : f.exps = K + 2) (hq : (f.qmax - f.qmin).toNat + 1 ≤ K) (num den : Nat) (e : Int) : Jvm.FP.Core.encode f (Jvm.FP.Core.roundRatio f false num den e) ≤ (K + 1) * T := by
  have ha : ∀ e t : Nat, Jvm.FP.Core.assemble f false e t = e * T + t := by
    intro e t
    unfold Jvm.FP.Core.assemble
    rw [hT]
    simp
  have hb : ∀ (c : Nat) (q : Int), c < 2 ^ f.p → f.qmin ≤ q → Jvm.FP.Core.encode f (Jvm.FP.Core.bound f false c q) ≤ (K + 1) * T := by
    intro c q hc hq1
    unfold Jvm.FP.Core.bound
    split
    · rename_i h2
      show (if c < f.tails then Jvm.FP.Core.assemble f false 0 c else Jvm.FP.Core.assemble f false ((q - f.qmin).toNat + 1) (c - f.tails)) ≤ _
      rw [hT]
      split
      · rw [ha]
        have : T ≤ (K + 1) * T := Nat.le_mul_of_pos_left T (by omega)
        omega
      · rw [ha]
        rw [hp] at hc
        have h3 : (q - f.qmin).toNat + 1 ≤ K := by omega
        have h4 := Nat.mul_le_mul_right T h3
        have h5 : (K + 1) * T = K * T + T := by rw [Nat.add_mul, Nat.one_mul]
        rw [h5]
        omega
    · show Jvm.FP.Core.assemble f false (f.exps - 1) 0 ≤ _
      rw [ha, hE]
      show (K + 1) * T + 0 ≤ _
      omega
  unfold Jvm.FP.Core.roundRatio
  split
  · show (if 0 < f.tails then Jvm.FP.Core.assemble f false 0 0 else _) ≤ _
    rw [hT, if_pos hT0, ha]
    omega
  · unfold Jvm.FP.Core.roundAt
    have hqm : f.qmin ≤ Jvm.FP.Core.quantum f num den e := by
      unfold Jvm.FP.Core.quantum
      omega
    unfold Jvm.FP.Core.settle
    split
    · exact hb _ _ (by assumption) hqm
    · exact hb _ _ (by rw [hT, hp]; omega) (by omega)
end FPN
def finN (d : Jvm.FP.Core.Datum) (z : Bool) : Bool := match d with
  | .fin s c _ => !s && (z || decide (¬ c = 0))
  | _ => false
set_option maxRecDepth 100000 in
theorem i2f_fin : ∀ n : Fin 1441, finN (Jvm.FP.Core.decode Jvm.FP.Core.b32 (FP.i2f (nI n.val)).toNat) (decide (n.val = 0)) = true := by decide +kernel
set_option maxRecDepth 100000 in
theorem i2d_fin : ∀ n : Fin 97, finN (Jvm.FP.Core.decode Jvm.FP.Core.b64 (FP.i2d (nI n.val)).toNat) (decide (n.val = 0)) = true := by decide +kernel
theorem n32_div {a b : Nat} (ha : a ≤ 1440) (hb0 : 0 < b) (hb : b ≤ 1440) : vf_n32 (FP.fdiv (FP.i2f (nI a)) (FP.i2f (nI b))) := by
  have h1 := i2f_fin ⟨a, by omega⟩
  have h2 := i2f_fin ⟨b, by omega⟩
  have hE : ∀ num den e, Jvm.FP.Core.encode Jvm.FP.Core.b32 (Jvm.FP.Core.roundRatio Jvm.FP.Core.b32 false num den e) ≤ 255 * 8388608 := fun num den e => enc_rr Jvm.FP.Core.b32 254 8388608 0 (by decide +kernel) (by decide) (by decide +kernel) (by decide +kernel) (by decide +kernel) num den e
  show Jvm.FP.Core.fdiv (FP.i2f (nI a)) (FP.i2f (nI b)) &&& 0x7fffffff ≤ 0x7f800000
  unfold Jvm.FP.Core.fdiv Jvm.FP.Core.div
  generalize hx : Jvm.FP.Core.decode Jvm.FP.Core.b32 (FP.i2f (nI a)).toNat = x at h1
  generalize hy : Jvm.FP.Core.decode Jvm.FP.Core.b32 (FP.i2f (nI b)).toNat = y at h2
  dsimp only at h1 h2
  cases x with
  | nan => cases h1
  | inf s => cases h1
  | fin s c q =>
    cases y with
    | nan => cases h2
    | inf s => cases h2
    | fin t d r =>
      simp [finN] at h1 h2
      obtain ⟨h1a, -⟩ := h1
      obtain ⟨h2a, h2b⟩ := h2
      subst h1a h2a
      have hd : ¬ d = 0 := by
        rcases h2b with h | h
        · omega
        · exact h
      have := hE c d (q - r)
      rw [show Jvm.FP.Core.quotient Jvm.FP.Core.b32 (.fin false c q) (.fin false d r) = Jvm.FP.Core.roundRatio Jvm.FP.Core.b32 false c d (q - r) from by
        show (if d = 0 then _ else _) = _
        rw [if_neg hd]; rfl]
      generalize Jvm.FP.Core.encode Jvm.FP.Core.b32 (Jvm.FP.Core.roundRatio Jvm.FP.Core.b32 false c d (q - r)) = N at this
      rw [UInt32.le_iff_toNat_le, UInt32.toNat_and]
      rw [show (UInt32.ofNat N).toNat = N from UInt32.toNat_ofNat_of_lt (by show N < 2 ^ 32; omega)]
      exact Nat.le_trans Nat.and_le_left this
theorem n64_div {a b : Nat} (ha : a ≤ 96) (hb0 : 0 < b) (hb : b ≤ 96) : vf_n64 (FP.ddiv (FP.i2d (nI a)) (FP.i2d (nI b))) := by
  have h1 := i2d_fin ⟨a, by omega⟩
  have h2 := i2d_fin ⟨b, by omega⟩
  have hE : ∀ num den e, Jvm.FP.Core.encode Jvm.FP.Core.b64 (Jvm.FP.Core.roundRatio Jvm.FP.Core.b64 false num den e) ≤ 2047 * 4503599627370496 := fun num den e => enc_rr Jvm.FP.Core.b64 2046 4503599627370496 0 (by decide +kernel) (by decide) (by decide +kernel) (by decide +kernel) (by decide +kernel) num den e
  show Jvm.FP.Core.ddiv (FP.i2d (nI a)) (FP.i2d (nI b)) &&& 0x7fffffffffffffff ≤ 0x7ff0000000000000
  unfold Jvm.FP.Core.ddiv Jvm.FP.Core.div
  generalize hx : Jvm.FP.Core.decode Jvm.FP.Core.b64 (FP.i2d (nI a)).toNat = x at h1
  generalize hy : Jvm.FP.Core.decode Jvm.FP.Core.b64 (FP.i2d (nI b)).toNat = y at h2
  dsimp only at h1 h2
  cases x with
  | nan => cases h1
  | inf s => cases h1
  | fin s c q =>
    cases y with
    | nan => cases h2
    | inf s => cases h2
    | fin t d r =>
      simp [finN] at h1 h2
      obtain ⟨h1a, -⟩ := h1
      obtain ⟨h2a, h2b⟩ := h2
      subst h1a h2a
      have hd : ¬ d = 0 := by
        rcases h2b with h | h
        · omega
        · exact h
      have := hE c d (q - r)
      rw [show Jvm.FP.Core.quotient Jvm.FP.Core.b64 (.fin false c q) (.fin false d r) = Jvm.FP.Core.roundRatio Jvm.FP.Core.b64 false c d (q - r) from by
        show (if d = 0 then _ else _) = _
        rw [if_neg hd]; rfl]
      generalize Jvm.FP.Core.encode Jvm.FP.Core.b64 (Jvm.FP.Core.roundRatio Jvm.FP.Core.b64 false c d (q - r)) = N at this
      rw [UInt64.le_iff_toNat_le, UInt64.toNat_and]
      rw [show (UInt64.ofNat N).toNat = N from UInt64.toNat_ofNat_of_lt (by show N < 2 ^ 64; omega)]
      exact Nat.le_trans Nat.and_le_left this
