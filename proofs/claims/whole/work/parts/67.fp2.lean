/-! a share as a double -/
theorem n32_nat {a b : Nat} (ha : a ≤ 1440) (hb0 : 0 < b) (hb : b ≤ 1440) : (FP.fdiv (FP.i2f (nI a)) (FP.i2f (nI b))).toNat ≤ 2139095040 := by
  have h1 := i2f_fin ⟨a, by omega⟩
  have h2 := i2f_fin ⟨b, by omega⟩
  have hE : ∀ num den e, Jvm.FP.Core.encode Jvm.FP.Core.b32 (Jvm.FP.Core.roundRatio Jvm.FP.Core.b32 false num den e) ≤ 255 * 8388608 := fun num den e => enc_rr Jvm.FP.Core.b32 254 8388608 0 (by decide +kernel) (by decide) (by decide +kernel) (by decide +kernel) (by decide +kernel) num den e
  show (Jvm.FP.Core.fdiv (FP.i2f (nI a)) (FP.i2f (nI b))).toNat ≤ _
  unfold Jvm.FP.Core.fdiv Jvm.FP.Core.div
  generalize hx : Jvm.FP.Core.decode Jvm.FP.Core.b32 (FP.i2f (nI a)).toNat = x at h1
  generalize hy : Jvm.FP.Core.decode Jvm.FP.Core.b32 (FP.i2f (nI b)).toNat = y at h2
  dsimp only at h1 h2
  cases x with
  | nan => cases h1
  | inf s => cases h1
  | fin s c q =>
    cases y with
    | nan => cases h2
    | inf s => cases h2
    | fin t d r =>
      simp [finN] at h1 h2
      obtain ⟨h1a, -⟩ := h1
      obtain ⟨h2a, h2b⟩ := h2
      subst h1a h2a
      have hd : ¬ d = 0 := by
        rcases h2b with h | h
        · omega
        · exact h
      have := hE c d (q - r)
      rw [show Jvm.FP.Core.quotient Jvm.FP.Core.b32 (.fin false c q) (.fin false d r) = Jvm.FP.Core.roundRatio Jvm.FP.Core.b32 false c d (q - r) from by
        show (if d = 0 then _ else _) = _
        rw [if_neg hd]; rfl]
      generalize Jvm.FP.Core.encode Jvm.FP.Core.b32 (Jvm.FP.Core.roundRatio Jvm.FP.Core.b32 false c d (q - r)) = N at this
      rw [show (UInt32.ofNat N).toNat = N from UInt32.toNat_ofNat_of_lt (by show N < 2 ^ 32; omega)]
      omega
/-- what the bits of a number that is not negative stand for -/
theorem dec32 {n : Nat} (h : n ≤ 2139095040) : (∃ c q, Jvm.FP.Core.decode Jvm.FP.Core.b32 n = .fin false c q) ∨ Jvm.FP.Core.decode Jvm.FP.Core.b32 n = .inf false := by
  have e1 : Jvm.FP.Core.b32.tails = 8388608 := by decide +kernel
  have e2 : Jvm.FP.Core.b32.exps = 256 := by decide +kernel
  have hS : Jvm.FP.Core.fieldS Jvm.FP.Core.b32 n = false := by
    unfold Jvm.FP.Core.fieldS
    rw [e1, e2, show n / 8388608 / 256 = 0 by omega]
    rfl
  unfold Jvm.FP.Core.decode
  rw [hS]
  by_cases q : Jvm.FP.Core.fieldE Jvm.FP.Core.b32 n = Jvm.FP.Core.b32.exps - 1
  · have hT : Jvm.FP.Core.fieldT Jvm.FP.Core.b32 n = 0 := by
      unfold Jvm.FP.Core.fieldE at q
      unfold Jvm.FP.Core.fieldT
      rw [e1, e2] at q
      rw [e1]
      omega
    rw [if_pos q, if_pos hT]
    exact Or.inr rfl
  · rw [if_neg q]
    by_cases q2 : Jvm.FP.Core.fieldE Jvm.FP.Core.b32 n = 0
    · rw [if_pos q2]; exact Or.inl ⟨_, _, rfl⟩
    · rw [if_neg q2]; exact Or.inl ⟨_, _, rfl⟩
theorem dec64 {n : Nat} (h : n ≤ 9218868437227405312) : (∃ c q, Jvm.FP.Core.decode Jvm.FP.Core.b64 n = .fin false c q) ∨ Jvm.FP.Core.decode Jvm.FP.Core.b64 n = .inf false := by
  have e1 : Jvm.FP.Core.b64.tails = 4503599627370496 := by decide +kernel
  have e2 : Jvm.FP.Core.b64.exps = 2048 := by decide +kernel
  have hS : Jvm.FP.Core.fieldS Jvm.FP.Core.b64 n = false := by
    unfold Jvm.FP.Core.fieldS
    rw [e1, e2, show n / 4503599627370496 / 2048 = 0 by omega]
    rfl
  unfold Jvm.FP.Core.decode
  rw [hS]
  by_cases q : Jvm.FP.Core.fieldE Jvm.FP.Core.b64 n = Jvm.FP.Core.b64.exps - 1
  · have hT : Jvm.FP.Core.fieldT Jvm.FP.Core.b64 n = 0 := by
      unfold Jvm.FP.Core.fieldE at q
      unfold Jvm.FP.Core.fieldT
      rw [e1, e2] at q
      rw [e1]
      omega
    rw [if_pos q, if_pos hT]
    exact Or.inr rfl
  · rw [if_neg q]
    by_cases q2 : Jvm.FP.Core.fieldE Jvm.FP.Core.b64 n = 0
    · rw [if_pos q2]; exact Or.inl ⟨_, _, rfl⟩
    · rw [if_neg q2]; exact Or.inl ⟨_, _, rfl⟩
theorem dcmp_same {x : UInt64} (h : x.toNat ≤ 9218868437227405312) : FP.dcmp x x = some .eq := by
  show Jvm.FP.Core.order (Jvm.FP.Core.decode Jvm.FP.Core.b64 x.toNat) (Jvm.FP.Core.decode Jvm.FP.Core.b64 x.toNat) = _
  have hc : ∀ z : Int, compare z z = Ordering.eq := fun z => by simp
  rcases dec64 h with ⟨c, q, e⟩ | e
  · rw [e]
    show some (compare _ _) = _
    rw [hc]
  · rw [e]
    show some (compare _ _) = _
    rw [hc]
theorem f2d_nat {v : UInt32} (h : v.toNat ≤ 2139095040) : (FP.f2d v).toNat ≤ 9218868437227405312 := by
  have hE : ∀ num den e, Jvm.FP.Core.encode Jvm.FP.Core.b64 (Jvm.FP.Core.roundRatio Jvm.FP.Core.b64 false num den e) ≤ 2047 * 4503599627370496 := fun num den e => enc_rr Jvm.FP.Core.b64 2046 4503599627370496 0 (by decide +kernel) (by decide) (by decide +kernel) (by decide +kernel) (by decide +kernel) num den e
  have hn : Jvm.FP.Core.fIsNaN v = false := by
    show decide (Jvm.FP.Core.decode Jvm.FP.Core.b32 v.toNat = .nan) = false
    rcases dec32 h with ⟨c, q, e⟩ | e
    · rw [e]; rfl
    · rw [e]; rfl
  have h2 : FP.f2d v = Jvm.FP.Core.f2d v := by
    show (if Jvm.FP.Core.fIsNaN v = true then _ else _) = _
    rw [hn]; rfl
  rw [h2]
  have hN : Jvm.FP.Core.convert Jvm.FP.Core.b32 Jvm.FP.Core.b64 v.toNat ≤ 2047 * 4503599627370496 := by
    unfold Jvm.FP.Core.convert
    rcases dec32 h with ⟨c, q, e⟩ | e
    · rw [e]; exact hE c 1 q
    · rw [e]
      show Jvm.FP.Core.encode Jvm.FP.Core.b64 (.inf false) ≤ _
      decide +kernel
  show (UInt64.ofNat (Jvm.FP.Core.convert Jvm.FP.Core.b32 Jvm.FP.Core.b64 v.toNat)).toNat ≤ _
  generalize Jvm.FP.Core.convert Jvm.FP.Core.b32 Jvm.FP.Core.b64 v.toNat = N at hN
  rw [show (UInt64.ofNat N).toNat = N from UInt64.toNat_ofNat_of_lt (by show N < 2 ^ 64; omega)]
  omega
theorem n64_of {x : UInt64} (h : x.toNat ≤ 9218868437227405312) : vf_n64 x := by
  unfold vf_n64
  rw [UInt64.le_iff_toNat_le, UInt64.toNat_and]
  exact Nat.le_trans Nat.and_le_left h
theorem q_share2 {I J : JI} {c L m P : Nat} (h : RR I J c L m) : ∀ v I', s_X8_warpShare I c L P = some (.inl v, I') → v.toNat ≤ 2139095040 := by
  intro v I' hv
  rcases rq_look (P := P) h with ⟨e1, e2⟩ | ⟨H, W, C, P', R, hl, hk, e1, e2⟩
  · unfold s_X8_warpShare at hv
    rw [e1, bx_r] at hv
    cases hv
  · obtain ⟨⟨g0, g2, g3, g4, g5⟩, b1, b2, b3, b4, b5, b6⟩ := hk.g
    obtain ⟨c0, c4, c7, c3, cs⟩ := hk.c
    have hW := hl.2.2.1
    unfold s_X8_warpShare at hv
    rw [e1, bx_l, lx_s, cs, c4, nI_mul, cl_nI (by omega)] at hv
    have hRW : R * W ≤ 60 * 24 := Nat.mul_le_mul b5 b2
    by_cases q : R = 0
    · subst q
      rw [Nat.zero_mul, if_neg (by decide)] at hv
      cases hv
      decide
    · have hp : 0 < R * W := Nat.mul_pos (by omega) hW
      rw [if_pos (nI_p0 hp (by omega))] at hv
      obtain ⟨z, z1, z2⟩ := shF_sum hk R (Nat.le_refl R)
      rw [z2, gd_i (n32_div (by omega) hp (by omega))] at hv
      cases hv
      exact n32_nat (by omega) hp (by omega)
