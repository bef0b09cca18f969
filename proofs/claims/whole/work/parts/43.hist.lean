/-! copies of states; the ring, both ways -/
section HST
variable {I J : JI} {c L s m H W C P R : Nat}
theorem KR_dep {I' : JI} {f : Nat → Int32} (h : KR I L s f H W C P R) (h1 : ∀ z, L ≤ z → z < L + 10 → I' z = I z) (h2 : ∀ z, s ≤ z → z < s + 7 → I' z = I z) : KR I' L s f H W C P R := by
  unfold KR LVal FBlk SVal SBlk cellC RPart at *
  rw [h1 (L + 5 + 1) (by omega) (by omega), h1 L (by omega) (by omega), h1 (L + 1) (by omega) (by omega), h1 (L + 2) (by omega) (by omega), h1 (L + 3) (by omega) (by omega), h1 (L + 4) (by omega) (by omega), h1 (L + 5) (by omega) (by omega), h1 (L + 5 + 2) (by omega) (by omega), h2 s (by omega) (by omega), h2 (s + 1) (by omega) (by omega), h2 (s + 2) (by omega) (by omega), h2 (s + 3) (by omega) (by omega), h2 (s + 4) (by omega) (by omega), h2 (s + 5) (by omega) (by omega), h2 (s + 6) (by omega) (by omega)]
  exact h
theorem KR_f {f g : Nat → Int32} (h : KR I L s f H W C P R) (hg : ∀ k, k < 2030 → g k = f k) : KR I L s g H W C P R := by
  have hq := h
  obtain ⟨⟨⟨-, l0⟩, ⟨-, l1⟩, ⟨-, l2⟩, ⟨-, l3⟩, -⟩, -, hv, hb⟩ := hq
  have b5 := h.g.2.2.2.2.2.1
  obtain ⟨h1, ⟨⟨x0, x1, x2, x3, x4, x7, x11, x12⟩, y1, y2, y3, y4⟩, -, -⟩ := h
  refine ⟨h1, ⟨⟨?_, ?_, ?_, ?_, ?_, ?_, ?_, ?_⟩, fun w hw => ⟨?_, ?_⟩, fun c hc => ⟨?_, ?_⟩, fun k hk => ?_, ?_⟩, hv, ?_⟩
  · rw [hg 0 (by omega)]; exact x0
  · rw [hg 1 (by omega)]; exact x1
  · rw [hg 2 (by omega)]; exact x2
  · rw [hg 3 (by omega)]; exact x3
  · rw [hg 4 (by omega)]; exact x4
  · rw [hg 7 (by omega)]; exact x7
  · rw [hg 11 (by omega)]; exact x11
  · rw [hg 12 (by omega)]; exact x12
  · rw [hg _ (by omega)]; exact (y1 w hw).1
  · rw [hg _ (by omega)]; exact (y1 w hw).2
  · rw [hg _ (by omega)]; exact (y2 c hc).1
  · rw [hg _ (by omega)]; exact (y2 c hc).2
  · rw [hg _ (by omega)]; exact y3 k hk
  · obtain ⟨n, n1, n2, n3, n4⟩ := y4
    refine ⟨n, n1, n2, by rw [hg 6 (by omega)]; exact n3, fun k hk => ?_⟩
    rw [hg _ (by omega)]
    exact n4 k hk
  · obtain ⟨z1, z2, z3, z4, z5, z6, z7, z8⟩ := hb
    refine ⟨?_, ?_, ?_, fun j hj => ?_, fun w hw => ?_, fun c hc => ?_, fun c hc => ?_, fun r hr => ⟨?_, fun w hw => ?_⟩⟩
    · rw [hg _ (by omega)]; exact z1
    · rw [hg _ (by omega)]; exact z2
    · rw [hg _ (by omega), hg _ (by omega), hg _ (by omega)]; exact z3
    · rw [hg _ (by omega), hg _ (by omega), hg _ (by omega)]; exact z4 j hj
    · rw [hg _ (by omega)]; exact z5 w hw
    · rw [hg _ (by omega)]; exact z6 c hc
    · rw [hg _ (by omega), hg _ (by omega)]; exact z7 c hc
    · rw [hg _ (by omega)]; exact (z8 r hr).1
    · rw [hg _ (by omega)]; exact (z8 r hr).2 w hw
theorem RPart_f {d : Nat} {f g : Nat → Int32} (h : RPart I d f) (hg : ∀ k, k < 2030 → g k = f k) : RPart I d g := by
  obtain ⟨n, n1, n2, n3, n4⟩ := h
  refine ⟨n, n1, n2, by rw [hg 6 (by omega)]; exact n3, fun k hk => ?_⟩
  rw [hg _ (by omega)]
  exact n4 k hk
theorem RPart_dep {I' : JI} {d : Nat} {f : Nat → Int32} (h : RPart I d f) (h0 : I' d = I d) (h1 : I' (d + 1) = I (d + 1)) : RPart I' d f := by
  unfold RPart at *
  rw [h0, h1]
  exact h
theorem cpA_o {a b n z j : Nat} (h : z ≠ b) : cpA I a b n z j = I z j := congrFun (fr_cpA h) j
theorem cpA_at {a b n j : Nat} (h : j < n) : cpA I a b n b j = I a j := by unfold cpA; rw [if_pos rfl, if_pos h]
theorem cf1_at {o j : Nat} : cf1 I s o j s j = I o j := stI_at
theorem cf1_o {o j z i : Nat} (h : z ≠ s ∨ i ≠ j) : cf1 I s o j z i = I z i := by
  unfold cf1
  rcases h with h | h
  · exact stI_o h
  · by_cases e : z = s
    · subst e; exact stI_aj h
    · exact stI_o e
theorem copy_s {k : Nat} (hd : k + 7 ≤ s ∨ s + 7 ≤ k) {j : Nat} (hj : j ≤ 5) : x7_copyFrom I k s k j = I s j := by
  unfold x7_copyFrom
  rw [cpA_o (by omega), cpA_o (by omega), cpA_o (by omega), cpA_o (by omega), cpA_o (by omega), cpA_o (by omega)]
  have hns : s ≠ k := by omega
  by_cases e5 : j = 5
  · subst e5; rw [cf1_at, cf1_o (Or.inl hns), cf1_o (Or.inl hns), cf1_o (Or.inl hns), cf1_o (Or.inl hns), cf1_o (Or.inl hns)]
  · rw [cf1_o (Or.inr e5)]
    by_cases e4 : j = 4
    · subst e4; rw [cf1_at, cf1_o (Or.inl hns), cf1_o (Or.inl hns), cf1_o (Or.inl hns), cf1_o (Or.inl hns)]
    · rw [cf1_o (Or.inr e4)]
      by_cases e3 : j = 3
      · subst e3; rw [cf1_at, cf1_o (Or.inl hns), cf1_o (Or.inl hns), cf1_o (Or.inl hns)]
      · rw [cf1_o (Or.inr e3)]
        by_cases e2 : j = 2
        · subst e2; rw [cf1_at, cf1_o (Or.inl hns), cf1_o (Or.inl hns)]
        · rw [cf1_o (Or.inr e2)]
          by_cases e1 : j = 1
          · subst e1; rw [cf1_at, cf1_o (Or.inl hns)]
          · rw [cf1_o (Or.inr e1)]
            have : j = 0 := by omega
            subst this
            rw [cf1_at]
theorem copy_a {k : Nat} (hd : k + 7 ≤ s ∨ s + 7 ≤ k) : (∀ j, j < 8 → x7_copyFrom I k s (k + 1) j = I (s + 1) j) ∧ (∀ j, j < 6 → x7_copyFrom I k s (k + 2) j = I (s + 2) j) ∧ (∀ j, j < 12 → x7_copyFrom I k s (k + 3) j = I (s + 3) j) ∧ (∀ j, j < 12 → x7_copyFrom I k s (k + 4) j = I (s + 4) j) ∧ (∀ j, j < 60 → x7_copyFrom I k s (k + 5) j = I (s + 5) j) ∧ (∀ j, j < 60 → x7_copyFrom I k s (k + 6) j = I (s + 6) j) := by
  unfold x7_copyFrom
  refine ⟨fun j hj => ?_, fun j hj => ?_, fun j hj => ?_, fun j hj => ?_, fun j hj => ?_, fun j hj => ?_⟩
  · rw [cpA_o (by omega), cpA_o (by omega), cpA_o (by omega), cpA_o (by omega), cpA_o (by omega), cpA_at hj, cf1_o (by omega), cf1_o (by omega), cf1_o (by omega), cf1_o (by omega), cf1_o (by omega), cf1_o (by omega)]
  · rw [cpA_o (by omega), cpA_o (by omega), cpA_o (by omega), cpA_o (by omega), cpA_at hj, cpA_o (by omega), cf1_o (by omega), cf1_o (by omega), cf1_o (by omega), cf1_o (by omega), cf1_o (by omega), cf1_o (by omega)]
  · rw [cpA_o (by omega), cpA_o (by omega), cpA_o (by omega), cpA_at hj, cpA_o (by omega), cpA_o (by omega), cf1_o (by omega), cf1_o (by omega), cf1_o (by omega), cf1_o (by omega), cf1_o (by omega), cf1_o (by omega)]
  · rw [cpA_o (by omega), cpA_o (by omega), cpA_at hj, cpA_o (by omega), cpA_o (by omega), cpA_o (by omega), cf1_o (by omega), cf1_o (by omega), cf1_o (by omega), cf1_o (by omega), cf1_o (by omega), cf1_o (by omega)]
  · rw [cpA_o (by omega), cpA_at hj, cpA_o (by omega), cpA_o (by omega), cpA_o (by omega), cpA_o (by omega), cf1_o (by omega), cf1_o (by omega), cf1_o (by omega), cf1_o (by omega), cf1_o (by omega), cf1_o (by omega)]
  · rw [cpA_at hj, cpA_o (by omega), cpA_o (by omega), cpA_o (by omega), cpA_o (by omega), cpA_o (by omega), cf1_o (by omega), cf1_o (by omega), cf1_o (by omega), cf1_o (by omega), cf1_o (by omega), cf1_o (by omega)]
/-- a state copied stands for the same block -/
theorem KR_copy {f : Nat → Int32} {k : Nat} (h : KR I L s f H W C P R) (hd : k + 7 ≤ s ∨ s + 7 ≤ k) (hl : k + 7 ≤ L ∨ L + 10 ≤ k) : KR (x7_copyFrom I k s) L k f H W C P R := by
  obtain ⟨q1, q2, q3, q4, q5, q6⟩ := copy_a (I := I) hd
  have q0 : ∀ j, j ≤ 5 → x7_copyFrom I k s k j = I s j := fun j hj => copy_s hd hj
  have fr : ∀ z, z < k ∨ k + 7 ≤ z → x7_copyFrom I k s z = I z := fun z hz => fr_x7_copyFrom hz
  have b1 := h.g.2.1
  have b3 := h.g.2.2.2.1
  have b5 := h.g.2.2.2.2.2.1
  obtain ⟨h1, h2, hv, hb⟩ := h
  refine ⟨?_, ?_, ?_, ?_⟩
  · unfold LVal at *
    rw [fr L (by omega), fr (L + 1) (by omega), fr (L + 2) (by omega), fr (L + 3) (by omega), fr (L + 4) (by omega), fr (L + 5) (by omega), fr (L + 5 + 2) (by omega)]
    exact h1
  · unfold FBlk RPart at *
    rw [fr (L + 5 + 1) (by omega), fr L (by omega), fr (L + 1) (by omega), fr (L + 2) (by omega), fr (L + 3) (by omega), fr (L + 4) (by omega), fr (L + 5) (by omega), fr (L + 5 + 2) (by omega)]
    exact h2
  · obtain ⟨y1, y2, y3, y4, y5, y6, y7⟩ := hv
    unfold SVal
    rw [q0 0 (by decide), q0 1 (by decide), q0 2 (by decide), q0 3 (by decide), q0 5 (by decide)]
    refine ⟨y1, y2, y3, y4, y5, fun j hj => ?_, fun r hr => ?_⟩
    · rw [q3 j (by omega), q4 j (by omega)]; exact y6 j hj
    · rw [q5 r (by omega), q6 r (by omega)]; exact y7 r hr
  · obtain ⟨z1, z2, z3, z4, z5, z6, z7, z8⟩ := hb
    unfold SBlk
    rw [q0 0 (by decide), q0 1 (by decide), q0 2 (by decide), q0 3 (by decide), q0 4 (by decide), q0 5 (by decide)]
    refine ⟨z1, z2, z3, fun j hj => ?_, z5, fun j hj => ?_, fun j hj => ?_, fun r hr => ?_⟩
    · rw [q1 j (by omega)]; exact z4 j hj
    · rw [q2 j hj]; exact z6 j hj
    · rw [q3 j (by omega), q4 j (by omega)]; exact z7 j hj
    · unfold cellC
      rw [q5 r (by omega), q6 r (by omega), fr (L + 2) (by omega)]
      exact z8 r hr
/-- the reference's copying of a block -/
theorem e_lays {a b oi oj Na Nb : Nat} (hab : a ≠ b) (hi : oi + 2030 ≤ Na) (hj : oj + 2030 ≤ Nb) (hNa : Na < 2 ^ 31) (hNb : Nb < 2 ^ 31) : ∃ J', s_X9_lays J a b Na (nI oi) Nb (nI oj) = some J' ∧ ∀ z k, J' z k = if z = b ∧ oj ≤ k ∧ k < oj + 2030 then J a (oi + (k - oj)) else J z k := by
  have hl := loopM (fun f J i => s_X9_lays_L3 a b (nI oi) (nI oj) Na Nb f i J) (fun n J' => ∀ z k, J' z k = if z = b ∧ oj ≤ k ∧ k < oj + n then J a (oi + (k - oj)) else J z k) (fun J => (nI 2030, J)) 0 2030 (fun f J' hJ => ?_) (fun f j J' _ hlt hJ => ?_) lf 0 J (Nat.le_refl 0) (Nat.zero_le _) (by unfold lf; omega) (fun z k => by rw [if_neg (by omega)])
  · obtain ⟨J', h1, h2⟩ := hl
    refine ⟨J', ?_, h1⟩
    unfold s_X9_lays
    rw [show s_X9_lays_L3 a b (nI oi) (nI oj) Na Nb lf 0 J = _ from h2, bd_some]
  · show s_X9_lays_L3 a b (nI oi) (nI oj) Na Nb (f + 1) (nI 2030) J' = _
    rw [s_X9_lays_L3, if_pos (show (2030 : Int32) ≤ nI 2030 from by decide)]
  · show ∃ J'', _ ∧ s_X9_lays_L3 a b (nI oi) (nI oj) Na Nb (f + 1) (nI j) J' = _
    rw [s_X9_lays_L3, if_neg (show ¬ (2030 : Int32) ≤ nI j from nI_ge hlt (by decide)), nI_add, nI_add, gd_in (by omega) (by omega), gd_in (by omega) (by omega), cl_nI (by omega), cl_nI (by omega), lx_s, nI_1]
    refine ⟨_, fun z k => ?_, rfl⟩
    by_cases e : z = b
    · subst e
      by_cases e2 : k = oj + j
      · subst e2
        rw [stI_at, if_pos (by omega), hJ, if_neg (by omega), show oj + j - oj = j by omega]
      · rw [stI_aj e2, hJ]
        by_cases e3 : oj ≤ k ∧ k < oj + j
        · rw [if_pos ⟨rfl, e3.1, e3.2⟩, if_pos ⟨rfl, e3.1, by omega⟩]
        · rw [if_neg (fun q => e3 ⟨q.2.1, q.2.2⟩), if_neg (by rintro ⟨-, q1, q2⟩; omega)]
    · rw [stI_o e, hJ, if_neg (fun q => e q.1), if_neg (fun q => e q.1)]
theorem e_shift : ∃ J', s_X9_remembers_L11 m lf 0 J = some (nI 14210, J') ∧ ∀ z k, J' z k = if z = m + 3 ∧ k < 14210 then J (m + 3) (k + 2030) else J z k := by
  have hl := loopM (fun f J i => s_X9_remembers_L11 m f i J) (fun n J' => ∀ z k, J' z k = if z = m + 3 ∧ k < n then J (m + 3) (k + 2030) else J z k) (fun J => (nI 14210, J)) 0 14210 (fun f J' hJ => ?_) (fun f j J' _ hlt hJ => ?_) lf 0 J (Nat.le_refl 0) (Nat.zero_le _) (by unfold lf; omega) (fun z k => by rw [if_neg (by omega)])
  · obtain ⟨J', h1, h2⟩ := hl
    exact ⟨J', h2, h1⟩
  · show s_X9_remembers_L11 m (f + 1) (nI 14210) J' = _
    rw [s_X9_remembers_L11, if_pos (show (14210 : Int32) ≤ nI 14210 from by decide)]
  · show ∃ J'', _ ∧ s_X9_remembers_L11 m (f + 1) (nI j) J' = _
    rw [s_X9_remembers_L11, if_neg (show ¬ (14210 : Int32) ≤ nI j from nI_ge hlt (by decide)), show (2030 : Int32) = nI 2030 from rfl, nI_add, gd_in (by omega) (by omega), gd_in (by omega) (by omega), cl_nI (by omega), cl_nI (by omega), lx_s, nI_1]
    refine ⟨_, fun z k => ?_, rfl⟩
    by_cases e : z = m + 3
    · subst e
      by_cases e2 : k = j
      · subst e2
        rw [stI_at, if_pos ⟨rfl, by omega⟩, hJ, if_neg (by omega)]
      · rw [stI_aj e2, hJ]
        by_cases e3 : k < j
        · rw [if_pos ⟨rfl, e3⟩, if_pos ⟨rfl, by omega⟩]
        · rw [if_neg (fun q => e3 q.2), if_neg (by rintro ⟨-, q2⟩; omega)]
    · rw [stI_o e, hJ, if_neg (fun q => e q.1), if_neg (fun q => e q.1)]
theorem mn8 {u : Nat} (hu : u ≤ 8) : mnF (nI u + 1) 8 = nI (if u = 8 then 8 else u + 1) := by
  have : ∀ u : Fin 9, mnF (nI u.val + 1) 8 = nI (if u.val = 8 then 8 else u.val + 1) := by decide +kernel
  exact this ⟨u, by omega⟩
theorem nx8 {x : Nat} (hx : x < 8) : (nI x + 1) - (nI x + 1) / 8 * 8 = nI ((x + 1) % 8) := by
  rw [nI_1]
  exact nI_modt (b := 8) (by omega) (by omega) (by omega)
/-- the state is kept in the ring -/
theorem e_remember (hl : RLd I J c L m H W C P R) (hL : L = c + 4 ∨ L = c + 104) : ∃ I' J', s_X1_remember I (c + 30) (L + 10) = some I' ∧ s_X9_remembers J m = some J' ∧ RHist I' J' c L m H W C P ∧ (∀ z, z < c + 30 ∨ c + 88 ≤ z → I' z = I z) ∧ (∀ z, z ≠ m → z ≠ m + 3 → J' z = J z) ∧ (∀ k, k ≠ 7 → J' m k = J m k) := by
  obtain ⟨-, hk, -, hp, ⟨u, x, u8, x8, hu, hx, hm7, hb⟩, -, -⟩ := hl
  have hs4 := hk.sets.2.2.2.1
  have eI : s_X1_remember I (c + 30) (L + 10) = some (stI (stI (x7_copyFrom I (c + 32 + 7 * x) (L + 10)) (c + 30) 1 (nI ((x + 1) % 8))) (c + 30) 2 (nI (if u = 8 then 8 else u + 1))) := by
    unfold s_X1_remember
    rw [hx, gd_in x8 (by omega), gd_i hs4, cl_nI (by omega), lx_s, show c + 30 + 2 + 7 * x = c + 32 + 7 * x by omega, fr_x7_copyFrom (show c + 30 < c + 32 + 7 * x ∨ _ from Or.inl (by omega)), hx, lx_s, nx8 x8, stI_aj (show 2 ≠ 1 by decide), fr_x7_copyFrom (show c + 30 < c + 32 + 7 * x ∨ _ from Or.inl (by omega)), hu, lx_s, mn8 u8]
  -- the reference
  have eJ : ∃ J', s_X9_remembers J m = some J' ∧ J' m 7 = nI (if u = 8 then 8 else u + 1) ∧ (∀ z, z ≠ m → z ≠ m + 3 → J' z = J z) ∧ (∀ k, k ≠ 7 → J' m k = J m k) ∧ (∀ i, i < (if u = 8 then 7 else u) → ∀ k, k < 2030 → J' (m + 3) (2030 * i + k) = J (m + 3) (2030 * (if u = 8 then i + 1 else i) + k)) ∧ (∀ k, k < 2030 → J' (m + 3) (2030 * (if u = 8 then 7 else u) + k) = J (m + 1) k) := by
    unfold s_X9_remembers
    rw [hm7]
    by_cases q : u = 8
    · subst q
      obtain ⟨J1, e1, h1⟩ := @e_shift J m
      rw [if_pos (show nI 8 = 8 from rfl), e1, bd_some]
      dsimp only
      have m7 : J1 m 7 = nI 8 := by rw [h1, if_neg (by omega)]; exact hm7
      rw [lx_s, m7, show nI 8 - 1 = nI 7 from by decide, stI_at, show nI 7 * 2030 = nI 14210 from by decide]
      obtain ⟨J2, e2, h2⟩ := @e_lays (stI J1 m 7 (nI 7)) (m + 1) (m + 3) 0 14210 2030 16240 (by omega) (by omega) (by omega) (by omega) (by omega)
      rw [show s_X9_lays (stI J1 m 7 (nI 7)) (m + 1) (m + 3) 2030 0 16240 (nI 14210) = _ from e2, bd_some]
      have m7b : J2 m 7 = nI 7 := by rw [h2, if_neg (by omega), stI_at]
      rw [lx_s, m7b, show nI 7 + 1 = nI 8 from by decide]
      refine ⟨_, rfl, stI_at, fun z z1 z2 => ?_, fun k hk => ?_, fun i hi k hk => ?_, fun k hk => ?_⟩
      · funext k
        rw [stI_o z1, h2, if_neg (fun e => z2 e.1), stI_o z1, h1, if_neg (fun e => z2 e.1)]
      · rw [stI_aj hk, h2, if_neg (by omega), stI_aj hk, h1, if_neg (by omega)]
      · rw [if_pos rfl] at hi
        rw [if_pos rfl, stI_o (by omega), h2, if_neg (by omega), stI_o (by omega), h1, if_pos ⟨rfl, by omega⟩, show 2030 * i + k + 2030 = 2030 * (i + 1) + k by omega]
      · rw [if_pos rfl, stI_o (by omega), h2, if_pos ⟨rfl, by omega, by omega⟩, stI_o (by omega), show 0 + (2030 * 7 + k - 14210) = k by omega, h1, if_neg (by omega)]
    · have e8 : ¬ nI u = 8 := fun e => q ((nI_eqL (n := 8) (by omega) (by omega)).mp e)
      rw [if_neg e8, show (2030 : Int32) = nI 2030 from rfl, nI_mul]
      obtain ⟨J2, e2, h2⟩ := @e_lays J (m + 1) (m + 3) 0 (u * 2030) 2030 16240 (by omega) (by omega) (by omega) (by omega) (by omega)
      rw [show s_X9_lays J (m + 1) (m + 3) 2030 0 16240 (nI (u * 2030)) = _ from e2, bd_some]
      have m7b : J2 m 7 = nI u := by rw [h2, if_neg (by omega)]; exact hm7
      rw [lx_s, m7b, nI_1, if_neg q, if_neg q]
      refine ⟨_, rfl, stI_at, fun z z1 z2 => ?_, fun k hk => ?_, fun i hi k hk => ?_, fun k hk => ?_⟩
      · funext k
        rw [stI_o z1, h2, if_neg (fun e => z2 e.1)]
      · rw [stI_aj hk, h2, if_neg (by omega)]
      · rw [if_neg q, stI_o (by omega), h2, if_neg (by omega)]
      · rw [stI_o (by omega), h2, if_pos ⟨rfl, by omega, by omega⟩, show 0 + (2030 * u + k - u * 2030) = k by omega]
  obtain ⟨J', e2, j7, jz, jk, jb, jn⟩ := eJ
  have fz : ∀ z, z < c + 32 + 7 * x ∨ c + 32 + 7 * x + 7 ≤ z → z ≠ c + 30 → stI (stI (x7_copyFrom I (c + 32 + 7 * x) (L + 10)) (c + 30) 1 (nI ((x + 1) % 8))) (c + 30) 2 (nI (if u = 8 then 8 else u + 1)) z = I z := fun z z1 z2 => by
    rw [stI_ne z2, stI_ne z2, fr_x7_copyFrom z1]
  refine ⟨_, J', eI, e2, ?_, fun z hz => fz z (by omega) (by omega), jz, jk⟩
  refine ⟨if u = 8 then 8 else u + 1, (x + 1) % 8, by split <;> omega, Nat.mod_lt _ (by omega), stI_at, by rw [stI_aj (by decide), stI_at], j7, fun i hi => ?_⟩
  by_cases q : i = (if u = 8 then 7 else u)
  · -- the new one
    have er : ringS c ((x + 1) % 8) (if u = 8 then 8 else u + 1) i = c + 32 + 7 * x := by
      unfold ringS
      subst q
      by_cases q8 : u = 8
      · rw [if_pos q8, if_pos q8]; omega
      · rw [if_neg q8, if_neg q8]; omega
    rw [er, q]
    refine ⟨?_, R, ?_⟩
    · refine RPart_f (f := J (m + 1)) (RPart_dep hp (fz _ (by omega) (by omega)) (fz _ (by omega) (by omega))) jn
    · refine KR_f (f := J (m + 1)) ?_ jn
      refine KR_dep (KR_copy hk (k := c + 32 + 7 * x) (by omega) (by omega)) (fun z z1 z2 => ?_) (fun z z1 z2 => ?_)
      · rw [stI_ne (by omega), stI_ne (by omega)]
      · rw [stI_ne (by omega), stI_ne (by omega)]
  · have hi2 : i < (if u = 8 then 7 else u) := by
      by_cases q8 : u = 8
      · rw [if_pos q8] at *; omega
      · rw [if_neg q8] at *; omega
    have er : ringS c ((x + 1) % 8) (if u = 8 then 8 else u + 1) i = ringS c x u (if u = 8 then i + 1 else i) := by
      unfold ringS
      by_cases q8 : u = 8
      · simp only [if_pos q8] at *; omega
      · simp only [if_neg q8] at *; omega
    obtain ⟨p1, R', p2⟩ := hb (if u = 8 then i + 1 else i) (by
      by_cases q8 : u = 8
      · rw [if_pos q8] at *; omega
      · rw [if_neg q8] at *; omega)
    have hrg : ringS c x u (if u = 8 then i + 1 else i) + 7 ≤ c + 32 + 7 * x ∨ c + 32 + 7 * x + 7 ≤ ringS c x u (if u = 8 then i + 1 else i) := by
      unfold ringS
      by_cases q8 : u = 8
      · simp only [if_pos q8] at *; omega
      · simp only [if_neg q8] at *; omega
    have hr2 : c + 32 ≤ ringS c x u (if u = 8 then i + 1 else i) ∧ ringS c x u (if u = 8 then i + 1 else i) + 7 ≤ c + 88 := by
      unfold ringS
      have := Nat.mod_lt (x + 8 - u + (if u = 8 then i + 1 else i)) (show 0 < 8 by omega)
      omega
    rw [er]
    refine ⟨?_, R', ?_⟩
    · exact RPart_f (RPart_dep p1 (fz _ (by omega) (by omega)) (fz _ (by omega) (by omega))) (fun k hk => jb i hi2 k hk)
    · exact KR_f (KR_dep p2 (fun z z1 z2 => fz z (by omega) (by omega)) (fun z z1 z2 => fz z (by omega) (by omega))) (fun k hk => jb i hi2 k hk)
end HST
