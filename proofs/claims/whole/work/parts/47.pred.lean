/-! predictions -/
section PRED
variable {I J : JI} {c L m P : Nat}
/-- after a prediction the reference lays its state back -/
theorem RR_pred (h : RR I J c L m) {H W C P' R : Nat} (hl : RLd I J c L m H W C P' R) (hL : L = c + 4 ∨ L = c + 104) {I2 J1 J2 : JI} {v : Int32} (f1 : ∀ z, ¬ (L + 17 ≤ z ∧ z < L + 24) → I2 z = I z)
    (t1 : ∀ z k, J1 z k = if z = m + 2 ∧ 0 ≤ k ∧ k < 0 + 2030 then stI J m 0 0 (m + 1) (0 + (k - 0)) else stI J m 0 0 z k) (f2 : ∀ z, z ≠ m + 1 → J2 z = J1 z) :
    ∃ J3, s_X9_back J2 m v = some (v, J3) ∧ RR I2 J3 c L m ∧ J3 m 0 = 0 := by
  obtain ⟨J3, e3, h3⟩ := @e_lays J2 (m + 2) (m + 1) 0 0 2030 2030 (by omega) (by omega) (by omega) (by omega) (by omega)
  obtain ⟨-, hk, -, hp, hh, -⟩ := id hl
  have j1 : ∀ k, k < 2030 → J3 (m + 1) k = J (m + 1) k := fun k hk => by
    rw [h3, if_pos ⟨rfl, by omega, by omega⟩, f2 _ (by omega), t1, if_pos ⟨rfl, by omega, by omega⟩, stI_o (by omega), show 0 + (0 + (k - 0) - 0) = k by omega]
  have jz : ∀ z, z ≠ m + 1 → z ≠ m + 2 → ∀ k, J3 z k = stI J m 0 0 z k := fun z z1 z2 k => by
    rw [h3, if_neg (fun e => z1 e.1), f2 z z1, t1, if_neg (fun e => z2 e.1)]
  refine ⟨J3, ?_, ?_, ?_⟩
  · unfold s_X9_back
    rw [show s_X9_lays J2 (m + 2) (m + 1) 2030 0 2030 0 = _ from e3, bd_some]
  · refine RR_now (R2 := R) h hl hL (fun z z1 z2 => f1 z (by omega)) (fun z z1 z2 z3 z4 => ?_) (fun k k1 k2 => ?_) ?_ ?_
    · funext k
      rw [jz z z2 z3 k, stI_o z1]
    · rw [jz m (by omega) (by omega), stI_aj k1]
    · exact KR_f (KR_dep hk (fun z z1 z2 => f1 z (by omega)) (fun z z1 z2 => f1 z (by omega))) j1
    · refine RHist_dep hh hL (fun z hz => f1 z (by omega)) ?_ ?_
      · funext k
        rw [jz _ (by omega) (by omega), stI_o (by omega)]
      · rw [jz _ (by omega) (by omega), stI_aj (by decide)]
  · rw [jz m (by omega) (by omega), stI_at]
theorem e_thinks : ∃ J1, s_X9_thinks J m = some J1 ∧ (∀ z k, J1 z k = if z = m + 2 ∧ 0 ≤ k ∧ k < 0 + 2030 then J (m + 1) (0 + (k - 0)) else J z k) := by
  obtain ⟨J1, e1, h1⟩ := @e_lays J (m + 1) (m + 2) 0 0 2030 2030 (by omega) (by omega) (by omega) (by omega) (by omega)
  refine ⟨J1, ?_, h1⟩
  unfold s_X9_thinks
  rw [show s_X9_lays J (m + 1) (m + 2) 2030 0 2030 0 = _ from e1, bd_some]
theorem q_picksPossible (h : RR I J c L m) (hL : L = c + 4 ∨ L = c + 104) : Eqv c L m [eIS] (s_X8_picksPossible I c L P) (s_X9_picksPossible J m) := by
  rcases rq_look (P := P) h with ⟨e1, e2⟩ | ⟨H, W, C, P', R, hl, hk, e1, e2⟩
  · exact Eqv_ref h (by unfold s_X8_picksPossible; rw [e1, bx_r]) (by unfold s_X9_picksPossible; rw [e2, bd2_some]; rfl) tA
  · obtain ⟨J1, t1, t2⟩ := @e_thinks (stI J m 0 0) m
    have hk1 : KR (x7_copyFrom I (L + 17) (L + 10)) L (L + 17) (J1 (m + 1)) H W C P' R := by
      have : J1 (m + 1) = stI J m 0 0 (m + 1) := by
        funext k
        rw [t2, if_neg (by omega)]
      rw [this]
      exact KR_copy hk (by omega) (by omega)
    obtain ⟨J2, R2, o1, hk2⟩ := e_weaves hk1 (by omega) (n := 60) (Nat.le_refl 60)
    obtain ⟨J3, b1, b2⟩ := RR_pred (v := nI (wuN L (L + 17) 60 (x7_copyFrom I (L + 17) (L + 10)))) h hl hL (I2 := wuI L (L + 17) 60 (x7_copyFrom I (L + 17) (L + 10))) (fun z hz => by rw [fr_wuI (by omega), fr_x7_copyFrom (by omega)]) t2 (fun z hz => fr_X9_weaves o1 hz)
    unfold s_X8_picksPossible s_X9_picksPossible
    rw [e1, e2, bx_l, bd2_some, if_pos rfl, gd_i hl.2.1.sets.2.2.2.1, lx_s, gd_i (wvok hk1), lx_s, lx_s, t1, bd_some, show s_X9_weaves J1 m 60 = _ from o1, bd2_some, b1, bd2_some]
    exact Eqv_mut rfl rfl b2
theorem stuck_mv {L s : Nat} {mv : Int32} {k : Nat} (hk : k < 32) : ∀ (n j : Nat) (I : JI), j + n ≤ 8 → bt (I s 1) k = true → bt (mvI L s mv n j I s 1) k = true := by
  intro n
  induction n with
  | zero => intro j I _ h; exact h
  | succ n ih =>
    intro j I hj h
    unfold mvI
    refine ih (j + 1) _ (by omega) ?_
    unfold mvB
    split
    · rw [ptI_nI (by omega) (by omega)]
      dsimp only
      split
      · rw [stI_aj (by decide), stI_at, stI_o (by omega), bt_or, h]; rfl
      · rw [stI_o (by omega)]; exact h
    · exact h
theorem stuck_mono {L s : Nat} {k : Nat} (hk : k < 32) (hs : L + 10 ≤ s) {H : Nat} (h0 : I L 0 = nI H) (hH : H ≤ 8) (h : bt (I s 1) k = true) : bt (x3_weaveNext I L s s 1) k = true := by
  unfold x3_weaveNext
  have e1 : ∀ K sh wf, x7_addRow K s sh wf s 1 = K s 1 := fun K sh wf => by
    unfold x7_addRow
    try dsimp only
    rw [stI_aj (by decide), congrFun (fr_ptI (show s ≠ s + 6 by omega)) 1, congrFun (fr_ptI (show s ≠ s + 5 by omega)) 1]
  have e2 : ∀ K, x3_break K L s s 1 = K s 1 := fun K => by
    unfold x3_break
    split
    · rfl
    · split
      · rfl
      · rw [stI_aj (by decide), stI_aj (by decide)]
  have e3 : ∀ a b, x7_addYarn I s a b s 1 = I s 1 := fun a b => by
    unfold x7_addYarn
    rw [congrFun (fr_ptI (show s ≠ s + 2 by omega)) 1]
  have e4 : ∀ a b, x7_addYarn I s a b L 0 = I L 0 := fun a b => by
    unfold x7_addYarn
    rw [congrFun (fr_ptI (show L ≠ s + 2 by omega)) 0]
  rw [e2, e1]
  unfold x3_move
  refine stuck_mv hk _ 0 _ ?_ ?_
  · rw [e4, h0, cl_nI (by omega)]; omega
  · rw [stI_aj (by decide), e3]; exact h
theorem cntB_mono {p q : Nat → Bool} : ∀ n, (∀ k, k < n → p k = true → q k = true) → cntB p n ≤ cntB q n ∧ (cntB q n ≤ cntB p n → ∀ k, k < n → p k = q k) := by
  intro n
  induction n with
  | zero => intro _; exact ⟨Nat.le_refl 0, fun _ k hk => absurd hk (Nat.not_lt_zero k)⟩
  | succ n ih =>
    intro h
    obtain ⟨i1, i2⟩ := ih fun k hk => h k (by omega)
    have hn := h n (by omega)
    show cntB p n + (if p n = true then 1 else 0) ≤ cntB q n + (if q n = true then 1 else 0) ∧ (cntB q n + (if q n = true then 1 else 0) ≤ cntB p n + (if p n = true then 1 else 0) → _)
    cases hp : p n <;> cases hq : q n
    · simp
      refine ⟨i1, fun hle k hk => ?_⟩
      by_cases e : k = n
      · subst e; rw [hp, hq]
      · exact i2 hle k (by omega)
    · simp
      exact ⟨by omega, fun hle => by omega⟩
    · rw [hp] at hn; rw [hn rfl] at hq; cases hq
    · simp
      refine ⟨i1, fun hle k hk => ?_⟩
      by_cases e : k = n
      · subst e; rw [hp, hq]
      · exact i2 hle k (by omega)
theorem e_stuckOnes {s H W C P' R : Nat} (h : KR I L s (J (m + 1)) H W C P' R) : s_X9_stuckOnes J m = some (nI (cntB (bt (I s 1)) H)) := by
  obtain ⟨⟨g0, g2, g3, g4, g5⟩, b1, b2, b3, b4, b5, b6⟩ := h.g
  have hl := loopA (fun f a i => s_X9_stuckOnes_L4 J m f a i) (fun j => nI (cntB (bt (I s 1)) j)) (nI (cntB (bt (I s 1)) H), nI H) 0 H (fun f => ?_) (fun f j _ hj => ?_) lf 0 (Nat.le_refl 0) (Nat.zero_le H) (by unfold lf; omega)
  · unfold s_X9_stuckOnes
    rw [show s_X9_stuckOnes_L4 J m lf 0 0 = _ from hl]; rfl
  · show s_X9_stuckOnes_L4 J m (f + 1) (nI (cntB (bt (I s 1)) H)) (nI H) = _
    rw [s_X9_stuckOnes_L4, gl0, cl0, g0, if_pos (Int32.le_refl _)]
  · show s_X9_stuckOnes_L4 J m (f + 1) (nI (cntB (bt (I s 1)) j)) (nI j) = _
    rw [s_X9_stuckOnes_L4, gl0, cl0, g0, if_neg (nI_ge hj (by omega)), a_ofH2 (by omega), bd_some, (h.har hj).2.2, nI_cnt, nI_1]
theorem l_until {H W C P' : Nat} (S0 : Int32) : ∀ (d f f' j : Nat) (A J : JI) (R : Nat), KR A L (L + 17) (J (m + 1)) H W C P' R → A (L + 17) 1 = S0 → A (L + 10) 1 = S0 → 1 ≤ j → j + d = 61 → d < f → d < f' →
    ∃ v A' J', (bl (s_X8_picksUntilStuck_L23 c L P f (nI j) A) fun (x : Int32 × JI) => some (.inl (-1), x.2)) = some ((.inl v : Int32 ⊕ String), A') ∧ (bl (s_X9_untilStuck_L7 m (nI (cntB (bt S0) H)) f' (nI j) J) fun (x : Int32 × JI) => some (-1, x.2)) = some (v, J') ∧ (∀ z, ¬ (L + 17 ≤ z ∧ z < L + 24) → A' z = A z) ∧ (∀ z, z ≠ m + 1 → J' z = J z) := by
  intro d
  induction d with
  | zero =>
    intro f f' j A J R hk h1 h2 hj0 hj hf hf'
    obtain ⟨f, rfl⟩ : ∃ g, f = g + 1 := ⟨f - 1, by omega⟩
    obtain ⟨f', rfl⟩ : ∃ g, f' = g + 1 := ⟨f' - 1, by omega⟩
    have : j = 61 := by omega
    subst this
    refine ⟨-1, A, J, ?_, ?_, fun z _ => rfl, fun z _ => rfl⟩
    · rw [s_X8_picksUntilStuck_L23, if_pos (by decide), bl_inr]
    · rw [s_X9_untilStuck_L7, if_pos (by decide), bl_inr]
  | succ d ih =>
    intro f f' j A J R hk h1 h2 hj0 hj hf hf'
    obtain ⟨f, rfl⟩ : ∃ g, f = g + 1 := ⟨f - 1, by omega⟩
    obtain ⟨f', rfl⟩ : ∃ g, f' = g + 1 := ⟨f' - 1, by omega⟩
    have hn : ¬ (60 : Int32) < nI j := nI_nlt (a := 60) (b := j) (by omega) (by omega)
    obtain ⟨-, b1, -⟩ := hk.g
    rw [s_X8_picksUntilStuck_L23, if_neg hn, gd_i (wvok hk), lx_s, lx_s, s_X9_untilStuck_L7, if_neg hn, e_why hk, bd_some]
    rw [show Int32.toNatClampNeg 1 = 1 from rfl]
    have w1 : wuN L (L + 17) 1 A = if x3_obst A L (L + 17) = 0 then 0 + 1 else 0 := rfl
    have w2 : wuI L (L + 17) 1 A = if x3_obst A L (L + 17) = 0 then x3_weaveNext A L (L + 17) else A := rfl
    rw [w1, w2]
    by_cases q : x3_obst A L (L + 17) = 0
    · obtain ⟨hR, hP⟩ := obst0 hk q
      obtain ⟨J1, e1, hk1⟩ := e_weavesOne hk (by omega) hR hP
      have fr1 : ∀ z, ¬ (L + 17 ≤ z ∧ z < L + 24) → x3_weaveNext A L (L + 17) z = A z := fun z hz => fr_x3_weaveNext (by omega)
      rw [if_pos q, if_pos q, if_pos q, if_neg (by decide), e1, bd_some, e_stuckOnes hk1, bd_some, nI_1]
      have hS : ∀ k, k < H → bt S0 k = true → bt (x3_weaveNext A L (L + 17) (L + 17) 1) k = true := fun k hk' hb => by
        rw [← h1] at hb
        exact stuck_mono (by omega) (by omega) hk.c.1 b1 hb
      obtain ⟨m1, m2⟩ := cntB_mono H hS
      have l1 := cntB_le (bt S0) H
      have l2 := cntB_le (bt (x3_weaveNext A L (L + 17) (L + 17) 1)) H
      rw [fr1 (L + 10) (by omega), h2]
      by_cases q2 : x3_weaveNext A L (L + 17) (L + 17) 1 = S0
      · rw [if_pos q2, q2, if_pos (Int32.le_refl _)]
        obtain ⟨v, A', J', a1, a2, a3, a4⟩ := ih f f' (j + 1) _ _ _ hk1 q2 (by rw [fr1 _ (by omega)]; exact h2) (by omega) (by omega) (by omega) (by omega)
        exact ⟨v, A', J', a1, a2, fun z hz => (a3 z hz).trans (fr1 z hz), fun z hz => (a4 z hz).trans (fr_X9_weavesOne e1 hz)⟩
      · rw [if_neg q2]
        have hlt : ¬ nI (cntB (bt (x3_weaveNext A L (L + 17) (L + 17) 1)) H) ≤ nI (cntB (bt S0) H) := fun e => by
          have := (nI_leI (by omega) (by omega)).mp e
          apply q2
          have hLB : LB H S0 := by rw [← h1]; exact hk.sets.2.1
          exact (LB.eq hLB hk1.sets.2.1 fun k hk' => m2 this k hk').symm
        rw [if_neg hlt]
        exact ⟨nI j, _, J1, rfl, rfl, fr1, fun z hz => fr_X9_weavesOne e1 hz⟩
    · rw [if_neg q, if_neg q, if_neg q, if_pos nI_z]
      exact ⟨-1, A, J, rfl, rfl, fun z _ => rfl, fun z _ => rfl⟩
theorem q_picksUntilStuck (h : RR I J c L m) (hL : L = c + 4 ∨ L = c + 104) : Eqv c L m [eIS] (s_X8_picksUntilStuck I c L P) (s_X9_picksUntilStuck J m) := by
  rcases rq_look (P := P) h with ⟨e1, e2⟩ | ⟨H, W, C, P', R, hl, hk, e1, e2⟩
  · exact Eqv_ref h (by unfold s_X8_picksUntilStuck; rw [e1, bx_r]) (by unfold s_X9_picksUntilStuck; rw [e2, bd2_some]; rfl) tA
  · obtain ⟨J1, t1, t2⟩ := @e_thinks (stI J m 0 0) m
    have hk1 : KR (x7_copyFrom I (L + 17) (L + 10)) L (L + 17) (J1 (m + 1)) H W C P' R := by
      have : J1 (m + 1) = stI J m 0 0 (m + 1) := by
        funext k
        rw [t2, if_neg (by omega)]
      rw [this]
      exact KR_copy hk (by omega) (by omega)
    have s1 : x7_copyFrom I (L + 17) (L + 10) (L + 17) 1 = I (L + 10) 1 := copy_s (by omega) (by decide)
    have s2 : x7_copyFrom I (L + 17) (L + 10) (L + 10) 1 = I (L + 10) 1 := by rw [fr_x7_copyFrom (by omega)]
    obtain ⟨v, A', J2, a1, a2, a3, a4⟩ := l_until (c := c) (P := P) (I (L + 10) 1) 60 lf lf 1 _ J1 R hk1 s1 s2 (Nat.le_refl 1) (by omega) (by unfold lf; omega) (by unfold lf; omega)
    obtain ⟨J3, b1, b2⟩ := RR_pred (v := v) h hl hL (I2 := A') (fun z hz => by rw [a3 z hz, fr_x7_copyFrom (by omega)]) t2 a4
    have o1 : s_X9_untilStuck J1 m = some (v, J2) := by
      unfold s_X9_untilStuck
      rw [e_stuckOnes hk1, bd_some, s1]
      exact a2
    unfold s_X8_picksUntilStuck s_X9_picksUntilStuck
    rw [e1, e2, bx_l, bd2_some, if_pos rfl, gd_i hl.2.1.sets.2.2.2.1, lx_s, t1, bd_some, o1, bd2_some, b1, bd2_some]
    exact Eqv_mut a1 rfl b2
end PRED
