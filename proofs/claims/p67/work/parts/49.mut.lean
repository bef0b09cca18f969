/-! what the class does to a good loom -/
/-- the fixed part and the slots are the same -/
def FR (c : Nat) (I J : JI) : Prop := ∀ z, z < c + 14 ∨ c + 88 ≤ z → J z = I z
section MUT
variable {I J K : JI} {L P c H W N M a b n m q s k : Nat}
theorem FR.rf : FR c I I := fun _ _ => rfl
theorem FR.tr (h : FR c I J) (g : FR c J K) : FR c I K := fun z hz => (g z hz).trans (h z hz)
theorem FR.le (h : FR c I J) (e : L = c + 4) : LE L I J := fun z h1 h2 => (h z (by omega)).symm
theorem v_possible (hi : INV N I c L H W) : ∃ J, s_X8_picksPossible I c L P = some (.inl (nI (wuN L (L + 10) 60 I)), J) ∧ ∀ z, z < c + 21 ∨ c + 28 ≤ z → J z = I z := by
  have e := hi.e
  obtain ⟨K, hK⟩ : ∃ K, K = x7_copyFrom I (L + 17) (L + 10) := ⟨_, rfl⟩
  have s1 : SE I (L + 10) K (L + 17) := by rw [hK]; exact SE.copy (by omega)
  have l1 : LE L I K := by rw [hK]; exact LE.copy (by omega)
  obtain ⟨t1, t2⟩ := SE.wu (L := L) (by omega) (by omega) 60 I K s1 l1
  refine ⟨wuI L (L + 17) 60 K, ?_, fun z hz => by rw [fr_wuI (by omega), hK]; exact fr_x7_copyFrom (by omega)⟩
  unfold s_X8_picksPossible
  rw [v_rl hi.l, bx_l, gd_i hi.d5, lx_s, ← hK, gd_i ((hi.s.se s1 l1).wv (hi.f.le l1)), lx_s, lx_s, show Int32.toNatClampNeg 60 = 60 from rfl, t1]
theorem v_L23 (hL : L = c + 4) (hN : N ≤ 100000) : ∀ (f p : Nat) (K : JI), 60 - p < f → p ≤ 60 → FOK K L H W → SOK N K L (L + 17) H W → ∃ r J, bl (s_X8_picksUntilStuck_L23 c L P f (nI (p + 1)) K) (fun (y12, I13) => some (((.inl (-1) : Int32 ⊕ String)), I13)) = some (.inl r, J) ∧ (∀ z, z < c + 21 ∨ c + 28 ≤ z → J z = K z) ∧ (r = -1 ∨ ∃ q, r = nI (p + q) ∧ 0 < q ∧ p + q ≤ 60 ∧ wuN L (L + 17) q K = q ∧ ¬ wuI L (L + 17) q K (L + 17) 1 = K (L + 10) 1) := by
  intro f
  induction f with
  | zero => intro p K h; omega
  | succ f ih =>
    intro p K hf hp hF hS
    rw [s_X8_picksUntilStuck_L23]
    by_cases q : p = 60
    · subst q
      rw [if_pos (show (60 : Int32) < nI (60 + 1) by decide)]
      exact ⟨-1, K, rfl, fun z _ => rfl, Or.inl rfl⟩
    · rw [if_neg (show ¬ (60 : Int32) < nI (p + 1) from nI_nlt (b := p + 1) (show p + 1 ≤ 60 by omega) (by decide)), gd_i (hS.wv hF), lx_s, lx_s, show Int32.toNatClampNeg 1 = 1 from rfl]
      by_cases ho : x3_obst K L (L + 17) = 0
      · have n1 : wuN L (L + 17) 1 K = 1 := by rw [wuN, if_pos ho, wuN]
        have w1 : wuI L (L + 17) 1 K = x3_weaveNext K L (L + 17) := by rw [wuI, if_pos ho, wuI]
        have fw : ∀ z, z < c + 21 ∨ c + 28 ≤ z → x3_weaveNext K L (L + 17) z = K z := fun z hz => fr_x3_weaveNext (by omega)
        rw [n1, w1, if_neg (show ¬ nI 1 = 0 by decide)]
        by_cases hs : x3_weaveNext K L (L + 17) (L + 17) 1 = x3_weaveNext K L (L + 17) (L + 10) 1
        · rw [if_pos hs, show nI (p + 1) + 1 = nI (p + 1 + 1) from nI_1 _]
          obtain ⟨r, J, r1, r2, r3⟩ := ih (p + 1) (x3_weaveNext K L (L + 17)) (by omega) (by omega) (hF.le fun z h1 h2 => (fw z (by omega)).symm) (hS.wn hF (by omega) hN ho).1
          refine ⟨r, J, r1, fun z hz => (r2 z hz).trans (fw z hz), ?_⟩
          rcases r3 with r3 | ⟨q', q1, q2, q3, q4, q5⟩
          · exact Or.inl r3
          · refine Or.inr ⟨q' + 1, by rw [q1]; congr 1; omega, by omega, by omega, by rw [wuN, if_pos ho, q4], ?_⟩
            rw [wuI, if_pos ho]
            rw [fw (L + 10) (by omega)] at q5
            exact q5
        · rw [if_neg hs]
          refine ⟨nI (p + 1), _, rfl, fw, Or.inr ⟨1, rfl, by omega, by omega, n1, ?_⟩⟩
          rw [w1]
          rw [fw (L + 10) (by omega)] at hs
          exact hs
      · have n1 : wuN L (L + 17) 1 K = 0 := by rw [wuN, if_neg ho]
        have w1 : wuI L (L + 17) 1 K = K := by rw [wuI, if_neg ho]
        rw [n1, w1, if_pos (show nI 0 = 0 by decide)]
        exact ⟨-1, K, rfl, fun z _ => rfl, Or.inl rfl⟩
theorem v_until (hi : INV N I c L H W) : ∃ r J, s_X8_picksUntilStuck I c L P = some (.inl r, J) ∧ (∀ z, z < c + 21 ∨ c + 28 ≤ z → J z = I z) ∧ (r = -1 ∨ ∃ q, r = nI q ∧ 0 < q ∧ q ≤ 60 ∧ wuN L (L + 10) q I = q ∧ ¬ wuI L (L + 10) q I (L + 10) 1 = I (L + 10) 1) := by
  have e := hi.e
  obtain ⟨K, hK⟩ : ∃ K, K = x7_copyFrom I (L + 17) (L + 10) := ⟨_, rfl⟩
  have s1 : SE I (L + 10) K (L + 17) := by rw [hK]; exact SE.copy (by omega)
  have l1 : LE L I K := by rw [hK]; exact LE.copy (by omega)
  have f1 : ∀ z, z < c + 21 ∨ c + 28 ≤ z → K z = I z := fun z hz => by rw [hK]; exact fr_x7_copyFrom (by omega)
  obtain ⟨r, J, r1, r2, r3⟩ := v_L23 (P := P) e hi.nn lf 0 K (by decide) (by omega) (hi.f.le l1) (hi.s.se s1 l1)
  refine ⟨r, J, ?_, fun z hz => (r2 z hz).trans (f1 z hz), ?_⟩
  · unfold s_X8_picksUntilStuck
    rw [v_rl hi.l, bx_l, gd_i hi.d5, lx_s, ← hK]
    exact r1
  · rcases r3 with r3 | ⟨q, q1, q2, q3, q4, q5⟩
    · exact Or.inl r3
    · obtain ⟨t1, t2⟩ := SE.wu (L := L) (by omega) (by omega) q I K s1 l1
      refine Or.inr ⟨q, by rw [q1, Nat.zero_add], q2, by omega, by rw [t1]; exact q4, ?_⟩
      rw [t2.sc (j := 1) (by decide), ← congrFun (f1 (L + 10) (by omega)) 1]
      exact q5
/-- harnesses stay stuck -/
theorem stuck_mv {mv : Int32} (hk : k < 32) : ∀ (n j : Nat) (I : JI), j + n ≤ 8 → bt (I s 1) k = true → bt (mvI L s mv n j I s 1) k = true := by
  intro n
  induction n with
  | zero => intro j I _ h; exact h
  | succ n ih =>
    intro j I hj h
    unfold mvI
    refine ih (j + 1) _ (by omega) ?_
    unfold mvB
    split
    · rw [ptI_nI (by omega) (by omega)]
      dsimp only
      split
      · rw [stI_aj (by decide), stI_at, stI_o (by omega), bt_or, h]; rfl
      · rw [stI_o (by omega)]; exact h
    · exact h
theorem stuck_mono (hk : k < 32) (hs : L + 10 ≤ s) (h0 : I L 0 = nI H) (hH : H ≤ 8) (h : bt (I s 1) k = true) : bt (x3_weaveNext I L s s 1) k = true := by
  unfold x3_weaveNext
  have e1 : ∀ K sh wf, x7_addRow K s sh wf s 1 = K s 1 := fun K sh wf => by
    unfold x7_addRow
    try dsimp only
    rw [stI_aj (by decide), congrFun (fr_ptI (show s ≠ s + 6 by omega)) 1, congrFun (fr_ptI (show s ≠ s + 5 by omega)) 1]
  have e2 : ∀ K, x3_break K L s s 1 = K s 1 := fun K => by
    unfold x3_break
    split
    · rfl
    · split
      · rfl
      · rw [stI_aj (by decide), stI_aj (by decide)]
  have e3 : ∀ a b, x7_addYarn I s a b s 1 = I s 1 := fun a b => by
    unfold x7_addYarn
    rw [congrFun (fr_ptI (show s ≠ s + 2 by omega)) 1]
  have e4 : ∀ a b, x7_addYarn I s a b L 0 = I L 0 := fun a b => by
    unfold x7_addYarn
    rw [congrFun (fr_ptI (show L ≠ s + 2 by omega)) 0]
  rw [e2, e1]
  unfold x3_move
  refine stuck_mv hk _ 0 _ ?_ ?_
  · rw [e4, h0, cl_nI (by omega)]; omega
  · rw [stI_aj (by decide), e3]; exact h
theorem stuck_wu (hk : k < 32) (hs : L + 10 ≤ s) (hH : H ≤ 8) : ∀ (m : Nat) (I : JI), I L 0 = nI H → bt (I s 1) k = true → bt (wuI L s m I s 1) k = true := by
  intro m
  induction m with
  | zero => intro I _ h; exact h
  | succ m ih =>
    intro I h0 h
    rw [wuI]
    split
    · exact ih _ (by rw [fr_x3_weaveNext (show L < s ∨ s + 7 ≤ L by omega)]; exact h0) (stuck_mono hk hs h0 hH h)
    · exact h
theorem wuI_add : ∀ (q m : Nat) (I : JI), q ≤ wuN L s (q + m) I → wuI L s (q + m) I = wuI L s m (wuI L s q I) := by
  intro q
  induction q with
  | zero => intro m I _; rw [Nat.zero_add]; rfl
  | succ q ih =>
    intro m I h
    rw [show q + 1 + m = (q + m) + 1 by omega] at h ⊢
    rw [wuN] at h
    rw [wuI, wuI]
    by_cases ho : x3_obst I L s = 0
    · rw [if_pos ho] at h ⊢
      rw [if_pos ho]
      exact ih m _ (by omega)
    · rw [if_neg ho] at h; omega
theorem stuck_new (hs : L + 10 ≤ s) (hN : N ≤ 100000) (hF : FOK I L H W) (hS : SOK N I L s H W) (h1 : q ≤ wuN L s n I) (h2 : ¬ wuI L s q I s 1 = I s 1) : ∃ h, h < H ∧ bt (wuI L s n I s 1) h = true := by
  have hn := wuN_le (L := L) (s := s) n I
  have hw := hF.1
  have h0 : I L 0 = nI H := hF.2.1.1
  have e : wuI L s n I = wuI L s (n - q) (wuI L s q I) := by
    have := wuI_add (L := L) (s := s) q (n - q) I (by rw [show q + (n - q) = n by omega]; exact h1)
    rw [show q + (n - q) = n by omega] at this; exact this
  obtain ⟨g1, g2, -⟩ := SOK.wu hs hN q I hF hS
  obtain ⟨_, _, _, -, -, -, -, ⟨-, a1⟩, -⟩ := hS
  obtain ⟨_, _, _, -, -, -, -, ⟨-, a2⟩, -⟩ := g1
  have : ∃ k, k < H ∧ ¬ bt (wuI L s q I s 1) k = bt (I s 1) k := by
    refine Classical.byContradiction fun hc => h2 (LB.eq a2 a1 fun k hk => ?_)
    exact Classical.byContradiction fun hd => hc ⟨k, hk, hd⟩
  obtain ⟨k, k1, k2⟩ := this
  refine ⟨k, k1, ?_⟩
  rw [e]
  refine stuck_wu (H := H) (by omega) hs (by omega) _ _ (by rw [fr_wuI (show L < s ∨ s + 7 ≤ L by omega)]; exact h0) ?_
  cases hb : bt (I s 1) k
  · rw [hb] at k2; cases hc : bt (wuI L s q I s 1) k
    · exact absurd hc k2
    · rfl
  · exact stuck_wu (H := H) (by omega) hs (by omega) _ _ h0 hb
theorem v_weave (hi : INV N I c L H W) (h1 : 1 ≤ n) (h2 : n ≤ 60) : ∃ J, s_X8_weave I c L P (nI n) = some (.inl (nI (min n (wuN L (L + 10) 60 I))), J) ∧ FR c I J ∧ INV N J c L H W ∧ rwN J (L + 10) = rwN I (L + 10) + min n (wuN L (L + 10) 60 I) ∧ ∀ q, q ≤ min n (wuN L (L + 10) 60 I) → ¬ wuI L (L + 10) q I (L + 10) 1 = I (L + 10) 1 → ∃ h, h < H ∧ bt (J (L + 10) 1) h = true := by
  have e := hi.e
  obtain ⟨K, k1, k2, k3⟩ := v_rem hi
  have s1 : SE I (L + 10) K (L + 10) := fun k j hk hj => by rw [k2 (L + 10 + k) (by omega)]
  have l1 : LE L I K := fun z _ _ => by rw [k2 z (by omega)]
  obtain ⟨t1, t2⟩ := SE.wu (L := L) (by omega) (by omega) n I K s1 l1
  have hm := wuN_min (L := L) (s := L + 10) n 60 I h2
  obtain ⟨g1, g2, r, g3, g4, g5⟩ := SOK.wu (Nat.le_refl _) k3.nn n K k3.f k3.s
  have fK : ∀ z, z < c + 14 ∨ c + 21 ≤ z → wuI L (L + 10) n K z = K z := fun z hz => fr_wuI (by omega)
  refine ⟨wuI L (L + 10) n K, ?_, fun z hz => by rw [fK z (by omega), k2 z (by omega)], k3.st (fun z hz => fK z (by omega)) (by rw [fK (c + 30) (by omega)]; exact k3.2.2.2.2.1) (by rw [fK (c + 30) (by omega)]; exact k3.2.2.2.2.2.1) g1 hi.nn, ?_, fun q q1 q2 => ?_⟩
  · unfold s_X8_weave
    rw [v_rl hi.l, bx_l, show (1 : Int32) = nI 1 from rfl, show (60 : Int32) = nI 60 from rfl, v_rg h1 h2 (by decide), bx_l, k1, bd_some, gd_i (k3.s.wv k3.f), lx_s, lx_s, nI_clamp (by omega), ← t1, hm]
  · have er : rwN I (L + 10) = r := by
      unfold rwN; rw [s1.sc (j := 3) (by decide), g4, nI_clamp (by omega)]
    unfold rwN
    rw [g5, nI_clamp (by omega), ← t1, hm, ← er]; rfl
  · rw [← t2.sc (j := 1) (by decide)]
    exact stuck_new (Nat.le_refl _) hi.nn hi.f hi.s (by rw [hm]; exact q1) q2
theorem fr_rmJ {z : Nat} (h : z < L + 10 ∨ L + 17 ≤ z) : ∀ (n : Nat) (I : JI), rmI L n I z = I z := by
  intro n
  induction n with
  | zero => intro I; rfl
  | succ n ih =>
    intro I
    rw [rmI]
    split
    · rw [ih]; unfold rmB; exact (fr_x7_addYarn (by omega)).trans (stI_ne (by omega))
    · rfl
theorem v_unweave (hi : INV N I c L H W) (h1 : 1 ≤ n) (h2 : n ≤ rwN I (L + 10)) : ∃ J, s_X8_unweave I c L P (nI n) = some (.inl (nI (rwN I (L + 10) - n)), J) ∧ FR c I J ∧ INV N J c L H W ∧ ∀ k, k < 6 → ∃ y y', I (L + 10 + 2) k = nI y ∧ J (L + 10 + 2) k = nI y' ∧ y ≤ y' ∧ y' ≤ 100000 := by
  have e := hi.e
  have h6 := hi.r6
  obtain ⟨K, k1, k2, k3⟩ := v_rem hi
  have er : rwN K (L + 10) = rwN I (L + 10) := by unfold rwN; rw [k2 (L + 10) (by omega)]
  obtain ⟨g1, g2, g3⟩ := SOK.rm k3.nn n (rwN I (L + 10)) K k3.s k3.f h6 (by rw [← er]; exact k3.r) h2
  have fK : ∀ z, z < c + 14 ∨ c + 21 ≤ z → rmI L n K z = K z := fun z hz => fr_rmJ (by omega) _ _
  refine ⟨rmI L n K, ?_, fun z hz => by rw [fK z (by omega), k2 z (by omega)], k3.st (fun z hz => fK z (by omega)) (by rw [fK (c + 30) (by omega)]; exact k3.2.2.2.2.1) (by rw [fK (c + 30) (by omega)]; exact k3.2.2.2.2.2.1) g1 hi.nn, fun k hk => ?_⟩
  · unfold s_X8_unweave
    rw [v_rl hi.l, bx_l, show (1 : Int32) = nI 1 from rfl, hi.r, v_rg h1 h2 (by omega), bx_l, k1, bd_some, lx_s, nI_clamp (by omega), g2]
  · obtain ⟨y, y', y1, y2, y3⟩ := g3 k hk
    exact ⟨y, y', by rw [← k2 (L + 12) (by omega)]; exact y1, y2, y3⟩
theorem v_swap (hi : INV N I c L H W) (ha : a < 3) (hb : b < 3) : ∃ J, s_X8_swapCards I c L P (nI a) (nI b) = some (.inl (if a = b then cpF (I ((L + 5) + 2)) (nI a) (I (L + 5) 3).toNatClampNeg else cpF (I ((L + 5) + 2)) (nI a) (I (L + 5) 3).toNatClampNeg + cpF (I ((L + 5) + 2)) (nI b) (I (L + 5) 3).toNatClampNeg), J) ∧ FR c I J ∧ INV N J c L H W ∧ J (L + 10 + 4) a = I (L + 10 + 4) b ∧ J (L + 10 + 4) b = I (L + 10 + 4) a := by
  have e := hi.e
  obtain ⟨K, k1, k2, k3⟩ := v_rem hi
  obtain ⟨g1, g2, g3⟩ := k3.s.exch ha hb
  have fK : ∀ z, z < c + 14 ∨ c + 21 ≤ z → x7_exchangeCards K (L + 10) (nI a) (nI b) z = K z := fun z hz => fr_x7_exchangeCards (by omega)
  refine ⟨x7_exchangeCards K (L + 10) (nI a) (nI b), ?_, fun z hz => by rw [fK z (by omega), k2 z (by omega)], k3.st (fun z hz => fK z (by omega)) (by rw [fK (c + 30) (by omega)]; exact k3.2.2.2.2.1) (by rw [fK (c + 30) (by omega)]; exact k3.2.2.2.2.2.1) g1 hi.nn, ?_, ?_⟩
  · unfold s_X8_swapCards
    rw [v_ck hi ha, bx_l, v_ck hi hb, bx_l, k1, bd_some, lx_s, lx_s, fK (L + 5 + 2) (by omega), fK (L + 5) (by omega), k2 (L + 5 + 2) (by omega), k2 (L + 5) (by omega)]
    by_cases q : a = b
    · subst q; rw [if_pos rfl, if_pos rfl]
    · rw [if_neg q, if_neg fun q2 => q ((nI_eq (by omega) (by omega)).mp q2)]
  · rw [g2, k2 _ (by omega)]
  · rw [g3, k2 _ (by omega)]
theorem v_punch (hi : INV N I c L H W) (ha : a < 3) (hb : b < H) : ∃ J, s_X8_punch I c L P (nI a) (nI b) = some (.inl (!bt (I (L + 10 + 3) a) b), J) ∧ FR c I J ∧ INV N J c L H W ∧ bt (J (L + 10 + 3) a) b = !bt (I (L + 10 + 3) a) b := by
  have e := hi.e
  have hw := hi.hw
  obtain ⟨K, k1, k2, k3⟩ := v_rem hi
  obtain ⟨g1, g2⟩ := k3.s.punch ha hb (by omega)
  have fK : ∀ z, z < c + 14 ∨ c + 21 ≤ z → x7_punchCard K (L + 10) (nI a) (nI b) z = K z := fun z hz => fr_x7_punchCard (by omega)
  have hx : bt (x7_punchCard K (L + 10) (nI a) (nI b) (L + 10 + 3) a) b = !bt (I (L + 10 + 3) a) b := by
    rw [g2, one_bt (by omega) (by omega), k2 _ (by omega), decide_eq_true rfl, Bool.xor_true]
  refine ⟨x7_punchCard K (L + 10) (nI a) (nI b), ?_, fun z hz => by rw [fK z (by omega), k2 z (by omega)], k3.st (fun z hz => fK z (by omega)) (by rw [fK (c + 30) (by omega)]; exact k3.2.2.2.2.1) (by rw [fK (c + 30) (by omega)]; exact k3.2.2.2.2.2.1) g1 hi.nn, hx⟩
  unfold s_X8_punch
  rw [v_ck hi ha, bx_l, v_hk hi hb, bx_l, k1, bd_some, lx_s, atF_nI (by omega) (by omega), hasB_bt (by omega), hx]
theorem v_colour (hi : INV N I c L H W) (ha : a < 3) (hb : b < 6) : ∃ J, s_X8_setCardColour I c L P (nI a) (nI b) = some (.inl (I (L + 10 + 4) a), J) ∧ FR c I J ∧ INV N J c L H W ∧ J (L + 10 + 4) a = nI b := by
  have e := hi.e
  obtain ⟨K, k1, k2, k3⟩ := v_rem hi
  have g1 := k3.s.col ha hb
  rw [← ops_col (show a < 12 by omega)] at g1
  have fK : ∀ z, z < c + 14 ∨ c + 21 ≤ z → x7_changeColour K (L + 10) (nI a) (nI b) z = K z := fun z hz => fr_x7_changeColour (by omega)
  refine ⟨x7_changeColour K (L + 10) (nI a) (nI b), ?_, fun z hz => by rw [fK z (by omega), k2 z (by omega)], k3.st (fun z hz => fK z (by omega)) (by rw [fK (c + 30) (by omega)]; exact k3.2.2.2.2.1) (by rw [fK (c + 30) (by omega)]; exact k3.2.2.2.2.2.1) g1 hi.nn, ?_⟩
  · unfold s_X8_setCardColour
    rw [v_ck hi ha, bx_l, v_yk hi hb, bx_l, k1, bd_some, lx_s, lx_s, atF_nI (by omega) (by omega), k2 _ (by omega)]
  · rw [ops_col (by omega), stI_o (by omega), stI_at]
theorem v_bring (hi : INV N I c L H W) (ha : a < 6) (h1 : 1 ≤ n) (h2 : n ≤ 999) (hM : N + n ≤ 100000) : ∃ J y, s_X8_bringYarn I c L P (nI a) (nI n) = some (.inl (nI (y + n)), J) ∧ FR c I J ∧ INV (N + n) J c L H W ∧ I (L + 10 + 2) a = nI y ∧ y ≤ 100000 := by
  have e := hi.e
  obtain ⟨K, k1, k2, k3⟩ := v_rem hi
  obtain ⟨g1, y, g2, g3⟩ := k3.s.bring (n := n) (Nat.le_refl _) ha (by omega) k3.nn
  have fK : ∀ z, z < c + 14 ∨ c + 21 ≤ z → x7_bring K (L + 10) (nI a) (nI n) z = K z := fun z hz => fr_x7_bring (by omega)
  obtain ⟨r, b, y', -, ⟨b3, -, b5, b6⟩, -⟩ := hi.s
  have hy : I (L + 10 + 2) a = nI (y' a) := b6 a ha
  have g4 : nI (y + n) = nI (y' a + n) := by rw [← nI_add, ← nI_add, ← g2, k2 _ (by omega), hy]
  rw [g4] at g3
  refine ⟨x7_bring K (L + 10) (nI a) (nI n), y' a, ?_, fun z hz => by rw [fK z (by omega), k2 z (by omega)], k3.st (fun z hz => fK z (by omega)) (by rw [fK (c + 30) (by omega)]; exact k3.2.2.2.2.1) (by rw [fK (c + 30) (by omega)]; exact k3.2.2.2.2.2.1) g1 hM, hy, ?_⟩
  · unfold s_X8_bringYarn
    rw [v_yk hi ha, bx_l, show (1 : Int32) = nI 1 from rfl, show (999 : Int32) = nI 999 from rfl, v_rg h1 h2 (by decide), bx_l, k1, bd_some, lx_s, atF_nI (by omega) (by omega), g3]
  · have h3 := ysm_ge (y := y') ha
    have hn := hi.nn
    omega
theorem v_oil (hi : INV N I c L H W) (ha : a < H) : ∃ J, s_X8_oil I c L P (nI a) = some (.inl (I (L + 10 + 1) a), J) ∧ FR c I J ∧ INV N J c L H W ∧ J (L + 10 + 1) a = 0 ∧ bt (J (L + 10) 1) a = false := by
  have e := hi.e
  have hw := hi.hw
  obtain ⟨K, k1, k2, k3⟩ := v_rem hi
  obtain ⟨g1, g2, g3⟩ := k3.s.oil (Nat.le_refl _) ha (by omega)
  have fK : ∀ z, z < c + 14 ∨ c + 21 ≤ z → x7_oilHarness K (L + 10) (nI a) z = K z := fun z hz => fr_x7_oilHarness (by omega)
  refine ⟨x7_oilHarness K (L + 10) (nI a), ?_, fun z hz => by rw [fK z (by omega), k2 z (by omega)], k3.st (fun z hz => fK z (by omega)) (by rw [fK (c + 30) (by omega)]; exact k3.2.2.2.2.1) (by rw [fK (c + 30) (by omega)]; exact k3.2.2.2.2.2.1) g1 hi.nn, g2, g3⟩
  unfold s_X8_oil
  rw [v_hk hi ha, bx_l, k1, bd_some, lx_s, lx_s, atF_nI (by omega) (by omega), k2 _ (by omega)]
/-- a slot holds a state -/
def SV (c k : Nat) (I0 : JI) (L : Nat) (I : JI) : Prop := I (c + 88 + 8 * k) 1 = 1 ∧ SE I0 (L + 10) I (c + 88 + 8 * k + 1)
theorem SV.fr {I0 : JI} (h : SV c k I0 L I) (g : FR c I J) (hk : k < 2) : SV c k I0 L J := by
  refine ⟨by rw [g _ (by omega)]; exact h.1, fun k' j hk' hj => ?_⟩
  rw [g _ (by omega)]; exact h.2 k' j hk' hj
theorem v_save (hi : INV N I c L H W) (hk : k < 2) : ∃ J, s_X8_saveState I c L P (nI k) = some (.inl (nI (rwN I (L + 10))), J) ∧ (∀ z, z < c + 88 → J z = I z) ∧ INV N J c L H W ∧ SV c k I L J := by
  have e := hi.e
  have main : ∀ s, c + 89 ≤ s → s = c + 88 + 8 * k + 1 → (∀ z, z < c + 88 → stI (x7_copyFrom I s (L + 10)) (c + 88 + 8 * k) 1 1 z = I z) ∧ INV N (stI (x7_copyFrom I s (L + 10)) (c + 88 + 8 * k) 1 1) c L H W ∧ SV c k I L (stI (x7_copyFrom I s (L + 10)) (c + 88 + 8 * k) 1 1) := by
    intro s h1 h2
    have f : ∀ z, z < c + 88 → stI (x7_copyFrom I s (L + 10)) (c + 88 + 8 * k) 1 1 z = I z := fun z hz => by
      rw [stI_ne (by omega)]; exact fr_x7_copyFrom (by omega)
    refine ⟨f, hi.st (fun z hz => ?_) (by rw [f _ (by omega)]; exact hi.2.2.2.2.1) (by rw [f _ (by omega)]; exact hi.2.2.2.2.2.1) (hi.s.se (fun k j hk hj => by rw [f _ (by omega)]) fun z _ _ => by rw [f z (by omega)]) hi.nn, by rw [h2]; exact stI_at, fun k' j hk' hj => ?_⟩
    · exact f z (by omega)
    · rw [stI_ne (by omega), ← h2]; exact SE.copy (by omega) k' j hk' hj
  have c5 : Int32.toNatClampNeg 2 = 2 := rfl
  unfold s_X8_saveState
  rw [v_rl hi.l, bx_l, show (2 : Int32) = nI 2 from rfl, v_ix hk (by decide), bx_l]
  rcases (show k = 0 ∨ k = 1 by omega) with rfl | rfl
  · obtain ⟨m1, m2, m3⟩ := main (c + 88 + 1) (by omega) (by omega)
    refine ⟨_, ?_, m1, m2, m3⟩
    rw [if_pos (show nI 0 = 0 from rfl), gd_i hi.d5, lx_s, lx_s, stI_ne (show L + 10 ≠ c + 88 by omega), fr_x7_copyFrom (by omega), hi.r]
  · obtain ⟨m1, m2, m3⟩ := main (c + 96 + 1) (by omega) (by omega)
    refine ⟨_, ?_, m1, m2, m3⟩
    rw [if_neg (by decide), gd_i hi.d5, lx_s, lx_s, stI_ne (show L + 10 ≠ c + 96 by omega), fr_x7_copyFrom (by omega), hi.r]
theorem v_restore {I0 : JI} (hi : INV N I c L H W) (h0 : INV M I0 c L H W) (hM : M ≤ N) (hk : k < 2) (hS : SV c k I0 L I) (hLE : LE L I0 I) : ∃ J, s_X8_restoreState I c L P (nI k) = some (.inl (nI (rwN I0 (L + 10))), J) ∧ INV N J c L H W ∧ SE I0 (L + 10) J (L + 10) ∧ LE L I0 J ∧ J (c + 30) 2 = 0 := by
  have e := hi.e
  obtain ⟨u1, u2⟩ := hS
  have main : ∀ s, c + 89 ≤ s → s = c + 88 + 8 * k + 1 → (I s 5 = 0 ∨ I s 5 = 1) ∧ (stI (x7_copyFrom I (L + 10) s) (c + 30) 2 0 (L + 10) 3 = nI (rwN I0 (L + 10))) ∧ INV N (stI (x7_copyFrom I (L + 10) s) (c + 30) 2 0) c L H W ∧ SE I0 (L + 10) (stI (x7_copyFrom I (L + 10) s) (c + 30) 2 0) (L + 10) ∧ LE L I0 (stI (x7_copyFrom I (L + 10) s) (c + 30) 2 0) ∧ stI (x7_copyFrom I (L + 10) s) (c + 30) 2 0 (c + 30) 2 = 0 := by
    intro s h1 h2
    rw [← h2] at u2
    have f : ∀ z, z < c + 14 ∨ c + 21 ≤ z → z ≠ c + 30 → stI (x7_copyFrom I (L + 10) s) (c + 30) 2 0 z = I z := fun z hz hz2 => by
      rw [stI_ne hz2]; exact fr_x7_copyFrom (by omega)
    have f2 : ∀ k, stI (x7_copyFrom I (L + 10) s) (c + 30) 2 0 (L + 10 + k) = x7_copyFrom I (L + 10) s (L + 10 + k) ∨ 7 ≤ k := fun k => by
      by_cases q : 7 ≤ k
      · exact Or.inr q
      · exact Or.inl (stI_ne (by omega))
    have s1 : SE I0 (L + 10) (stI (x7_copyFrom I (L + 10) s) (c + 30) 2 0) (L + 10) := fun k' j hk' hj => by
      rw [u2 k' j hk' hj, stI_ne (by omega)]; exact SE.copy (by omega) k' j hk' hj
    have l1 : LE L I0 (stI (x7_copyFrom I (L + 10) s) (c + 30) 2 0) := fun z z1 z2 => by rw [f z (by omega) (by omega)]; exact hLE z z1 z2
    have f3 : stI (x7_copyFrom I (L + 10) s) (c + 30) 2 0 (c + 30) 1 = I (c + 30) 1 := by rw [stI_aj (by decide), fr_x7_copyFrom (by omega)]
    refine ⟨by rw [← u2.sc (j := 5) (by decide)]; exact h0.d5, by rw [← s1.sc (j := 3) (by decide)]; exact h0.r, ⟨e, by rw [f c (by omega) (by omega)]; exact hi.l, h0.f.le l1, (h0.s.se s1 l1).mono hM, by rw [f3]; exact hi.2.2.2.2.1, ⟨0, by omega, stI_at⟩, hi.nn⟩, s1, l1, stI_at⟩
  unfold s_X8_restoreState
  rw [show (2 : Int32) = nI 2 from rfl, v_ix hk (by decide), bx_l]
  rcases (show k = 0 ∨ k = 1 by omega) with rfl | rfl
  · obtain ⟨m1, m2, m3, m4, m5, m6⟩ := main (c + 88 + 1) (by omega) (by omega)
    refine ⟨_, ?_, m3, m4, m5, m6⟩
    have u1' : I (c + 88) 1 = 1 := u1
    rw [if_pos (show nI 0 = 0 from rfl), gd_i (Or.inr u1'), u1', if_pos (by decide), gd_i m1, lx_s, lx_s]
    exact congrArg (fun x => some (Sum.inl x, _)) m2
  · obtain ⟨m1, m2, m3, m4, m5, m6⟩ := main (c + 96 + 1) (by omega) (by omega)
    refine ⟨_, ?_, m3, m4, m5, m6⟩
    have u1' : I (c + 96) 1 = 1 := u1
    rw [if_neg (by decide), gd_i (Or.inr u1'), u1', if_pos (by decide), gd_i m1, lx_s, lx_s]
    exact congrArg (fun x => some (Sum.inl x, _)) m2
/-- an obstacle of yarn -/
theorem obst3 (hi : INV N I c L H W) {x : Nat} (hx : x < 6) (hc : I (L + 10 + 4) (cdI I L (rwN I (L + 10))) = nI x) (ho : x3_obst I L (L + 10) = 3) : I (L + 10 + 2) x < nI W := by
  have h6 := hi.r6
  obtain ⟨D, ⟨d1, d2⟩, d3⟩ := hi.dk
  obtain ⟨c1, c2⟩ := hi.f.cfr (i := rwN I (L + 10)) (by omega)
  unfold x3_obst at ho
  rw [d3, if_neg (nI_ne0 d1 (by omega)), hi.r, c1, atF_nI (show cdI I L (rwN I (L + 10)) < 12 by omega) (by omega), hc, atF_nI hx (by omega), hi.h4] at ho
  split at ho
  · exact absurd ho (by decide)
  · split at ho
    · assumption
    · split at ho
      · exact absurd ho (by decide)
      · exact absurd ho (by decide)
theorem obst_or : x3_obst I L s = 0 ∨ x3_obst I L s = nI 1 ∨ x3_obst I L s = nI 2 ∨ x3_obst I L s = nI 3 ∨ x3_obst I L s = nI 4 := by
  unfold x3_obst
  split
  · exact Or.inr (Or.inl rfl)
  · split
    · exact Or.inr (Or.inr (Or.inl rfl))
    · split
      · exact Or.inr (Or.inr (Or.inr (Or.inl rfl)))
      · split
        · exact Or.inr (Or.inr (Or.inr (Or.inr rfl)))
        · exact Or.inl rfl
theorem poss0 : (wuN L s 60 I = 0 ↔ ¬ x3_obst I L s = 0) := by
  rw [show (60 : Nat) = 59 + 1 from rfl, wuN]
  by_cases q : x3_obst I L s = 0
  · rw [if_pos q]; exact ⟨fun h => by omega, fun h => absurd q h⟩
  · rw [if_neg q]; exact ⟨fun _ => q, fun _ => rfl⟩
end MUT
