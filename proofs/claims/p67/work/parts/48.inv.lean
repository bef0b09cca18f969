/-! what the class answers of a good loom -/
def INV (N : Nat) (I : JI) (c L H W : Nat) : Prop := L = c + 4 ∧ I c 6 = 1 ∧ FOK I L H W ∧ SOK N I L (L + 10) H W ∧ (∃ x, x < 8 ∧ I (c + 30) 1 = nI x) ∧ (∃ u, u ≤ 8 ∧ I (c + 30) 2 = nI u) ∧ N ≤ 100000
theorem bx_l {α β : Type} (v : α) (J : JI) (k : α → JI → Option ((β ⊕ String) × JI)) : bx (some (.inl v, J)) k = k v J := rfl
section INVS
variable {I J K : JI} {L P c H W N M a b n : Nat}
theorem v_rl (hl : I c 6 = 1) : s_X8_requireLoaded I c L P = some (.inl (), I) := by
  unfold s_X8_requireLoaded
  rw [gd_i (Or.inr hl), hl, if_pos (by decide)]
theorem v_ix {m : Nat} (h : n < m) (hm : m < 2 ^ 31) : s_X8_requireIndex I (nI n) (nI m) = some (.inl (), I) := by
  unfold s_X8_requireIndex
  rw [if_neg (show ¬ nI n < 0 from nI_nlt (b := 0) (Nat.zero_le n) (by omega)), if_pos (nI_lt h hm)]
theorem v_rg {lo hi : Nat} (h1 : lo ≤ n) (h2 : n ≤ hi) (hm : hi < 2 ^ 31) : s_X8_requireRange I (nI n) (nI lo) (nI hi) = some (.inl (), I) := by
  unfold s_X8_requireRange
  rw [if_neg (nI_nlt h1 (by omega)), if_pos (nI_le h2 hm)]
theorem INV.l (hi : INV N I c L H W) : I c 6 = 1 := hi.2.1
theorem INV.f (hi : INV N I c L H W) : FOK I L H W := hi.2.2.1
theorem INV.s (hi : INV N I c L H W) : SOK N I L (L + 10) H W := hi.2.2.2.1
theorem INV.e (hi : INV N I c L H W) : L = c + 4 := hi.1
theorem INV.nn (hi : INV N I c L H W) : N ≤ 100000 := hi.2.2.2.2.2.2
theorem INV.hw (hi : INV N I c L H W) : (2 ≤ H ∧ H ≤ 3) ∧ 1 ≤ W ∧ W ≤ 4 := hi.f.1
theorem INV.h0 (hi : INV N I c L H W) : I L 0 = nI H := hi.f.2.1.1
theorem INV.h4 (hi : INV N I c L H W) : I L 4 = nI W := hi.f.2.1.2.1
theorem INV.h7 (hi : INV N I c L H W) : I L 7 = nI 3 := hi.f.2.1.2.2.1
theorem INV.r (hi : INV N I c L H W) : I (L + 10) 3 = nI (rwN I (L + 10)) := hi.s.rw.1
theorem INV.r6 (hi : INV N I c L H W) : rwN I (L + 10) ≤ 60 := hi.s.rw.2
theorem INV.d5 (hi : INV N I c L H W) : I (L + 10) 5 = 0 ∨ I (L + 10) 5 = 1 := by
  obtain ⟨r, b, y, -, -, -, g8, -⟩ := hi.s; exact g8
theorem INV.dk (hi : INV N I c L H W) : ∃ D, (0 < D ∧ D ≤ 100) ∧ I (L + 5) 3 = nI D := by
  obtain ⟨-, -, -, -, D, d1, d2, -⟩ := hi.f; exact ⟨D, d1, d2⟩
theorem v_hk (hi : INV N I c L H W) (h : a < H) : s_X8_requireHarness I c L P (nI a) = some (.inl (), I) := by
  unfold s_X8_requireHarness
  rw [v_rl hi.l, bx_l, hi.h0, v_ix h (by have := hi.hw; omega), bx_l]
theorem v_ck (hi : INV N I c L H W) (h : a < 3) : s_X8_requireCard I c L P (nI a) = some (.inl (), I) := by
  unfold s_X8_requireCard
  rw [v_rl hi.l, bx_l, hi.h7, v_ix h (by omega), bx_l]
theorem v_wk (hi : INV N I c L H W) (h : a < W) : s_X8_requireWarp I c L P (nI a) = some (.inl (), I) := by
  unfold s_X8_requireWarp
  rw [v_rl hi.l, bx_l, hi.h4, v_ix h (by have := hi.hw; omega), bx_l]
theorem v_rk (hi : INV N I c L H W) (h : a < rwN I (L + 10)) : s_X8_requireRow I c L P (nI a) = some (.inl (), I) := by
  unfold s_X8_requireRow
  rw [v_rl hi.l, bx_l, hi.r, v_ix h (by have := hi.r6; omega), bx_l]
theorem v_yk (hi : INV N I c L H W) (h : a < 6) : s_X8_requireColour I c L P (nI a) = some (.inl (), I) := by
  unfold s_X8_requireColour
  rw [v_rl hi.l, bx_l, show (0 : Int32) = nI 0 from rfl, show (5 : Int32) = nI 5 from rfl, v_rg (Nat.zero_le a) (by omega) (by decide), bx_l]
theorem v_harnessCount (hi : INV N I c L H W) : s_X8_harnessCount I c L P = some (.inl (nI H), I) := by
  unfold s_X8_harnessCount; rw [v_rl hi.l, bx_l, hi.h0]
theorem v_warpCount (hi : INV N I c L H W) : s_X8_warpCount I c L P = some (.inl (nI W), I) := by
  unfold s_X8_warpCount; rw [v_rl hi.l, bx_l, hi.h4]
theorem v_cardCount (hi : INV N I c L H W) : s_X8_cardCount I c L P = some (.inl (nI 3), I) := by
  unfold s_X8_cardCount; rw [v_rl hi.l, bx_l, hi.h7]
theorem v_rowCount (hi : INV N I c L H W) : s_X8_rowCount I c L P = some (.inl (nI (rwN I (L + 10))), I) := by
  unfold s_X8_rowCount; rw [v_rl hi.l, bx_l, hi.r]
theorem v_brokenCount (hi : INV N I c L H W) : s_X8_brokenCount I c L P = some (.inl (bcF (I (L + 10) 2)), I) := by
  unfold s_X8_brokenCount; rw [v_rl hi.l, bx_l]
theorem v_isLifted (hi : INV N I c L H W) (h : a < H) : s_X8_isLifted I c L P (nI a) = some (.inl (bt (I (L + 10) 0) a), I) := by
  unfold s_X8_isLifted; rw [v_hk hi h, bx_l, hasB_bt (by have := hi.hw; omega)]
theorem v_isStuck (hi : INV N I c L H W) (h : a < H) : s_X8_isStuck I c L P (nI a) = some (.inl (bt (I (L + 10) 1) a), I) := by
  unfold s_X8_isStuck; rw [v_hk hi h, bx_l, hasB_bt (by have := hi.hw; omega)]
theorem v_wear (hi : INV N I c L H W) (h : a < H) : s_X8_wear I c L P (nI a) = some (.inl (I (L + 10 + 1) a), I) := by
  unfold s_X8_wear; rw [v_hk hi h, bx_l, atF_nI (by have := hi.hw; omega) (by have := hi.hw; omega)]
theorem v_lifts (hi : INV N I c L H W) (h : a < 3) (h2 : b < H) : s_X8_lifts I c L P (nI a) (nI b) = some (.inl (bt (I (L + 10 + 3) a) b), I) := by
  unfold s_X8_lifts; rw [v_ck hi h, bx_l, v_hk hi h2, bx_l, atF_nI (by omega) (by omega), hasB_bt (by have := hi.hw; omega)]
theorem v_cardColour (hi : INV N I c L H W) (h : a < 3) : s_X8_cardColour I c L P (nI a) = some (.inl (I (L + 10 + 4) a), I) := by
  unfold s_X8_cardColour; rw [v_ck hi h, bx_l, atF_nI (by omega) (by omega)]
theorem v_liftedWarps (hi : INV N I c L H W) (h : a < 3) : s_X8_liftedWarps I c L P (nI a) = some (.inl (bcF (x3_mask I L (I (L + 10 + 3) a))), I) := by
  unfold s_X8_liftedWarps; rw [v_ck hi h, bx_l, atF_nI (by omega) (by omega)]
theorem v_cardUses (hi : INV N I c L H W) (h : a < 3) : s_X8_cardUses I c L P (nI a) = some (.inl (cpF (I ((L + 5) + 2)) (nI a) (I (L + 5) 3).toNatClampNeg), I) := by
  unfold s_X8_cardUses; rw [v_ck hi h, bx_l]
theorem v_cellColour (hi : INV N I c L H W) (h : a < rwN I (L + 10)) (h2 : b < W) : s_X8_cellColour I c L P (nI a) (nI b) = some (.inl (x3_cell I L (nI a) (nI b)), I) := by
  unfold s_X8_cellColour; rw [v_rk hi h, bx_l, v_wk hi h2, bx_l]
theorem v_showsWarp (hi : INV N I c L H W) (h : a < rwN I (L + 10)) (h2 : b < W) : s_X8_showsWarp I c L P (nI a) (nI b) = some (.inl (bt (I (L + 10 + 5) a) b), I) := by
  have h6 := hi.r6
  unfold s_X8_showsWarp; rw [v_rk hi h, bx_l, v_wk hi h2, bx_l, atF_nI (by omega) (by omega), hasB_bt (by have := hi.hw; omega)]
theorem v_cellsOfColour (hi : INV N I c L H W) (h : a < 6) : s_X8_cellsOfColour I c L P (nI a) = some (.inl (nI (ccT I L W a (rwN I (L + 10)))), I) := by
  unfold s_X8_cellsOfColour; rw [v_yk hi h, bx_l]
  have := hi.hw
  rw [show (I (L + 10) 3).toNatClampNeg = rwN I (L + 10) from rfl, ccR_eq hi.h4 (by omega)]
theorem v_yarn (hi : INV N I c L H W) (h : a < 6) : s_X8_yarn I c L P (nI a) = some (.inl (I (L + 10 + 2) a), I) := by
  unfold s_X8_yarn; rw [v_yk hi h, bx_l, atF_nI (by omega) (by omega)]
theorem v_wrongCount (hi : INV N I c L H W) : s_X8_wrongCount I c L P = some (.inl (cwF I L (rwN I (L + 10))), I) := by
  unfold s_X8_wrongCount; rw [v_rl hi.l, bx_l]; rfl
theorem v_firstWrongRow (hi : INV N I c L H W) : s_X8_firstWrongRow I c L P = some (.inl (fwF I L (rwN I (L + 10)) 0), I) := by
  unfold s_X8_firstWrongRow; rw [v_rl hi.l, bx_l]; rfl
theorem v_swapFirst (hi : INV N I c L H W) : s_X8_swapFirst I c L P = some (.inl (if x3_pair I L = -1 then -1 else x3_pair I L / 12), I) := by
  unfold s_X8_swapFirst; rw [v_rl hi.l, bx_l]; split <;> rfl
theorem v_swapSecond (hi : INV N I c L H W) : s_X8_swapSecond I c L P = some (.inl (if x3_pair I L = -1 then -1 else x3_pair I L - x3_pair I L / 12 * 12), I) := by
  unfold s_X8_swapSecond; rw [v_rl hi.l, bx_l]; split <;> rfl
theorem v_rowPeriod (hi : INV N I c L H W) : ∃ p, p ≤ rwN I (L + 10) ∧ s_X8_rowPeriod I c L P = some (.inl (nI p), I) := by
  have h6 := hi.r6
  obtain ⟨p, p1, p2⟩ := lrd_le hi.r (rwN I (L + 10) - 1) 1 (by omega)
  refine ⟨p, p1, ?_⟩
  unfold s_X8_rowPeriod; rw [v_rl hi.l, bx_l, show (I (L + 10) 3).toNatClampNeg = rwN I (L + 10) from rfl, p2]
theorem v_imbalance (hi : INV N I c L H W) : s_X8_imbalance I c L P = some (.inl 0, I) := by
  unfold s_X8_imbalance; rw [v_rl hi.l, bx_l, lx_s, bal0 hi.f hi.s, gd_i hi.d5]
  rcases hi.d5 with e | e
  · rw [e, if_neg (by decide), lx_s, show (I (L + 10) 3).toNatClampNeg = rwN I (L + 10) from rfl, und0 hi.f hi.s e]; rfl
  · rw [e, if_pos (by decide)]; rfl
theorem v_weaveObstacle (hi : INV N I c L H W) : s_X8_weaveObstacle I c L P = some (.inl (x3_obst I L (L + 10)), I) := by
  unfold s_X8_weaveObstacle; rw [v_rl hi.l, bx_l]
theorem v_nextCard (hi : INV N I c L H W) : s_X8_nextCard I c L P = some (.inl (nI (cdI I L (rwN I (L + 10)))), I) := by
  have h6 := hi.r6
  unfold s_X8_nextCard; rw [v_rl hi.l, bx_l, hi.r, (hi.f.cfr (by omega)).1]
/-- what is kept: all but the place ahead -/
theorem INV.fr (hi : INV N I c L H W) (h : ∀ z, z < c + 21 ∨ c + 28 ≤ z → J z = I z) : INV N J c L H W := by
  obtain ⟨e, i1, i2, i3, i4, i5, i6⟩ := hi
  have hLE : LE L I J := fun z h1 h2 => (h z (by omega)).symm
  refine ⟨e, by rw [h c (by omega)]; exact i1, i2.le hLE, i3.se (fun k j hk hj => by rw [h (L + 10 + k) (by omega)]) hLE, by rw [h (c + 30) (by omega)]; exact i4, by rw [h (c + 30) (by omega)]; exact i5, i6⟩
/-- another state -/
theorem INV.st (hi : INV N I c L H W) (h : ∀ z, z < c + 14 → J z = I z) (h1 : ∃ x, x < 8 ∧ J (c + 30) 1 = nI x) (h2 : ∃ u, u ≤ 8 ∧ J (c + 30) 2 = nI u) (hs : SOK M J L (L + 10) H W) (hM : M ≤ 100000) : INV M J c L H W := by
  obtain ⟨e, i1, i2, i3, i4, i5, i6⟩ := hi
  exact ⟨e, by rw [h c (by omega)]; exact i1, i2.le fun z h1 h2 => (h z (by omega)).symm, hs, h1, h2, hM⟩
theorem INV.mono (hi : INV N I c L H W) (h : N ≤ M) (hM : M ≤ 100000) : INV M I c L H W := by
  obtain ⟨e, i1, i2, i3, i4, i5, i6⟩ := hi
  exact ⟨e, i1, i2, i3.mono h, i4, i5, hM⟩
/-- the history -/
theorem v_remember (hi : INV N I c L H W) : ∃ J, s_X1_remember I (c + 30) (L + 10) = some J ∧ (∀ z, z < c + 30 ∨ c + 88 ≤ z → J z = I z) ∧ (∃ x, x < 8 ∧ J (c + 30) 1 = nI x) ∧ ∃ u, u ≤ 8 ∧ J (c + 30) 2 = nI u := by
  obtain ⟨e, i1, i2, i3, ⟨x, x8, hx⟩, ⟨u, u8, hu⟩, i6⟩ := id hi
  have cx : (nI x).toNatClampNeg = x := nI_clamp (by omega)
  have f1 : x7_copyFrom I (c + 30 + 2 + 7 * x) (L + 10) (c + 30) = I (c + 30) := fr_x7_copyFrom (by omega)
  have h1 : x7_copyFrom I (c + 30 + 2 + 7 * x) (L + 10) (c + 30) 1 = nI x := by rw [f1]; exact hx
  have h2 : ∀ v, stI (x7_copyFrom I (c + 30 + 2 + 7 * x) (L + 10)) (c + 30) 1 v (c + 30) 2 = nI u := fun v => by rw [stI_aj (by decide), f1]; exact hu
  have hm : ∃ m, m ≤ 8 ∧ mnF (nI u + 1) 8 = nI m := by
    rw [nI_1, show (8 : Int32) = nI 8 from rfl]
    rcases Nat.lt_or_ge u 8 with q | q
    · exact ⟨u + 1, by omega, mn_l (by omega) (by decide)⟩
    · exact ⟨8, Nat.le_refl 8, mn_r (by omega) (by omega)⟩
  obtain ⟨m, m8, em⟩ := hm
  refine ⟨stI (stI (x7_copyFrom I (c + 30 + 2 + 7 * x) (L + 10)) (c + 30) 1 (nI ((x + 1) % 8))) (c + 30) 2 (nI m), ?_, fun z hz => ?_, ⟨(x + 1) % 8, Nat.mod_lt _ (by decide), ?_⟩, m, m8, stI_at⟩
  · unfold s_X1_remember
    rw [hx, gd_i (vp_nI x8 (by omega)), gd_i hi.d5, lx_s, lx_s, lx_s, cx, h1, nI_1, show (8 : Int32) = nI 8 from rfl, nI_modt (by omega) (by decide) (by decide), h2, show nI 8 = (8 : Int32) from rfl, em]
  · rw [stI_ne (by omega), stI_ne (by omega)]; exact fr_x7_copyFrom (by omega)
  · rw [stI_aj (by decide), stI_at]
/-- after the history has been kept, the loom is as before -/
theorem v_rem (hi : INV N I c L H W) : ∃ J, s_X1_remember I (c + 30) (L + 10) = some J ∧ (∀ z, z < c + 30 ∨ c + 88 ≤ z → J z = I z) ∧ INV N J c L H W := by
  obtain ⟨J, j1, j2, j3, j4⟩ := v_remember hi
  have e := hi.e
  exact ⟨J, j1, j2, hi.st (fun z hz => j2 z (by omega)) j3 j4 (hi.s.se (fun k j hk hj => by rw [j2 (L + 10 + k) (by omega)]) fun z h1 h2 => by rw [j2 z (by omega)]) hi.nn⟩
/-- a copied state -/
theorem SE.copy {s t : Nat} (hd : t + 7 ≤ s ∨ s + 7 ≤ t) : SE I s (x7_copyFrom I t s) t := fun k j hk hj => by
  obtain ⟨a1, a2, a3, a4, a5, a6⟩ := copy_a (I := I) (s := s) (k := t) hd
  rcases (show k = 0 ∨ k = 1 ∨ k = 2 ∨ k = 3 ∨ k = 4 ∨ k = 5 ∨ k = 6 by omega) with rfl | rfl | rfl | rfl | rfl | rfl | rfl
  · exact (copy_s hd (show j ≤ 5 from Nat.le_of_lt_succ hj)).symm
  · exact (a1 j hj).symm
  · exact (a2 j hj).symm
  · exact (a3 j hj).symm
  · exact (a4 j hj).symm
  · exact (a5 j hj).symm
  · exact (a6 j hj).symm
theorem LE.copy {s t : Nat} (h : L + 10 ≤ t) : LE L I (x7_copyFrom I t s) := fun z _ h2 => (fr_x7_copyFrom (by omega)).symm
end INVS
