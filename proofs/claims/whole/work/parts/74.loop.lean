/-! the law's loop -/
theorem and63 (x : Int32) : ∃ j : Nat, j < 64 ∧ x &&& 63 = nI j := by
  refine ⟨(x &&& 63).toUInt32.toNat, ?_, ?_⟩
  · have e : (x &&& 63).toUInt32 = x.toUInt32 &&& 63 := rfl
    rw [e, UInt32.toNat_and]
    exact Nat.lt_of_le_of_lt Nat.and_le_right (by decide)
  · show x &&& 63 = Int32.ofNat _
    apply Int32.toBitVec_inj.mp
    apply BitVec.eq_of_toNat_eq
    have hlt : (x &&& 63).toBitVec.toNat < 2 ^ 32 := (x &&& 63).toBitVec.isLt
    show (x &&& 63).toBitVec.toNat = (BitVec.ofNat 32 (x &&& 63).toBitVec.toNat).toNat
    rw [BitVec.toNat_ofNat, Nat.mod_eq_of_lt hlt]
theorem lt_end {N j : Nat} (hN : N ≤ 3072) (hj : 6 * j ≤ N) (h : N < 6 * j + 6) : Int32.ofNat N - 6 < nI (6 * j) := by
  rcases Nat.lt_or_ge N 6 with q | q
  · have e : j = 0 := by omega
    subst e
    match N, q with
    | 0, _ => decide
    | 1, _ => decide
    | 2, _ => decide
    | 3, _ => decide
    | 4, _ => decide
    | 5, _ => decide
    | n + 6, q => exact absurd q (by omega)
  · have e : Int32.ofNat N - 6 = nI (N - 6) := nI_sub q
    rw [e, Int32.lt_iff_toInt_lt, nI_toInt (by omega), nI_toInt (by omega)]
    omega
section LOOP
variable {Ω : JO} {b N c L P k n : Nat} {xs : Nat → Int32} {i : Int32} {I : JI} {S : JS}
theorem k_all {j : Nat} (hj : j < 64) (h : LI I S c L P) (hk : k ≤ 600000) (hn : n ≤ 7000000) (hx : vp_in (i + 1) N ∧ vp_in (i + 2) N ∧ vp_in (i + 3) N ∧ vp_in (i + 4) N ∧ vp_in (i + 5) N) (nx : ∀ J S2 L2 P2, LI J S2 c L2 P2 → AA Ω m_L_law (LF Ω b N xs) (k + 10) (n + 60) 3664 (lvL b c i) [] J S2) : AA Ω m_L_law (LF Ω b N xs) k n 45 (lvL b c i) [.int (nI j)] I S := by
  match j, hj with
  | 0, _ => exact r_tableIn (tgt := 316) dL_law_45 (by decide) (by decide) rfl (by decide) (k_append h hk hn hx nx)
  | 1, _ => exact r_tableIn (tgt := 389) dL_law_45 (by decide) (by decide) rfl (by decide) (k_parseSetup h hk hn hx nx)
  | 2, _ => exact r_tableIn (tgt := 445) dL_law_45 (by decide) (by decide) rfl (by decide) (k_parseErrorCode h hk hn hx nx)
  | 3, _ => exact r_tableIn (tgt := 458) dL_law_45 (by decide) (by decide) rfl (by decide) (k_parseErrorPosition h hk hn hx nx)
  | 4, _ => exact r_tableIn (tgt := 471) dL_law_45 (by decide) (by decide) rfl (by decide) (k_bufferLength h hk hn hx nx)
  | 5, _ => exact r_tableIn (tgt := 484) dL_law_45 (by decide) (by decide) rfl (by decide) (k_harnessCount h hk hn hx nx)
  | 6, _ => exact r_tableIn (tgt := 528) dL_law_45 (by decide) (by decide) rfl (by decide) (k_warpCount h hk hn hx nx)
  | 7, _ => exact r_tableIn (tgt := 572) dL_law_45 (by decide) (by decide) rfl (by decide) (k_warpHarness h hk hn hx nx)
  | 8, _ => exact r_tableIn (tgt := 628) dL_law_45 (by decide) (by decide) rfl (by decide) (k_warpColour h hk hn hx nx)
  | 9, _ => exact r_tableIn (tgt := 684) dL_law_45 (by decide) (by decide) rfl (by decide) (k_warpsOn h hk hn hx nx)
  | 10, _ => exact r_tableIn (tgt := 740) dL_law_45 (by decide) (by decide) rfl (by decide) (k_isBroken h hk hn hx nx)
  | 11, _ => exact r_tableIn (tgt := 803) dL_law_45 (by decide) (by decide) rfl (by decide) (k_brokenCount h hk hn hx nx)
  | 12, _ => exact r_tableIn (tgt := 847) dL_law_45 (by decide) (by decide) rfl (by decide) (k_isLifted h hk hn hx nx)
  | 13, _ => exact r_tableIn (tgt := 910) dL_law_45 (by decide) (by decide) rfl (by decide) (k_wear h hk hn hx nx)
  | 14, _ => exact r_tableIn (tgt := 966) dL_law_45 (by decide) (by decide) rfl (by decide) (k_isStuck h hk hn hx nx)
  | 15, _ => exact r_tableIn (tgt := 1029) dL_law_45 (by decide) (by decide) rfl (by decide) (k_cardCount h hk hn hx nx)
  | 16, _ => exact r_tableIn (tgt := 1073) dL_law_45 (by decide) (by decide) rfl (by decide) (k_lifts h hk hn hx nx)
  | 17, _ => exact r_tableIn (tgt := 1148) dL_law_45 (by decide) (by decide) rfl (by decide) (k_cardColour h hk hn hx nx)
  | 18, _ => exact r_tableIn (tgt := 1204) dL_law_45 (by decide) (by decide) rfl (by decide) (k_liftedWarps h hk hn hx nx)
  | 19, _ => exact r_tableIn (tgt := 1260) dL_law_45 (by decide) (by decide) rfl (by decide) (k_liftDistance h hk hn hx nx)
  | 20, _ => exact r_tableIn (tgt := 1328) dL_law_45 (by decide) (by decide) rfl (by decide) (k_oppositeCard h hk hn hx nx)
  | 21, _ => exact r_tableIn (tgt := 1384) dL_law_45 (by decide) (by decide) rfl (by decide) (k_deckLength h hk hn hx nx)
  | 22, _ => exact r_tableIn (tgt := 1428) dL_law_45 (by decide) (by decide) rfl (by decide) (k_deckCard h hk hn hx nx)
  | 23, _ => exact r_tableIn (tgt := 1484) dL_law_45 (by decide) (by decide) rfl (by decide) (k_cardUses h hk hn hx nx)
  | 24, _ => exact r_tableIn (tgt := 1540) dL_law_45 (by decide) (by decide) rfl (by decide) (k_deckDepth h hk hn hx nx)
  | 25, _ => exact r_tableIn (tgt := 1584) dL_law_45 (by decide) (by decide) rfl (by decide) (k_deckPeriod h hk hn hx nx)
  | 26, _ => exact r_tableIn (tgt := 1628) dL_law_45 (by decide) (by decide) rfl (by decide) (k_isPalindrome h hk hn hx nx)
  | 27, _ => exact r_tableIn (tgt := 1679) dL_law_45 (by decide) (by decide) rfl (by decide) (k_rowCount h hk hn hx nx)
  | 28, _ => exact r_tableIn (tgt := 1723) dL_law_45 (by decide) (by decide) rfl (by decide) (k_cellColour h hk hn hx nx)
  | 29, _ => exact r_tableIn (tgt := 1791) dL_law_45 (by decide) (by decide) rfl (by decide) (k_showsWarp h hk hn hx nx)
  | 30, _ => exact r_tableIn (tgt := 1866) dL_law_45 (by decide) (by decide) rfl (by decide) (k_longestWarpFloat h hk hn hx nx)
  | 31, _ => exact r_tableIn (tgt := 1922) dL_law_45 (by decide) (by decide) rfl (by decide) (k_longestWeftFloat h hk hn hx nx)
  | 32, _ => exact r_tableIn (tgt := 1978) dL_law_45 (by decide) (by decide) rfl (by decide) (k_cellsOfColour h hk hn hx nx)
  | 33, _ => exact r_tableIn (tgt := 2034) dL_law_45 (by decide) (by decide) rfl (by decide) (k_rowPeriod h hk hn hx nx)
  | 34, _ => exact r_tableIn (tgt := 2078) dL_law_45 (by decide) (by decide) rfl (by decide) (k_warpShare h hk hn hx nx)
  | 35, _ => exact r_tableIn (tgt := 2144) dL_law_45 (by decide) (by decide) rfl (by decide) (k_averageLifts h hk hn hx nx)
  | 36, _ => exact r_tableIn (tgt := 2209) dL_law_45 (by decide) (by decide) rfl (by decide) (k_isWrong h hk hn hx nx)
  | 37, _ => exact r_tableIn (tgt := 2272) dL_law_45 (by decide) (by decide) rfl (by decide) (k_wrongCount h hk hn hx nx)
  | 38, _ => exact r_tableIn (tgt := 2316) dL_law_45 (by decide) (by decide) rfl (by decide) (k_firstWrongRow h hk hn hx nx)
  | 39, _ => exact r_tableIn (tgt := 2360) dL_law_45 (by decide) (by decide) rfl (by decide) (k_swapFirst h hk hn hx nx)
  | 40, _ => exact r_tableIn (tgt := 2404) dL_law_45 (by decide) (by decide) rfl (by decide) (k_swapSecond h hk hn hx nx)
  | 41, _ => exact r_tableIn (tgt := 2448) dL_law_45 (by decide) (by decide) rfl (by decide) (k_yarn h hk hn hx nx)
  | 42, _ => exact r_tableIn (tgt := 2504) dL_law_45 (by decide) (by decide) rfl (by decide) (k_yarnNeeded h hk hn hx nx)
  | 43, _ => exact r_tableIn (tgt := 2560) dL_law_45 (by decide) (by decide) rfl (by decide) (k_nextCard h hk hn hx nx)
  | 44, _ => exact r_tableIn (tgt := 2604) dL_law_45 (by decide) (by decide) rfl (by decide) (k_weaveObstacle h hk hn hx nx)
  | 45, _ => exact r_tableIn (tgt := 2648) dL_law_45 (by decide) (by decide) rfl (by decide) (k_picksPossible h hk hn hx nx)
  | 46, _ => exact r_tableIn (tgt := 2692) dL_law_45 (by decide) (by decide) rfl (by decide) (k_picksUntilStuck h hk hn hx nx)
  | 47, _ => exact r_tableIn (tgt := 2736) dL_law_45 (by decide) (by decide) rfl (by decide) (k_imbalance h hk hn hx nx)
  | 48, _ => exact r_tableIn (tgt := 2780) dL_law_45 (by decide) (by decide) rfl (by decide) (k_writeRow h hk hn hx nx)
  | 49, _ => exact r_tableIn (tgt := 2836) dL_law_45 (by decide) (by decide) rfl (by decide) (k_writeCard h hk hn hx nx)
  | 50, _ => exact r_tableIn (tgt := 2892) dL_law_45 (by decide) (by decide) rfl (by decide) (k_writeDeck h hk hn hx nx)
  | 51, _ => exact r_tableIn (tgt := 2936) dL_law_45 (by decide) (by decide) rfl (by decide) (k_outputByte h hk hn hx nx)
  | 52, _ => exact r_tableIn (tgt := 2992) dL_law_45 (by decide) (by decide) rfl (by decide) (k_weave h hk hn hx nx)
  | 53, _ => exact r_tableIn (tgt := 3048) dL_law_45 (by decide) (by decide) rfl (by decide) (k_unweave h hk hn hx nx)
  | 54, _ => exact r_tableIn (tgt := 3104) dL_law_45 (by decide) (by decide) rfl (by decide) (k_swapCards h hk hn hx nx)
  | 55, _ => exact r_tableIn (tgt := 3172) dL_law_45 (by decide) (by decide) rfl (by decide) (k_punch h hk hn hx nx)
  | 56, _ => exact r_tableIn (tgt := 3247) dL_law_45 (by decide) (by decide) rfl (by decide) (k_setCardColour h hk hn hx nx)
  | 57, _ => exact r_tableIn (tgt := 3315) dL_law_45 (by decide) (by decide) rfl (by decide) (k_bringYarn h hk hn hx nx)
  | 58, _ => exact r_tableIn (tgt := 3383) dL_law_45 (by decide) (by decide) rfl (by decide) (k_oil h hk hn hx nx)
  | 59, _ => exact r_tableIn (tgt := 3439) dL_law_45 (by decide) (by decide) rfl (by decide) (k_mend h hk hn hx nx)
  | 60, _ => exact r_tableIn (tgt := 3495) dL_law_45 (by decide) (by decide) rfl (by decide) (k_undo h hk hn hx nx)
  | 61, _ => exact r_tableIn (tgt := 3539) dL_law_45 (by decide) (by decide) rfl (by decide) (k_undoCount h hk hn hx nx)
  | 62, _ => exact r_tableIn (tgt := 3552) dL_law_45 (by decide) (by decide) rfl (by decide) (k_saveState h hk hn hx nx)
  | 63, _ => exact r_tableIn (tgt := 3608) dL_law_45 (by decide) (by decide) rfl (by decide) (k_restoreState h hk hn hx nx)
  | j + 64, hj => exact absurd hj (by omega)
theorem law_loop {N : Nat} (hN : N ≤ 3072) : ∀ (f j k n : Nat) (I : JI) (S : JS) (L P : Nat), N ≤ 6 * (j + f) → k ≤ 141 + 10 * j → n ≤ 31709 + 60 * j → 6 * j ≤ N → LI I S c L P → AA Ω m_L_law (LF Ω b N xs) k n 28 (lvL b c (nI (6 * j))) [] I S := by
  intro f
  induction f with
  | zero =>
    intro j k n I S L P hf hk hn hj h
    refine r_iload (pc' := 30) dL_law_28 0 rfl rfl ?_
    refine r_aload_n (pc' := 31) dL_law_30 rfl 5 rfl rfl ?_
    refine r_slen (pc' := 32) dL_law_31 rfl ?_
    refine r_bipush (v := 6) (pc' := 34) dL_law_32 rfl rfl ?_
    refine r_isub (pc' := 35) dL_law_34 rfl ?_
    refine r_icmp_gt (tgt := 3670) (pc' := 38) dL_law_35 (by decide) rfl (fun _ => ?_) (fun q => ?_)
    · refine r_iconst (v := 1) (pc' := 3671) dL_law_3670 rfl rfl ?_
      exact r_lend dL_law_3671 (by omega) (by omega)
    · exact absurd (lt_end (N := N) (j := j) hN hj (by omega)) q
  | succ f ih =>
    intro j k n I S L P hf hk hn hj h
    refine r_iload (pc' := 30) dL_law_28 0 rfl rfl ?_
    refine r_aload_n (pc' := 31) dL_law_30 rfl 5 rfl rfl ?_
    refine r_slen (pc' := 32) dL_law_31 rfl ?_
    refine r_bipush (v := 6) (pc' := 34) dL_law_32 rfl rfl ?_
    refine r_isub (pc' := 35) dL_law_34 rfl ?_
    refine r_icmp_gt (tgt := 3670) (pc' := 38) dL_law_35 (by decide) rfl (fun _ => ?_) (fun q => ?_)
    · refine r_iconst (v := 1) (pc' := 3671) dL_law_3670 rfl rfl ?_
      exact r_lend dL_law_3671 (by omega) (by omega)
    · have hj6 : 6 * j + 6 ≤ N := by
        rcases Nat.lt_or_ge N (6 * j + 6) with z | z
        · exact absurd (lt_end (N := N) (j := j) hN hj z) q
        · exact z
      have hv : ∀ d : Nat, d < 6 → vp_in (nI (6 * j + d)) N := fun d hd => vp_in_nI (by omega) (by omega)
      have e1 : nI (6 * j) + 1 = nI (6 * j + 1) := nI_add _ 1
      have e2 : nI (6 * j) + 2 = nI (6 * j + 2) := nI_add _ 2
      have e3 : nI (6 * j) + 3 = nI (6 * j + 3) := nI_add _ 3
      have e4 : nI (6 * j) + 4 = nI (6 * j + 4) := nI_add _ 4
      have e5 : nI (6 * j) + 5 = nI (6 * j + 5) := nI_add _ 5
      refine r_aload_n (pc' := 39) dL_law_38 rfl 5 rfl rfl ?_
      refine r_iload (pc' := 41) dL_law_39 0 rfl rfl ?_
      refine r_sld (pc' := 42) dL_law_41 (hv 0 (by omega)) rfl ?_
      refine r_bipush (v := 63) (pc' := 44) dL_law_42 rfl rfl ?_
      refine r_iand (pc' := 45) dL_law_44 rfl ?_
      obtain ⟨d, hd, ed⟩ := and63 (xs (nI (6 * j)).toNatClampNeg)
      rw [ed]
      refine k_all hd h (by omega) (by omega) (by rw [e1, e2, e3, e4, e5]; exact ⟨hv 1 (by omega), hv 2 (by omega), hv 3 (by omega), hv 4 (by omega), hv 5 (by omega)⟩) (fun J S2 L2 P2 h2 => ?_)
      refine r_iinc (v := nI (6 * (j + 1))) (lv' := lvL b c (nI (6 * (j + 1)))) (pc' := 3667) dL_law_3664 0 rfl (nI_add _ 6) (by decide) rfl rfl ?_
      refine r_goto (tgt := 28) dL_law_3667 (by decide) ?_
      exact ih (j + 1) (k + 10) (n + 60) J S2 L2 P2 (by omega) (by omega) (by omega) (by omega) h2
end LOOP
