/-! the law's cases -/
theorem fr_X8_pset {I : JI} {c L P : Nat} {x : Int32} {r : Int32 ⊕ String} {J : JI} {z : Nat} (h : s_X8_parseSetup I c L P x = some (r, J)) (hP : P + 24 ≤ c + 128) (hz : c + 128 ≤ z) : J z = I z := by
  unfold s_X8_parseSetup at h
  by_cases q1 : x < 0
  · rw [if_pos q1] at h; cases h; rfl
  · rw [if_neg q1] at h
    by_cases q2 : x ≤ I (c + 2) 1
    · rw [if_pos q2] at h
      cases e : s_X5_parse I (c + 1) P x with
      | none => rw [e] at h; cases h
      | some y =>
        obtain ⟨v, I1⟩ := y
        rw [e, bd2_some] at h
        have f := fr_X5_parse (z := z) e (by omega) (by omega)
        cases v with
        | false => cases h; exact f
        | true =>
          rw [if_pos rfl] at h
          cases h
          rw [stI_ne (by omega), stI_ne (by omega), fr_X1_forgetAll (by omega), stI_ne (by omega)]
          exact f
    · rw [if_neg q2] at h; cases h; rfl
section CASE
variable {Ω : JO} {b N c L P k n : Nat} {xs : Nat → Int32} {i : Int32} {I : JI} {S : JS}
theorem k_append (h : LI I S c L P) (hk : k ≤ 600000) (hn : n ≤ 7000000) (hx : vp_in (i + 1) N ∧ vp_in (i + 2) N ∧ vp_in (i + 3) N ∧ vp_in (i + 4) N ∧ vp_in (i + 5) N) (nx : ∀ J S2 L2 P2, LI J S2 c L2 P2 → AA Ω m_L_law (LF Ω b N xs) (k + 10) (n + 60) 3664 (lvL b c i) [] J S2) : AA Ω m_L_law (LF Ω b N xs) k n 316 (lvL b c i) [] I S := by
  obtain ⟨hl0, hr⟩ := id h
  have hL := hl0.LL
  have hLP := hl0.LP
  obtain ⟨v0, I1, J0, e1, -, -⟩ := q_append (P := P) hr hL (xs (i + 1).toNatClampNeg) (xs (i + 2).toNatClampNeg) (xs (i + 3).toNatClampNeg) (xs (i + 4).toNatClampNeg) (xs (i + 5).toNatClampNeg)
  obtain ⟨v, I2, J1, e3, e2, h2⟩ := q_append (P := P) (RR_dep (I' := I) (J' := I1) hr hL (fun _ _ _ => rfl) (fun z z1 z2 => fr_X8_append e1 (by omega) (by omega) (by omega))) hL (xs (i + 1).toNatClampNeg) (xs (i + 2).toNatClampNeg) (xs (i + 3).toNatClampNeg) (xs (i + 4).toNatClampNeg) (xs (i + 5).toNatClampNeg)
  rw [e1] at e3
  cases e3
  have hr1 : RR J1 J1 c L (c + 128) := RR_dep h2 hL (fun z z1 z2 => fr_X9_append e2 (by omega) (by omega)) (fun _ _ _ => rfl)
  have hl2 := hl0
  refine r_aload_n (pc' := 317) dL_law_316 rfl 4 rfl rfl ?_
  refine r_sarg (pc' := 323) (ij := 1) 0 5 dL_law_317 dL_law_318 dL_law_320 dL_law_321 dL_law_322 rfl rfl rfl hx.1 rfl ?_
  refine r_sarg (pc' := 329) (ij := 2) 0 5 dL_law_323 dL_law_324 dL_law_326 dL_law_327 dL_law_328 rfl rfl rfl hx.2.1 rfl ?_
  refine r_sarg (pc' := 335) (ij := 3) 0 5 dL_law_329 dL_law_330 dL_law_332 dL_law_333 dL_law_334 rfl rfl rfl hx.2.2.1 rfl ?_
  refine r_sarg (pc' := 341) (ij := 4) 0 5 dL_law_335 dL_law_336 dL_law_338 dL_law_339 dL_law_340 rfl rfl rfl hx.2.2.2.1 rfl ?_
  refine r_sarg (pc' := 347) (ij := 5) 0 5 dL_law_341 dL_law_342 dL_law_344 dL_law_345 dL_law_346 rfl rfl rfl hx.2.2.2.2 rfl ?_
  refine r_callV5 (pc' := 350) (k' := k) (n' := n) dL_law_347 mb_X8_append mi_X8_append hl0.1.o (by decide) rfl lk_L_204 (roomL (by omega) (by omega) rfl) rfl rfl (Nat.le_of_ble_eq_true rfl) rfl (c_X8_append hl0.1 e1 (cpI ?_))
  refine r_aload_n (pc' := 351) dL_law_350 rfl 3 rfl rfl ?_
  refine r_sarg (pc' := 357) (ij := 1) 0 5 dL_law_351 dL_law_352 dL_law_354 dL_law_355 dL_law_356 rfl rfl rfl hx.1 rfl ?_
  refine r_sarg (pc' := 363) (ij := 2) 0 5 dL_law_357 dL_law_358 dL_law_360 dL_law_361 dL_law_362 rfl rfl rfl hx.2.1 rfl ?_
  refine r_sarg (pc' := 369) (ij := 3) 0 5 dL_law_363 dL_law_364 dL_law_366 dL_law_367 dL_law_368 rfl rfl rfl hx.2.2.1 rfl ?_
  refine r_sarg (pc' := 375) (ij := 4) 0 5 dL_law_369 dL_law_370 dL_law_372 dL_law_373 dL_law_374 rfl rfl rfl hx.2.2.2.1 rfl ?_
  refine r_sarg (pc' := 381) (ij := 5) 0 5 dL_law_375 dL_law_376 dL_law_378 dL_law_379 dL_law_380 rfl rfl rfl hx.2.2.2.2 rfl ?_
  refine r_callV5 (pc' := 384) (k' := k) (n' := n) dL_law_381 mb_X9_append mi_X9_append hl2.2.1.o (by decide) rfl lk_L_208 (roomL (by omega) (by omega) rfl) rfl rfl (Nat.le_of_ble_eq_true rfl) rfl (c_X9_append hl2.2.1 e2 (cpI ?_))
  exact r_icmp_eq (tgt := 3664) (pc' := 387) dL_law_384 (by decide) rfl (fun _ => aa_widen (by omega) (by omega) (nx _ _ _ _ ⟨hl2, hr1⟩)) (fun q => absurd rfl q)
theorem k_parseSetup (h : LI I S c L P) (hk : k ≤ 600000) (hn : n ≤ 7000000) (hx : vp_in (i + 1) N ∧ vp_in (i + 2) N ∧ vp_in (i + 3) N ∧ vp_in (i + 4) N ∧ vp_in (i + 5) N) (nx : ∀ J S2 L2 P2, LI J S2 c L2 P2 → AA Ω m_L_law (LF Ω b N xs) (k + 10) (n + 60) 3664 (lvL b c i) [] J S2) : AA Ω m_L_law (LF Ω b N xs) k n 389 (lvL b c i) [] I S := by
  obtain ⟨hl0, hr⟩ := id h
  have hL := hl0.LL
  have hLP := hl0.LP
  have hLQ : (L = c + 4 ∧ P = c + 104) ∨ (L = c + 104 ∧ P = c + 4) := hLP.symm
  obtain ⟨o1, I1, v0, J0, e1, -, -, -⟩ := q_parseSetup hr hLQ (xs (i + 1).toNatClampNeg)
  obtain ⟨o2, I2, v, J1, e3, e2, hR, h2⟩ := q_parseSetup (RR_dep (I' := I) (J' := I1) hr hL (fun _ _ _ => rfl) (fun z z1 z2 => fr_X8_pset e1 (by omega) (by omega))) hLQ (xs (i + 1).toNatClampNeg)
  rw [e1] at e3
  cases e3
  have fz : ∀ z, c ≤ z → z < c + 128 → J1 z = I1 z := fun z z1 z2 => fr_X9_parseSetup e2 (by omega) (by omega) (by omega) (by omega) (by omega) (by omega) (by omega)
  refine r_aload_n (pc' := 390) dL_law_389 rfl 4 rfl rfl ?_
  refine r_sarg (pc' := 396) (ij := 1) 0 5 dL_law_390 dL_law_391 dL_law_393 dL_law_394 dL_law_395 rfl rfl rfl hx.1 rfl ?_
  refine r_aload_n (pc' := 397) dL_law_396 rfl 2 rfl rfl ?_
  refine r_callSH (pc' := 400) (k' := k + 2) (n' := n + 12) (As := [.ref c, .int (xs (i + 1).toNatClampNeg), .ref (c + 139)]) (rest := []) dL_law_397 mb_L_parseSetup ms_L_parseSetup lw_L_209 rfl rfl (roomL (by omega) (by omega) rfl) rfl rfl (Nat.le_of_ble_eq_true rfl) rfl (w_parseSetup hl0.1 hl0.2.2.1 e1 hR (fun ho1 t0 => cpI ?_) (fun E hoE => cpI ?_))
  · obtain ⟨a, ea, hr2⟩ | ⟨E, eE, hr2⟩ := h2
    rotate_left
    · exact absurd (ho1.symm.trans eE) (by simp)
    have hl2 : LI0 (stX (stR (stR S (c + 1) 1 (some L)) c 5 (some P)) (c + 139) 0 v.toInt64) c P L := ⟨Is8_swap hl0.1, Is9_st (Is9_st hl0.2.1 (by omega)) (by omega), hl0.2.2.1, hl0.2.2.2⟩
    have hr1 : RR J1 J1 c P (c + 128) := RR_dep hr2 (by omega) fz (fun _ _ _ => rfl)
    refine r_istore (pc' := 402) (lv' := (6, .int (J1 (c + 128) 0)) :: lvL b c i) dL_law_400 (by decide) rfl rfl ?_
    refine r_aload_n (pc' := 403) dL_law_402 rfl 4 rfl rfl ?_
    refine r_sarg (pc' := 409) (ij := 1) 1 6 dL_law_403 dL_law_404 dL_law_406 dL_law_407 dL_law_408 rfl rfl rfl hx.1 rfl ?_
    refine r_callV1 (pc' := 412) (k' := k + 2) (n' := n + 12) dL_law_409 mb_X9_parseSetup mi_X9_parseSetup hl2.2.1.o (by decide) rfl lk_L_214 (roomL (by omega) (by omega) rfl) rfl rfl (Nat.le_of_ble_eq_true rfl) rfl (c_X9_parseSetup hl2.2.1 e2 (cpI ?_))
    exact tail_I dL_law_412 dL_law_414 dL_law_415 dL_law_418 dL_law_420 dL_law_425 dL_law_427 dL_law_430 dL_law_431 dL_law_432 dL_law_433 dL_law_435 dL_law_436 dL_law_437 dL_law_442 (by decide) hl2 (fun _ => sX_st) (by omega) (by omega) (aa_widen (by omega) (by omega) (nx _ _ _ _ ⟨hl2, hr1⟩))
  · obtain ⟨a, ea, hr2⟩ | ⟨E3, eE, hr2⟩ := h2
    · exact absurd (hoE.symm.trans ea) (by simp)
    have hl2 : LI0 S c L P := hl0
    have hr1 : RR J1 J1 c L (c + 128) := RR_dep hr2 hL fz (fun _ _ _ => rfl)
    have ht : ¬ J1 (c + 128) 0 = 0 := by
      subst hoE
      obtain ⟨ii, hi, et⟩ := hR
      rw [et]
      match ii, hi with
      | 0, _ => decide
      | 1, _ => decide
      | ii + 2, hi => simp at hi
    refine r_istore (pc' := 402) (lv' := (6, .int (J1 (c + 128) 0)) :: lvL b c i) dL_law_400 (by decide) rfl rfl ?_
    refine r_aload_n (pc' := 403) dL_law_402 rfl 4 rfl rfl ?_
    refine r_sarg (pc' := 409) (ij := 1) 1 6 dL_law_403 dL_law_404 dL_law_406 dL_law_407 dL_law_408 rfl rfl rfl hx.1 rfl ?_
    refine r_callV1 (pc' := 412) (k' := k + 2) (n' := n + 12) dL_law_409 mb_X9_parseSetup mi_X9_parseSetup hl2.2.1.o (by decide) rfl lk_L_214 (roomL (by omega) (by omega) rfl) rfl rfl (Nat.le_of_ble_eq_true rfl) rfl (c_X9_parseSetup hl2.2.1 e2 (cpI ?_))
    exact tail_I dL_law_412 dL_law_414 dL_law_415 dL_law_418 dL_law_420 dL_law_425 dL_law_427 dL_law_430 dL_law_431 dL_law_432 dL_law_433 dL_law_435 dL_law_436 dL_law_437 dL_law_442 (by decide) hl2 (fun q => absurd q ht) (by omega) (by omega) (aa_widen (by omega) (by omega) (nx _ _ _ _ ⟨hl2, hr1⟩))
theorem k_parseErrorCode (h : LI I S c L P) (hk : k ≤ 600000) (hn : n ≤ 7000000) (hx : vp_in (i + 1) N ∧ vp_in (i + 2) N ∧ vp_in (i + 3) N ∧ vp_in (i + 4) N ∧ vp_in (i + 5) N) (nx : ∀ J S2 L2 P2, LI J S2 c L2 P2 → AA Ω m_L_law (LF Ω b N xs) (k + 10) (n + 60) 3664 (lvL b c i) [] J S2) : AA Ω m_L_law (LF Ω b N xs) k n 445 (lvL b c i) [] I S := by
  obtain ⟨hl0, hr⟩ := id h
  have hL := hl0.LL
  have hLP := hl0.LP
  obtain ⟨v, e1, e2⟩ := v_parseErrorCode (P := P) hr
  have hr1 : RR (stI I (c + 128) 0 0) (stI I (c + 128) 0 0) c L (c + 128) := RR_dep (RR_thr hr 0) hL (fun z z1 z2 => stI_ne (by omega)) (fun _ _ _ => rfl)
  have hl2 := hl0
  refine r_aload_n (pc' := 446) dL_law_445 rfl 4 rfl rfl ?_
  refine r_callV0 (pc' := 449) (k' := k) (n' := n) dL_law_446 mb_X8_parseErrorCode mi_X8_parseErrorCode hl0.1.o (by decide) rfl lk_L_218 (roomL (by omega) (by omega) rfl) rfl rfl (Nat.le_of_ble_eq_true rfl) rfl (c_X8_parseErrorCode hl0.1 e1 (cpI ?_))
  refine r_aload_n (pc' := 450) dL_law_449 rfl 3 rfl rfl ?_
  refine r_callV0 (pc' := 453) (k' := k) (n' := n) dL_law_450 mb_X9_parseErrorCode mi_X9_parseErrorCode hl2.2.1.o (by decide) rfl lk_L_221 (roomL (by omega) (by omega) rfl) rfl rfl (Nat.le_of_ble_eq_true rfl) rfl (c_X9_parseErrorCode hl2.2.1 e2 (cpI ?_))
  exact r_icmp_eq (tgt := 3664) (pc' := 456) dL_law_453 (by decide) rfl (fun _ => aa_widen (by omega) (by omega) (nx _ _ _ _ ⟨hl2, hr1⟩)) (fun q => absurd rfl q)
theorem k_parseErrorPosition (h : LI I S c L P) (hk : k ≤ 600000) (hn : n ≤ 7000000) (hx : vp_in (i + 1) N ∧ vp_in (i + 2) N ∧ vp_in (i + 3) N ∧ vp_in (i + 4) N ∧ vp_in (i + 5) N) (nx : ∀ J S2 L2 P2, LI J S2 c L2 P2 → AA Ω m_L_law (LF Ω b N xs) (k + 10) (n + 60) 3664 (lvL b c i) [] J S2) : AA Ω m_L_law (LF Ω b N xs) k n 458 (lvL b c i) [] I S := by
  obtain ⟨hl0, hr⟩ := id h
  have hL := hl0.LL
  have hLP := hl0.LP
  obtain ⟨v, e1, e2⟩ := v_parseErrorPosition (P := P) hr
  have hr1 : RR (stI I (c + 128) 0 0) (stI I (c + 128) 0 0) c L (c + 128) := RR_dep (RR_thr hr 0) hL (fun z z1 z2 => stI_ne (by omega)) (fun _ _ _ => rfl)
  have hl2 := hl0
  refine r_aload_n (pc' := 459) dL_law_458 rfl 4 rfl rfl ?_
  refine r_callV0 (pc' := 462) (k' := k) (n' := n) dL_law_459 mb_X8_parseErrorPosition mi_X8_parseErrorPosition hl0.1.o (by decide) rfl lk_L_222 (roomL (by omega) (by omega) rfl) rfl rfl (Nat.le_of_ble_eq_true rfl) rfl (c_X8_parseErrorPosition hl0.1 e1 (cpI ?_))
  refine r_aload_n (pc' := 463) dL_law_462 rfl 3 rfl rfl ?_
  refine r_callV0 (pc' := 466) (k' := k) (n' := n) dL_law_463 mb_X9_parseErrorPosition mi_X9_parseErrorPosition hl2.2.1.o (by decide) rfl lk_L_225 (roomL (by omega) (by omega) rfl) rfl rfl (Nat.le_of_ble_eq_true rfl) rfl (c_X9_parseErrorPosition hl2.2.1 e2 (cpI ?_))
  exact r_icmp_eq (tgt := 3664) (pc' := 469) dL_law_466 (by decide) rfl (fun _ => aa_widen (by omega) (by omega) (nx _ _ _ _ ⟨hl2, hr1⟩)) (fun q => absurd rfl q)
theorem k_bufferLength (h : LI I S c L P) (hk : k ≤ 600000) (hn : n ≤ 7000000) (hx : vp_in (i + 1) N ∧ vp_in (i + 2) N ∧ vp_in (i + 3) N ∧ vp_in (i + 4) N ∧ vp_in (i + 5) N) (nx : ∀ J S2 L2 P2, LI J S2 c L2 P2 → AA Ω m_L_law (LF Ω b N xs) (k + 10) (n + 60) 3664 (lvL b c i) [] J S2) : AA Ω m_L_law (LF Ω b N xs) k n 471 (lvL b c i) [] I S := by
  obtain ⟨hl0, hr⟩ := id h
  have hL := hl0.LL
  have hLP := hl0.LP
  obtain ⟨v, e1, e2⟩ := v_bufferLength (P := P) hr
  have hr1 : RR (stI I (c + 128) 0 0) (stI I (c + 128) 0 0) c L (c + 128) := RR_dep (RR_thr hr 0) hL (fun z z1 z2 => stI_ne (by omega)) (fun _ _ _ => rfl)
  have hl2 := hl0
  refine r_aload_n (pc' := 472) dL_law_471 rfl 4 rfl rfl ?_
  refine r_callV0 (pc' := 475) (k' := k) (n' := n) dL_law_472 mb_X8_bufferLength mi_X8_bufferLength hl0.1.o (by decide) rfl lk_L_226 (roomL (by omega) (by omega) rfl) rfl rfl (Nat.le_of_ble_eq_true rfl) rfl (c_X8_bufferLength hl0.1 e1 (cpI ?_))
  refine r_aload_n (pc' := 476) dL_law_475 rfl 3 rfl rfl ?_
  refine r_callV0 (pc' := 479) (k' := k) (n' := n) dL_law_476 mb_X9_bufferLength mi_X9_bufferLength hl2.2.1.o (by decide) rfl lk_L_229 (roomL (by omega) (by omega) rfl) rfl rfl (Nat.le_of_ble_eq_true rfl) rfl (c_X9_bufferLength hl2.2.1 e2 (cpI ?_))
  exact r_icmp_eq (tgt := 3664) (pc' := 482) dL_law_479 (by decide) rfl (fun _ => aa_widen (by omega) (by omega) (nx _ _ _ _ ⟨hl2, hr1⟩)) (fun q => absurd rfl q)
theorem k_harnessCount (h : LI I S c L P) (hk : k ≤ 600000) (hn : n ≤ 7000000) (hx : vp_in (i + 1) N ∧ vp_in (i + 2) N ∧ vp_in (i + 3) N ∧ vp_in (i + 4) N ∧ vp_in (i + 5) N) (nx : ∀ J S2 L2 P2, LI J S2 c L2 P2 → AA Ω m_L_law (LF Ω b N xs) (k + 10) (n + 60) 3664 (lvL b c i) [] J S2) : AA Ω m_L_law (LF Ω b N xs) k n 484 (lvL b c i) [] I S := by
  obtain ⟨hl0, hr⟩ := id h
  have hL := hl0.LL
  have hLP := hl0.LP
  obtain ⟨o1, I1, v, J1, e1, e2, hR, hr1⟩ := Eqv_two (mo := fun A => s_X9_harnessCount A (c + 128)) hr hL rfl (fun J hJ => q_harnessCount (P := P) hJ) (fun r J z q hz => fr_X8_harnessCount q (by omega) (by omega) (by omega)) (fun A r J z q hz => fr_X9_harnessCount q (by omega))
  refine r_aload_n (pc' := 485) dL_law_484 rfl 4 rfl rfl ?_
  refine r_aload_n (pc' := 486) dL_law_485 rfl 2 rfl rfl ?_
  refine r_callSH (pc' := 489) (k' := k + 1) (n' := n + 6) (As := [.ref c, .ref (c + 139)]) (rest := []) dL_law_486 mb_L_harnessCount ms_L_harnessCount lw_L_230 rfl rfl (roomL (by omega) (by omega) rfl) rfl rfl (Nat.le_of_ble_eq_true rfl) rfl (w_harnessCount hl0.1 hl0.2.2.1 e1 hR (fun S2 s1 s2 => cpI ?_))
  have hl2 := LI0_X hl0 s2
  refine r_istore (pc' := 491) (lv' := (6, .int (J1 (c + 128) 0)) :: lvL b c i) dL_law_489 (by decide) rfl rfl ?_
  refine r_aload_n (pc' := 492) dL_law_491 rfl 4 rfl rfl ?_
  refine r_callV0 (pc' := 495) (k' := k + 1) (n' := n + 6) dL_law_492 mb_X9_harnessCount mi_X9_harnessCount hl2.2.1.o (by decide) rfl lk_L_233 (roomL (by omega) (by omega) rfl) rfl rfl (Nat.le_of_ble_eq_true rfl) rfl (c_X9_harnessCount hl2.2.1 e2 (cpI ?_))
  exact tail_I dL_law_495 dL_law_497 dL_law_498 dL_law_501 dL_law_503 dL_law_508 dL_law_510 dL_law_513 dL_law_514 dL_law_515 dL_law_516 dL_law_518 dL_law_519 dL_law_520 dL_law_525 (by decide) hl2 (fun q => by rw [s1 q]; exact sX_st) (by omega) (by omega) (aa_widen (by omega) (by omega) (nx _ _ _ _ ⟨hl2, hr1⟩))
theorem k_warpCount (h : LI I S c L P) (hk : k ≤ 600000) (hn : n ≤ 7000000) (hx : vp_in (i + 1) N ∧ vp_in (i + 2) N ∧ vp_in (i + 3) N ∧ vp_in (i + 4) N ∧ vp_in (i + 5) N) (nx : ∀ J S2 L2 P2, LI J S2 c L2 P2 → AA Ω m_L_law (LF Ω b N xs) (k + 10) (n + 60) 3664 (lvL b c i) [] J S2) : AA Ω m_L_law (LF Ω b N xs) k n 528 (lvL b c i) [] I S := by
  obtain ⟨hl0, hr⟩ := id h
  have hL := hl0.LL
  have hLP := hl0.LP
  obtain ⟨o1, I1, v, J1, e1, e2, hR, hr1⟩ := Eqv_two (mo := fun A => s_X9_warpCount A (c + 128)) hr hL rfl (fun J hJ => q_warpCount (P := P) hJ) (fun r J z q hz => fr_X8_warpCount q (by omega) (by omega) (by omega)) (fun A r J z q hz => fr_X9_warpCount q (by omega))
  refine r_aload_n (pc' := 529) dL_law_528 rfl 4 rfl rfl ?_
  refine r_aload_n (pc' := 530) dL_law_529 rfl 2 rfl rfl ?_
  refine r_callSH (pc' := 533) (k' := k + 1) (n' := n + 6) (As := [.ref c, .ref (c + 139)]) (rest := []) dL_law_530 mb_L_warpCount ms_L_warpCount lw_L_234 rfl rfl (roomL (by omega) (by omega) rfl) rfl rfl (Nat.le_of_ble_eq_true rfl) rfl (w_warpCount hl0.1 hl0.2.2.1 e1 hR (fun S2 s1 s2 => cpI ?_))
  have hl2 := LI0_X hl0 s2
  refine r_istore (pc' := 535) (lv' := (6, .int (J1 (c + 128) 0)) :: lvL b c i) dL_law_533 (by decide) rfl rfl ?_
  refine r_aload_n (pc' := 536) dL_law_535 rfl 4 rfl rfl ?_
  refine r_callV0 (pc' := 539) (k' := k + 1) (n' := n + 6) dL_law_536 mb_X9_warpCount mi_X9_warpCount hl2.2.1.o (by decide) rfl lk_L_236 (roomL (by omega) (by omega) rfl) rfl rfl (Nat.le_of_ble_eq_true rfl) rfl (c_X9_warpCount hl2.2.1 e2 (cpI ?_))
  exact tail_I dL_law_539 dL_law_541 dL_law_542 dL_law_545 dL_law_547 dL_law_552 dL_law_554 dL_law_557 dL_law_558 dL_law_559 dL_law_560 dL_law_562 dL_law_563 dL_law_564 dL_law_569 (by decide) hl2 (fun q => by rw [s1 q]; exact sX_st) (by omega) (by omega) (aa_widen (by omega) (by omega) (nx _ _ _ _ ⟨hl2, hr1⟩))
theorem k_warpHarness (h : LI I S c L P) (hk : k ≤ 600000) (hn : n ≤ 7000000) (hx : vp_in (i + 1) N ∧ vp_in (i + 2) N ∧ vp_in (i + 3) N ∧ vp_in (i + 4) N ∧ vp_in (i + 5) N) (nx : ∀ J S2 L2 P2, LI J S2 c L2 P2 → AA Ω m_L_law (LF Ω b N xs) (k + 10) (n + 60) 3664 (lvL b c i) [] J S2) : AA Ω m_L_law (LF Ω b N xs) k n 572 (lvL b c i) [] I S := by
  obtain ⟨hl0, hr⟩ := id h
  have hL := hl0.LL
  have hLP := hl0.LP
  obtain ⟨o1, I1, v, J1, e1, e2, hR, hr1⟩ := Eqv_two (mo := fun A => s_X9_warpHarness A (c + 128) (xs (i + 1).toNatClampNeg)) hr hL rfl (fun J hJ => q_warpHarness (P := P) hJ (xs (i + 1).toNatClampNeg)) (fun r J z q hz => fr_X8_warpHarness q (by omega) (by omega) (by omega)) (fun A r J z q hz => fr_X9_warpHarness q (by omega))
  refine r_aload_n (pc' := 573) dL_law_572 rfl 4 rfl rfl ?_
  refine r_sarg (pc' := 579) (ij := 1) 0 5 dL_law_573 dL_law_574 dL_law_576 dL_law_577 dL_law_578 rfl rfl rfl hx.1 rfl ?_
  refine r_aload_n (pc' := 580) dL_law_579 rfl 2 rfl rfl ?_
  refine r_callSH (pc' := 583) (k' := k + 2) (n' := n + 12) (As := [.ref c, .int (xs (i + 1).toNatClampNeg), .ref (c + 139)]) (rest := []) dL_law_580 mb_L_warpHarness ms_L_warpHarness lw_L_237 rfl rfl (roomL (by omega) (by omega) rfl) rfl rfl (Nat.le_of_ble_eq_true rfl) rfl (w_warpHarness hl0.1 hl0.2.2.1 e1 hR (fun S2 s1 s2 => cpI ?_))
  have hl2 := LI0_X hl0 s2
  refine r_istore (pc' := 585) (lv' := (6, .int (J1 (c + 128) 0)) :: lvL b c i) dL_law_583 (by decide) rfl rfl ?_
  refine r_aload_n (pc' := 586) dL_law_585 rfl 4 rfl rfl ?_
  refine r_sarg (pc' := 592) (ij := 1) 1 6 dL_law_586 dL_law_587 dL_law_589 dL_law_590 dL_law_591 rfl rfl rfl hx.1 rfl ?_
  refine r_callV1 (pc' := 595) (k' := k + 2) (n' := n + 12) dL_law_592 mb_X9_warpHarness mi_X9_warpHarness hl2.2.1.o (by decide) rfl lk_L_239 (roomL (by omega) (by omega) rfl) rfl rfl (Nat.le_of_ble_eq_true rfl) rfl (c_X9_warpHarness hl2.2.1 e2 (cpI ?_))
  exact tail_I dL_law_595 dL_law_597 dL_law_598 dL_law_601 dL_law_603 dL_law_608 dL_law_610 dL_law_613 dL_law_614 dL_law_615 dL_law_616 dL_law_618 dL_law_619 dL_law_620 dL_law_625 (by decide) hl2 (fun q => by rw [s1 q]; exact sX_st) (by omega) (by omega) (aa_widen (by omega) (by omega) (nx _ _ _ _ ⟨hl2, hr1⟩))
theorem k_warpColour (h : LI I S c L P) (hk : k ≤ 600000) (hn : n ≤ 7000000) (hx : vp_in (i + 1) N ∧ vp_in (i + 2) N ∧ vp_in (i + 3) N ∧ vp_in (i + 4) N ∧ vp_in (i + 5) N) (nx : ∀ J S2 L2 P2, LI J S2 c L2 P2 → AA Ω m_L_law (LF Ω b N xs) (k + 10) (n + 60) 3664 (lvL b c i) [] J S2) : AA Ω m_L_law (LF Ω b N xs) k n 628 (lvL b c i) [] I S := by
  obtain ⟨hl0, hr⟩ := id h
  have hL := hl0.LL
  have hLP := hl0.LP
  obtain ⟨o1, I1, v, J1, e1, e2, hR, hr1⟩ := Eqv_two (mo := fun A => s_X9_warpColour A (c + 128) (xs (i + 1).toNatClampNeg)) hr hL rfl (fun J hJ => q_warpColour (P := P) hJ (xs (i + 1).toNatClampNeg)) (fun r J z q hz => fr_X8_warpColour q (by omega) (by omega) (by omega)) (fun A r J z q hz => fr_X9_warpColour q (by omega))
  refine r_aload_n (pc' := 629) dL_law_628 rfl 4 rfl rfl ?_
  refine r_sarg (pc' := 635) (ij := 1) 0 5 dL_law_629 dL_law_630 dL_law_632 dL_law_633 dL_law_634 rfl rfl rfl hx.1 rfl ?_
  refine r_aload_n (pc' := 636) dL_law_635 rfl 2 rfl rfl ?_
  refine r_callSH (pc' := 639) (k' := k + 2) (n' := n + 12) (As := [.ref c, .int (xs (i + 1).toNatClampNeg), .ref (c + 139)]) (rest := []) dL_law_636 mb_L_warpColour ms_L_warpColour lw_L_240 rfl rfl (roomL (by omega) (by omega) rfl) rfl rfl (Nat.le_of_ble_eq_true rfl) rfl (w_warpColour hl0.1 hl0.2.2.1 e1 hR (fun S2 s1 s2 => cpI ?_))
  have hl2 := LI0_X hl0 s2
  refine r_istore (pc' := 641) (lv' := (6, .int (J1 (c + 128) 0)) :: lvL b c i) dL_law_639 (by decide) rfl rfl ?_
  refine r_aload_n (pc' := 642) dL_law_641 rfl 4 rfl rfl ?_
  refine r_sarg (pc' := 648) (ij := 1) 1 6 dL_law_642 dL_law_643 dL_law_645 dL_law_646 dL_law_647 rfl rfl rfl hx.1 rfl ?_
  refine r_callV1 (pc' := 651) (k' := k + 2) (n' := n + 12) dL_law_648 mb_X9_warpColour mi_X9_warpColour hl2.2.1.o (by decide) rfl lk_L_242 (roomL (by omega) (by omega) rfl) rfl rfl (Nat.le_of_ble_eq_true rfl) rfl (c_X9_warpColour hl2.2.1 e2 (cpI ?_))
  exact tail_I dL_law_651 dL_law_653 dL_law_654 dL_law_657 dL_law_659 dL_law_664 dL_law_666 dL_law_669 dL_law_670 dL_law_671 dL_law_672 dL_law_674 dL_law_675 dL_law_676 dL_law_681 (by decide) hl2 (fun q => by rw [s1 q]; exact sX_st) (by omega) (by omega) (aa_widen (by omega) (by omega) (nx _ _ _ _ ⟨hl2, hr1⟩))
theorem k_warpsOn (h : LI I S c L P) (hk : k ≤ 600000) (hn : n ≤ 7000000) (hx : vp_in (i + 1) N ∧ vp_in (i + 2) N ∧ vp_in (i + 3) N ∧ vp_in (i + 4) N ∧ vp_in (i + 5) N) (nx : ∀ J S2 L2 P2, LI J S2 c L2 P2 → AA Ω m_L_law (LF Ω b N xs) (k + 10) (n + 60) 3664 (lvL b c i) [] J S2) : AA Ω m_L_law (LF Ω b N xs) k n 684 (lvL b c i) [] I S := by
  obtain ⟨hl0, hr⟩ := id h
  have hL := hl0.LL
  have hLP := hl0.LP
  obtain ⟨o1, I1, v, J1, e1, e2, hR, hr1⟩ := Eqv_two (mo := fun A => s_X9_warpsOn A (c + 128) (xs (i + 1).toNatClampNeg)) hr hL rfl (fun J hJ => q_warpsOn (P := P) hJ (xs (i + 1).toNatClampNeg)) (fun r J z q hz => fr_X8_warpsOn q (by omega) (by omega) (by omega)) (fun A r J z q hz => fr_X9_warpsOn q (by omega))
  refine r_aload_n (pc' := 685) dL_law_684 rfl 4 rfl rfl ?_
  refine r_sarg (pc' := 691) (ij := 1) 0 5 dL_law_685 dL_law_686 dL_law_688 dL_law_689 dL_law_690 rfl rfl rfl hx.1 rfl ?_
  refine r_aload_n (pc' := 692) dL_law_691 rfl 2 rfl rfl ?_
  refine r_callSH (pc' := 695) (k' := k + 2) (n' := n + 12) (As := [.ref c, .int (xs (i + 1).toNatClampNeg), .ref (c + 139)]) (rest := []) dL_law_692 mb_L_warpsOn ms_L_warpsOn lw_L_243 rfl rfl (roomL (by omega) (by omega) rfl) rfl rfl (Nat.le_of_ble_eq_true rfl) rfl (w_warpsOn hl0.1 hl0.2.2.1 e1 hR (fun S2 s1 s2 => cpI ?_))
  have hl2 := LI0_X hl0 s2
  refine r_istore (pc' := 697) (lv' := (6, .int (J1 (c + 128) 0)) :: lvL b c i) dL_law_695 (by decide) rfl rfl ?_
  refine r_aload_n (pc' := 698) dL_law_697 rfl 4 rfl rfl ?_
  refine r_sarg (pc' := 704) (ij := 1) 1 6 dL_law_698 dL_law_699 dL_law_701 dL_law_702 dL_law_703 rfl rfl rfl hx.1 rfl ?_
  refine r_callV1 (pc' := 707) (k' := k + 2) (n' := n + 12) dL_law_704 mb_X9_warpsOn mi_X9_warpsOn hl2.2.1.o (by decide) rfl lk_L_245 (roomL (by omega) (by omega) rfl) rfl rfl (Nat.le_of_ble_eq_true rfl) rfl (c_X9_warpsOn hl2.2.1 e2 (cpI ?_))
  exact tail_I dL_law_707 dL_law_709 dL_law_710 dL_law_713 dL_law_715 dL_law_720 dL_law_722 dL_law_725 dL_law_726 dL_law_727 dL_law_728 dL_law_730 dL_law_731 dL_law_732 dL_law_737 (by decide) hl2 (fun q => by rw [s1 q]; exact sX_st) (by omega) (by omega) (aa_widen (by omega) (by omega) (nx _ _ _ _ ⟨hl2, hr1⟩))
theorem k_isBroken (h : LI I S c L P) (hk : k ≤ 600000) (hn : n ≤ 7000000) (hx : vp_in (i + 1) N ∧ vp_in (i + 2) N ∧ vp_in (i + 3) N ∧ vp_in (i + 4) N ∧ vp_in (i + 5) N) (nx : ∀ J S2 L2 P2, LI J S2 c L2 P2 → AA Ω m_L_law (LF Ω b N xs) (k + 10) (n + 60) 3664 (lvL b c i) [] J S2) : AA Ω m_L_law (LF Ω b N xs) k n 740 (lvL b c i) [] I S := by
  obtain ⟨hl0, hr⟩ := id h
  have hL := hl0.LL
  have hLP := hl0.LP
  obtain ⟨o1, I1, v, J1, e1, e2, hR, hr1⟩ := Eqv_two (mo := fun A => s_X9_isBroken A (c + 128) (xs (i + 1).toNatClampNeg)) hr hL rfl (fun J hJ => q_isBroken (P := P) hJ (xs (i + 1).toNatClampNeg)) (fun r J z q hz => fr_X8_isBroken q (by omega) (by omega) (by omega)) (fun A r J z q hz => fr_X9_isBroken q (by omega))
  refine r_aload_n (pc' := 741) dL_law_740 rfl 4 rfl rfl ?_
  refine r_sarg (pc' := 747) (ij := 1) 0 5 dL_law_741 dL_law_742 dL_law_744 dL_law_745 dL_law_746 rfl rfl rfl hx.1 rfl ?_
  refine r_aload_n (pc' := 748) dL_law_747 rfl 2 rfl rfl ?_
  refine r_callSH (pc' := 751) (k' := k + 2) (n' := n + 12) (As := [.ref c, .int (xs (i + 1).toNatClampNeg), .ref (c + 139)]) (rest := []) dL_law_748 mb_L_isBroken ms_L_isBroken lw_L_246 rfl rfl (roomL (by omega) (by omega) rfl) rfl rfl (Nat.le_of_ble_eq_true rfl) rfl (w_isBroken hl0.1 hl0.2.2.1 e1 hR (fun S2 s1 s2 => cpI ?_))
  have hl2 := LI0_X hl0 s2
  refine r_istore (pc' := 753) (lv' := (6, .int (J1 (c + 128) 0)) :: lvL b c i) dL_law_751 (by decide) rfl rfl ?_
  refine r_aload_n (pc' := 754) dL_law_753 rfl 4 rfl rfl ?_
  refine r_sarg (pc' := 760) (ij := 1) 1 6 dL_law_754 dL_law_755 dL_law_757 dL_law_758 dL_law_759 rfl rfl rfl hx.1 rfl ?_
  refine r_callV1 (pc' := 763) (k' := k + 2) (n' := n + 12) dL_law_760 mb_X9_isBroken mi_X9_isBroken hl2.2.1.o (by decide) rfl lk_L_248 (roomL (by omega) (by omega) rfl) rfl rfl (Nat.le_of_ble_eq_true rfl) rfl (c_X9_isBroken hl2.2.1 e2 (cpI ?_))
  exact tail_Z dL_law_763 dL_law_765 dL_law_766 dL_law_769 dL_law_771 dL_law_776 dL_law_778 dL_law_781 dL_law_782 dL_law_783 dL_law_784 dL_law_786 dL_law_789 dL_law_790 dL_law_793 dL_law_794 dL_law_795 dL_law_800 (by decide) hl2 (fun q => by rw [s1 q]; exact sX_st) (by omega) (by omega) (aa_widen (by omega) (by omega) (nx _ _ _ _ ⟨hl2, hr1⟩))
theorem k_brokenCount (h : LI I S c L P) (hk : k ≤ 600000) (hn : n ≤ 7000000) (hx : vp_in (i + 1) N ∧ vp_in (i + 2) N ∧ vp_in (i + 3) N ∧ vp_in (i + 4) N ∧ vp_in (i + 5) N) (nx : ∀ J S2 L2 P2, LI J S2 c L2 P2 → AA Ω m_L_law (LF Ω b N xs) (k + 10) (n + 60) 3664 (lvL b c i) [] J S2) : AA Ω m_L_law (LF Ω b N xs) k n 803 (lvL b c i) [] I S := by
  obtain ⟨hl0, hr⟩ := id h
  have hL := hl0.LL
  have hLP := hl0.LP
  obtain ⟨o1, I1, v, J1, e1, e2, hR, hr1⟩ := Eqv_two (mo := fun A => s_X9_brokenCount A (c + 128)) hr hL rfl (fun J hJ => q_brokenCount (P := P) hJ) (fun r J z q hz => fr_X8_brokenCount q (by omega) (by omega) (by omega)) (fun A r J z q hz => fr_X9_brokenCount q (by omega))
  refine r_aload_n (pc' := 804) dL_law_803 rfl 4 rfl rfl ?_
  refine r_aload_n (pc' := 805) dL_law_804 rfl 2 rfl rfl ?_
  refine r_callSH (pc' := 808) (k' := k + 1) (n' := n + 6) (As := [.ref c, .ref (c + 139)]) (rest := []) dL_law_805 mb_L_brokenCount ms_L_brokenCount lw_L_249 rfl rfl (roomL (by omega) (by omega) rfl) rfl rfl (Nat.le_of_ble_eq_true rfl) rfl (w_brokenCount hl0.1 hl0.2.2.1 e1 hR (fun S2 s1 s2 => cpI ?_))
  have hl2 := LI0_X hl0 s2
  refine r_istore (pc' := 810) (lv' := (6, .int (J1 (c + 128) 0)) :: lvL b c i) dL_law_808 (by decide) rfl rfl ?_
  refine r_aload_n (pc' := 811) dL_law_810 rfl 4 rfl rfl ?_
  refine r_callV0 (pc' := 814) (k' := k + 1) (n' := n + 6) dL_law_811 mb_X9_brokenCount mi_X9_brokenCount hl2.2.1.o (by decide) rfl lk_L_251 (roomL (by omega) (by omega) rfl) rfl rfl (Nat.le_of_ble_eq_true rfl) rfl (c_X9_brokenCount hl2.2.1 e2 (cpI ?_))
  exact tail_I dL_law_814 dL_law_816 dL_law_817 dL_law_820 dL_law_822 dL_law_827 dL_law_829 dL_law_832 dL_law_833 dL_law_834 dL_law_835 dL_law_837 dL_law_838 dL_law_839 dL_law_844 (by decide) hl2 (fun q => by rw [s1 q]; exact sX_st) (by omega) (by omega) (aa_widen (by omega) (by omega) (nx _ _ _ _ ⟨hl2, hr1⟩))
theorem k_isLifted (h : LI I S c L P) (hk : k ≤ 600000) (hn : n ≤ 7000000) (hx : vp_in (i + 1) N ∧ vp_in (i + 2) N ∧ vp_in (i + 3) N ∧ vp_in (i + 4) N ∧ vp_in (i + 5) N) (nx : ∀ J S2 L2 P2, LI J S2 c L2 P2 → AA Ω m_L_law (LF Ω b N xs) (k + 10) (n + 60) 3664 (lvL b c i) [] J S2) : AA Ω m_L_law (LF Ω b N xs) k n 847 (lvL b c i) [] I S := by
  obtain ⟨hl0, hr⟩ := id h
  have hL := hl0.LL
  have hLP := hl0.LP
  obtain ⟨o1, I1, v, J1, e1, e2, hR, hr1⟩ := Eqv_two (mo := fun A => s_X9_isLifted A (c + 128) (xs (i + 1).toNatClampNeg)) hr hL rfl (fun J hJ => q_isLifted (P := P) hJ (xs (i + 1).toNatClampNeg)) (fun r J z q hz => fr_X8_isLifted q (by omega) (by omega) (by omega)) (fun A r J z q hz => fr_X9_isLifted q (by omega))
  refine r_aload_n (pc' := 848) dL_law_847 rfl 4 rfl rfl ?_
  refine r_sarg (pc' := 854) (ij := 1) 0 5 dL_law_848 dL_law_849 dL_law_851 dL_law_852 dL_law_853 rfl rfl rfl hx.1 rfl ?_
  refine r_aload_n (pc' := 855) dL_law_854 rfl 2 rfl rfl ?_
  refine r_callSH (pc' := 858) (k' := k + 2) (n' := n + 12) (As := [.ref c, .int (xs (i + 1).toNatClampNeg), .ref (c + 139)]) (rest := []) dL_law_855 mb_L_isLifted ms_L_isLifted lw_L_252 rfl rfl (roomL (by omega) (by omega) rfl) rfl rfl (Nat.le_of_ble_eq_true rfl) rfl (w_isLifted hl0.1 hl0.2.2.1 e1 hR (fun S2 s1 s2 => cpI ?_))
  have hl2 := LI0_X hl0 s2
  refine r_istore (pc' := 860) (lv' := (6, .int (J1 (c + 128) 0)) :: lvL b c i) dL_law_858 (by decide) rfl rfl ?_
  refine r_aload_n (pc' := 861) dL_law_860 rfl 4 rfl rfl ?_
  refine r_sarg (pc' := 867) (ij := 1) 1 6 dL_law_861 dL_law_862 dL_law_864 dL_law_865 dL_law_866 rfl rfl rfl hx.1 rfl ?_
  refine r_callV1 (pc' := 870) (k' := k + 2) (n' := n + 12) dL_law_867 mb_X9_isLifted mi_X9_isLifted hl2.2.1.o (by decide) rfl lk_L_254 (roomL (by omega) (by omega) rfl) rfl rfl (Nat.le_of_ble_eq_true rfl) rfl (c_X9_isLifted hl2.2.1 e2 (cpI ?_))
  exact tail_Z dL_law_870 dL_law_872 dL_law_873 dL_law_876 dL_law_878 dL_law_883 dL_law_885 dL_law_888 dL_law_889 dL_law_890 dL_law_891 dL_law_893 dL_law_896 dL_law_897 dL_law_900 dL_law_901 dL_law_902 dL_law_907 (by decide) hl2 (fun q => by rw [s1 q]; exact sX_st) (by omega) (by omega) (aa_widen (by omega) (by omega) (nx _ _ _ _ ⟨hl2, hr1⟩))
theorem k_wear (h : LI I S c L P) (hk : k ≤ 600000) (hn : n ≤ 7000000) (hx : vp_in (i + 1) N ∧ vp_in (i + 2) N ∧ vp_in (i + 3) N ∧ vp_in (i + 4) N ∧ vp_in (i + 5) N) (nx : ∀ J S2 L2 P2, LI J S2 c L2 P2 → AA Ω m_L_law (LF Ω b N xs) (k + 10) (n + 60) 3664 (lvL b c i) [] J S2) : AA Ω m_L_law (LF Ω b N xs) k n 910 (lvL b c i) [] I S := by
  obtain ⟨hl0, hr⟩ := id h
  have hL := hl0.LL
  have hLP := hl0.LP
  obtain ⟨o1, I1, v, J1, e1, e2, hR, hr1⟩ := Eqv_two (mo := fun A => s_X9_wear A (c + 128) (xs (i + 1).toNatClampNeg)) hr hL rfl (fun J hJ => q_wear (P := P) hJ (xs (i + 1).toNatClampNeg)) (fun r J z q hz => fr_X8_wear q (by omega) (by omega) (by omega)) (fun A r J z q hz => fr_X9_wear q (by omega))
  refine r_aload_n (pc' := 911) dL_law_910 rfl 4 rfl rfl ?_
  refine r_sarg (pc' := 917) (ij := 1) 0 5 dL_law_911 dL_law_912 dL_law_914 dL_law_915 dL_law_916 rfl rfl rfl hx.1 rfl ?_
  refine r_aload_n (pc' := 918) dL_law_917 rfl 2 rfl rfl ?_
  refine r_callSH (pc' := 921) (k' := k + 2) (n' := n + 12) (As := [.ref c, .int (xs (i + 1).toNatClampNeg), .ref (c + 139)]) (rest := []) dL_law_918 mb_L_wear ms_L_wear lw_L_255 rfl rfl (roomL (by omega) (by omega) rfl) rfl rfl (Nat.le_of_ble_eq_true rfl) rfl (w_wear hl0.1 hl0.2.2.1 e1 hR (fun S2 s1 s2 => cpI ?_))
  have hl2 := LI0_X hl0 s2
  refine r_istore (pc' := 923) (lv' := (6, .int (J1 (c + 128) 0)) :: lvL b c i) dL_law_921 (by decide) rfl rfl ?_
  refine r_aload_n (pc' := 924) dL_law_923 rfl 4 rfl rfl ?_
  refine r_sarg (pc' := 930) (ij := 1) 1 6 dL_law_924 dL_law_925 dL_law_927 dL_law_928 dL_law_929 rfl rfl rfl hx.1 rfl ?_
  refine r_callV1 (pc' := 933) (k' := k + 2) (n' := n + 12) dL_law_930 mb_X9_wear mi_X9_wear hl2.2.1.o (by decide) rfl lk_L_257 (roomL (by omega) (by omega) rfl) rfl rfl (Nat.le_of_ble_eq_true rfl) rfl (c_X9_wear hl2.2.1 e2 (cpI ?_))
  exact tail_I dL_law_933 dL_law_935 dL_law_936 dL_law_939 dL_law_941 dL_law_946 dL_law_948 dL_law_951 dL_law_952 dL_law_953 dL_law_954 dL_law_956 dL_law_957 dL_law_958 dL_law_963 (by decide) hl2 (fun q => by rw [s1 q]; exact sX_st) (by omega) (by omega) (aa_widen (by omega) (by omega) (nx _ _ _ _ ⟨hl2, hr1⟩))
theorem k_isStuck (h : LI I S c L P) (hk : k ≤ 600000) (hn : n ≤ 7000000) (hx : vp_in (i + 1) N ∧ vp_in (i + 2) N ∧ vp_in (i + 3) N ∧ vp_in (i + 4) N ∧ vp_in (i + 5) N) (nx : ∀ J S2 L2 P2, LI J S2 c L2 P2 → AA Ω m_L_law (LF Ω b N xs) (k + 10) (n + 60) 3664 (lvL b c i) [] J S2) : AA Ω m_L_law (LF Ω b N xs) k n 966 (lvL b c i) [] I S := by
  obtain ⟨hl0, hr⟩ := id h
  have hL := hl0.LL
  have hLP := hl0.LP
  obtain ⟨o1, I1, v, J1, e1, e2, hR, hr1⟩ := Eqv_two (mo := fun A => s_X9_isStuck A (c + 128) (xs (i + 1).toNatClampNeg)) hr hL rfl (fun J hJ => q_isStuck (P := P) hJ (xs (i + 1).toNatClampNeg)) (fun r J z q hz => fr_X8_isStuck q (by omega) (by omega) (by omega)) (fun A r J z q hz => fr_X9_isStuck q (by omega))
  refine r_aload_n (pc' := 967) dL_law_966 rfl 4 rfl rfl ?_
  refine r_sarg (pc' := 973) (ij := 1) 0 5 dL_law_967 dL_law_968 dL_law_970 dL_law_971 dL_law_972 rfl rfl rfl hx.1 rfl ?_
  refine r_aload_n (pc' := 974) dL_law_973 rfl 2 rfl rfl ?_
  refine r_callSH (pc' := 977) (k' := k + 2) (n' := n + 12) (As := [.ref c, .int (xs (i + 1).toNatClampNeg), .ref (c + 139)]) (rest := []) dL_law_974 mb_L_isStuck ms_L_isStuck lw_L_258 rfl rfl (roomL (by omega) (by omega) rfl) rfl rfl (Nat.le_of_ble_eq_true rfl) rfl (w_isStuck hl0.1 hl0.2.2.1 e1 hR (fun S2 s1 s2 => cpI ?_))
  have hl2 := LI0_X hl0 s2
  refine r_istore (pc' := 979) (lv' := (6, .int (J1 (c + 128) 0)) :: lvL b c i) dL_law_977 (by decide) rfl rfl ?_
  refine r_aload_n (pc' := 980) dL_law_979 rfl 4 rfl rfl ?_
  refine r_sarg (pc' := 986) (ij := 1) 1 6 dL_law_980 dL_law_981 dL_law_983 dL_law_984 dL_law_985 rfl rfl rfl hx.1 rfl ?_
  refine r_callV1 (pc' := 989) (k' := k + 2) (n' := n + 12) dL_law_986 mb_X9_isStuck mi_X9_isStuck hl2.2.1.o (by decide) rfl lk_L_260 (roomL (by omega) (by omega) rfl) rfl rfl (Nat.le_of_ble_eq_true rfl) rfl (c_X9_isStuck hl2.2.1 e2 (cpI ?_))
  exact tail_Z dL_law_989 dL_law_991 dL_law_992 dL_law_995 dL_law_997 dL_law_1002 dL_law_1004 dL_law_1007 dL_law_1008 dL_law_1009 dL_law_1010 dL_law_1012 dL_law_1015 dL_law_1016 dL_law_1019 dL_law_1020 dL_law_1021 dL_law_1026 (by decide) hl2 (fun q => by rw [s1 q]; exact sX_st) (by omega) (by omega) (aa_widen (by omega) (by omega) (nx _ _ _ _ ⟨hl2, hr1⟩))
theorem k_cardCount (h : LI I S c L P) (hk : k ≤ 600000) (hn : n ≤ 7000000) (hx : vp_in (i + 1) N ∧ vp_in (i + 2) N ∧ vp_in (i + 3) N ∧ vp_in (i + 4) N ∧ vp_in (i + 5) N) (nx : ∀ J S2 L2 P2, LI J S2 c L2 P2 → AA Ω m_L_law (LF Ω b N xs) (k + 10) (n + 60) 3664 (lvL b c i) [] J S2) : AA Ω m_L_law (LF Ω b N xs) k n 1029 (lvL b c i) [] I S := by
  obtain ⟨hl0, hr⟩ := id h
  have hL := hl0.LL
  have hLP := hl0.LP
  obtain ⟨o1, I1, v, J1, e1, e2, hR, hr1⟩ := Eqv_two (mo := fun A => s_X9_cardCount A (c + 128)) hr hL rfl (fun J hJ => q_cardCount (P := P) hJ) (fun r J z q hz => fr_X8_cardCount q (by omega) (by omega) (by omega)) (fun A r J z q hz => fr_X9_cardCount q (by omega))
  refine r_aload_n (pc' := 1030) dL_law_1029 rfl 4 rfl rfl ?_
  refine r_aload_n (pc' := 1031) dL_law_1030 rfl 2 rfl rfl ?_
  refine r_callSH (pc' := 1034) (k' := k + 1) (n' := n + 6) (As := [.ref c, .ref (c + 139)]) (rest := []) dL_law_1031 mb_L_cardCount ms_L_cardCount lw_L_261 rfl rfl (roomL (by omega) (by omega) rfl) rfl rfl (Nat.le_of_ble_eq_true rfl) rfl (w_cardCount hl0.1 hl0.2.2.1 e1 hR (fun S2 s1 s2 => cpI ?_))
  have hl2 := LI0_X hl0 s2
  refine r_istore (pc' := 1036) (lv' := (6, .int (J1 (c + 128) 0)) :: lvL b c i) dL_law_1034 (by decide) rfl rfl ?_
  refine r_aload_n (pc' := 1037) dL_law_1036 rfl 4 rfl rfl ?_
  refine r_callV0 (pc' := 1040) (k' := k + 1) (n' := n + 6) dL_law_1037 mb_X9_cardCount mi_X9_cardCount hl2.2.1.o (by decide) rfl lk_L_263 (roomL (by omega) (by omega) rfl) rfl rfl (Nat.le_of_ble_eq_true rfl) rfl (c_X9_cardCount hl2.2.1 e2 (cpI ?_))
  exact tail_I dL_law_1040 dL_law_1042 dL_law_1043 dL_law_1046 dL_law_1048 dL_law_1053 dL_law_1055 dL_law_1058 dL_law_1059 dL_law_1060 dL_law_1061 dL_law_1063 dL_law_1064 dL_law_1065 dL_law_1070 (by decide) hl2 (fun q => by rw [s1 q]; exact sX_st) (by omega) (by omega) (aa_widen (by omega) (by omega) (nx _ _ _ _ ⟨hl2, hr1⟩))
theorem k_lifts (h : LI I S c L P) (hk : k ≤ 600000) (hn : n ≤ 7000000) (hx : vp_in (i + 1) N ∧ vp_in (i + 2) N ∧ vp_in (i + 3) N ∧ vp_in (i + 4) N ∧ vp_in (i + 5) N) (nx : ∀ J S2 L2 P2, LI J S2 c L2 P2 → AA Ω m_L_law (LF Ω b N xs) (k + 10) (n + 60) 3664 (lvL b c i) [] J S2) : AA Ω m_L_law (LF Ω b N xs) k n 1073 (lvL b c i) [] I S := by
  obtain ⟨hl0, hr⟩ := id h
  have hL := hl0.LL
  have hLP := hl0.LP
  obtain ⟨o1, I1, v, J1, e1, e2, hR, hr1⟩ := Eqv_two (mo := fun A => s_X9_lifts A (c + 128) (xs (i + 1).toNatClampNeg) (xs (i + 2).toNatClampNeg)) hr hL rfl (fun J hJ => q_lifts (P := P) hJ (xs (i + 1).toNatClampNeg) (xs (i + 2).toNatClampNeg)) (fun r J z q hz => fr_X8_lifts q (by omega) (by omega) (by omega)) (fun A r J z q hz => fr_X9_lifts q (by omega))
  refine r_aload_n (pc' := 1074) dL_law_1073 rfl 4 rfl rfl ?_
  refine r_sarg (pc' := 1080) (ij := 1) 0 5 dL_law_1074 dL_law_1075 dL_law_1077 dL_law_1078 dL_law_1079 rfl rfl rfl hx.1 rfl ?_
  refine r_sarg (pc' := 1086) (ij := 2) 0 5 dL_law_1080 dL_law_1081 dL_law_1083 dL_law_1084 dL_law_1085 rfl rfl rfl hx.2.1 rfl ?_
  refine r_aload_n (pc' := 1087) dL_law_1086 rfl 2 rfl rfl ?_
  refine r_callSH (pc' := 1090) (k' := k + 4) (n' := n + 24) (As := [.ref c, .int (xs (i + 1).toNatClampNeg), .int (xs (i + 2).toNatClampNeg), .ref (c + 139)]) (rest := []) dL_law_1087 mb_L_lifts ms_L_lifts lw_L_264 rfl rfl (roomL (by omega) (by omega) rfl) rfl rfl (Nat.le_of_ble_eq_true rfl) rfl (w_lifts hl0.1 hl0.2.2.1 e1 hR (fun S2 s1 s2 => cpI ?_))
  have hl2 := LI0_X hl0 s2
  refine r_istore (pc' := 1092) (lv' := (6, .int (J1 (c + 128) 0)) :: lvL b c i) dL_law_1090 (by decide) rfl rfl ?_
  refine r_aload_n (pc' := 1093) dL_law_1092 rfl 4 rfl rfl ?_
  refine r_sarg (pc' := 1099) (ij := 1) 1 6 dL_law_1093 dL_law_1094 dL_law_1096 dL_law_1097 dL_law_1098 rfl rfl rfl hx.1 rfl ?_
  refine r_sarg (pc' := 1105) (ij := 2) 1 6 dL_law_1099 dL_law_1100 dL_law_1102 dL_law_1103 dL_law_1104 rfl rfl rfl hx.2.1 rfl ?_
  refine r_callV2 (pc' := 1108) (k' := k + 4) (n' := n + 24) dL_law_1105 mb_X9_lifts mi_X9_lifts hl2.2.1.o (by decide) rfl lk_L_267 (roomL (by omega) (by omega) rfl) rfl rfl (Nat.le_of_ble_eq_true rfl) rfl (c_X9_lifts hl2.2.1 e2 (cpI ?_))
  exact tail_Z dL_law_1108 dL_law_1110 dL_law_1111 dL_law_1114 dL_law_1116 dL_law_1121 dL_law_1123 dL_law_1126 dL_law_1127 dL_law_1128 dL_law_1129 dL_law_1131 dL_law_1134 dL_law_1135 dL_law_1138 dL_law_1139 dL_law_1140 dL_law_1145 (by decide) hl2 (fun q => by rw [s1 q]; exact sX_st) (by omega) (by omega) (aa_widen (by omega) (by omega) (nx _ _ _ _ ⟨hl2, hr1⟩))
theorem k_cardColour (h : LI I S c L P) (hk : k ≤ 600000) (hn : n ≤ 7000000) (hx : vp_in (i + 1) N ∧ vp_in (i + 2) N ∧ vp_in (i + 3) N ∧ vp_in (i + 4) N ∧ vp_in (i + 5) N) (nx : ∀ J S2 L2 P2, LI J S2 c L2 P2 → AA Ω m_L_law (LF Ω b N xs) (k + 10) (n + 60) 3664 (lvL b c i) [] J S2) : AA Ω m_L_law (LF Ω b N xs) k n 1148 (lvL b c i) [] I S := by
  obtain ⟨hl0, hr⟩ := id h
  have hL := hl0.LL
  have hLP := hl0.LP
  obtain ⟨o1, I1, v, J1, e1, e2, hR, hr1⟩ := Eqv_two (mo := fun A => s_X9_cardColour A (c + 128) (xs (i + 1).toNatClampNeg)) hr hL rfl (fun J hJ => q_cardColour (P := P) hJ (xs (i + 1).toNatClampNeg)) (fun r J z q hz => fr_X8_cardColour q (by omega) (by omega) (by omega)) (fun A r J z q hz => fr_X9_cardColour q (by omega))
  refine r_aload_n (pc' := 1149) dL_law_1148 rfl 4 rfl rfl ?_
  refine r_sarg (pc' := 1155) (ij := 1) 0 5 dL_law_1149 dL_law_1150 dL_law_1152 dL_law_1153 dL_law_1154 rfl rfl rfl hx.1 rfl ?_
  refine r_aload_n (pc' := 1156) dL_law_1155 rfl 2 rfl rfl ?_
  refine r_callSH (pc' := 1159) (k' := k + 2) (n' := n + 12) (As := [.ref c, .int (xs (i + 1).toNatClampNeg), .ref (c + 139)]) (rest := []) dL_law_1156 mb_L_cardColour ms_L_cardColour lw_L_268 rfl rfl (roomL (by omega) (by omega) rfl) rfl rfl (Nat.le_of_ble_eq_true rfl) rfl (w_cardColour hl0.1 hl0.2.2.1 e1 hR (fun S2 s1 s2 => cpI ?_))
  have hl2 := LI0_X hl0 s2
  refine r_istore (pc' := 1161) (lv' := (6, .int (J1 (c + 128) 0)) :: lvL b c i) dL_law_1159 (by decide) rfl rfl ?_
  refine r_aload_n (pc' := 1162) dL_law_1161 rfl 4 rfl rfl ?_
  refine r_sarg (pc' := 1168) (ij := 1) 1 6 dL_law_1162 dL_law_1163 dL_law_1165 dL_law_1166 dL_law_1167 rfl rfl rfl hx.1 rfl ?_
  refine r_callV1 (pc' := 1171) (k' := k + 2) (n' := n + 12) dL_law_1168 mb_X9_cardColour mi_X9_cardColour hl2.2.1.o (by decide) rfl lk_L_270 (roomL (by omega) (by omega) rfl) rfl rfl (Nat.le_of_ble_eq_true rfl) rfl (c_X9_cardColour hl2.2.1 e2 (cpI ?_))
  exact tail_I dL_law_1171 dL_law_1173 dL_law_1174 dL_law_1177 dL_law_1179 dL_law_1184 dL_law_1186 dL_law_1189 dL_law_1190 dL_law_1191 dL_law_1192 dL_law_1194 dL_law_1195 dL_law_1196 dL_law_1201 (by decide) hl2 (fun q => by rw [s1 q]; exact sX_st) (by omega) (by omega) (aa_widen (by omega) (by omega) (nx _ _ _ _ ⟨hl2, hr1⟩))
theorem k_liftedWarps (h : LI I S c L P) (hk : k ≤ 600000) (hn : n ≤ 7000000) (hx : vp_in (i + 1) N ∧ vp_in (i + 2) N ∧ vp_in (i + 3) N ∧ vp_in (i + 4) N ∧ vp_in (i + 5) N) (nx : ∀ J S2 L2 P2, LI J S2 c L2 P2 → AA Ω m_L_law (LF Ω b N xs) (k + 10) (n + 60) 3664 (lvL b c i) [] J S2) : AA Ω m_L_law (LF Ω b N xs) k n 1204 (lvL b c i) [] I S := by
  obtain ⟨hl0, hr⟩ := id h
  have hL := hl0.LL
  have hLP := hl0.LP
  obtain ⟨o1, I1, v, J1, e1, e2, hR, hr1⟩ := Eqv_two (mo := fun A => s_X9_liftedWarps A (c + 128) (xs (i + 1).toNatClampNeg)) hr hL rfl (fun J hJ => q_liftedWarps (P := P) hJ (xs (i + 1).toNatClampNeg)) (fun r J z q hz => fr_X8_liftedWarps q (by omega) (by omega) (by omega)) (fun A r J z q hz => fr_X9_liftedWarps q (by omega))
  refine r_aload_n (pc' := 1205) dL_law_1204 rfl 4 rfl rfl ?_
  refine r_sarg (pc' := 1211) (ij := 1) 0 5 dL_law_1205 dL_law_1206 dL_law_1208 dL_law_1209 dL_law_1210 rfl rfl rfl hx.1 rfl ?_
  refine r_aload_n (pc' := 1212) dL_law_1211 rfl 2 rfl rfl ?_
  refine r_callSH (pc' := 1215) (k' := k + 2) (n' := n + 12) (As := [.ref c, .int (xs (i + 1).toNatClampNeg), .ref (c + 139)]) (rest := []) dL_law_1212 mb_L_liftedWarps ms_L_liftedWarps lw_L_271 rfl rfl (roomL (by omega) (by omega) rfl) rfl rfl (Nat.le_of_ble_eq_true rfl) rfl (w_liftedWarps hl0.1 hl0.2.2.1 e1 hR (fun S2 s1 s2 => cpI ?_))
  have hl2 := LI0_X hl0 s2
  refine r_istore (pc' := 1217) (lv' := (6, .int (J1 (c + 128) 0)) :: lvL b c i) dL_law_1215 (by decide) rfl rfl ?_
  refine r_aload_n (pc' := 1218) dL_law_1217 rfl 4 rfl rfl ?_
  refine r_sarg (pc' := 1224) (ij := 1) 1 6 dL_law_1218 dL_law_1219 dL_law_1221 dL_law_1222 dL_law_1223 rfl rfl rfl hx.1 rfl ?_
  refine r_callV1 (pc' := 1227) (k' := k + 2) (n' := n + 12) dL_law_1224 mb_X9_liftedWarps mi_X9_liftedWarps hl2.2.1.o (by decide) rfl lk_L_273 (roomL (by omega) (by omega) rfl) rfl rfl (Nat.le_of_ble_eq_true rfl) rfl (c_X9_liftedWarps hl2.2.1 e2 (cpI ?_))
  exact tail_I dL_law_1227 dL_law_1229 dL_law_1230 dL_law_1233 dL_law_1235 dL_law_1240 dL_law_1242 dL_law_1245 dL_law_1246 dL_law_1247 dL_law_1248 dL_law_1250 dL_law_1251 dL_law_1252 dL_law_1257 (by decide) hl2 (fun q => by rw [s1 q]; exact sX_st) (by omega) (by omega) (aa_widen (by omega) (by omega) (nx _ _ _ _ ⟨hl2, hr1⟩))
theorem k_liftDistance (h : LI I S c L P) (hk : k ≤ 600000) (hn : n ≤ 7000000) (hx : vp_in (i + 1) N ∧ vp_in (i + 2) N ∧ vp_in (i + 3) N ∧ vp_in (i + 4) N ∧ vp_in (i + 5) N) (nx : ∀ J S2 L2 P2, LI J S2 c L2 P2 → AA Ω m_L_law (LF Ω b N xs) (k + 10) (n + 60) 3664 (lvL b c i) [] J S2) : AA Ω m_L_law (LF Ω b N xs) k n 1260 (lvL b c i) [] I S := by
  obtain ⟨hl0, hr⟩ := id h
  have hL := hl0.LL
  have hLP := hl0.LP
  obtain ⟨o1, I1, v, J1, e1, e2, hR, hr1⟩ := Eqv_two (mo := fun A => s_X9_liftDistance A (c + 128) (xs (i + 1).toNatClampNeg) (xs (i + 2).toNatClampNeg)) hr hL rfl (fun J hJ => q_liftDistance (P := P) hJ (xs (i + 1).toNatClampNeg) (xs (i + 2).toNatClampNeg)) (fun r J z q hz => fr_X8_liftDistance q (by omega) (by omega) (by omega)) (fun A r J z q hz => fr_X9_liftDistance q (by omega))
  refine r_aload_n (pc' := 1261) dL_law_1260 rfl 4 rfl rfl ?_
  refine r_sarg (pc' := 1267) (ij := 1) 0 5 dL_law_1261 dL_law_1262 dL_law_1264 dL_law_1265 dL_law_1266 rfl rfl rfl hx.1 rfl ?_
  refine r_sarg (pc' := 1273) (ij := 2) 0 5 dL_law_1267 dL_law_1268 dL_law_1270 dL_law_1271 dL_law_1272 rfl rfl rfl hx.2.1 rfl ?_
  refine r_aload_n (pc' := 1274) dL_law_1273 rfl 2 rfl rfl ?_
  refine r_callSH (pc' := 1277) (k' := k + 4) (n' := n + 24) (As := [.ref c, .int (xs (i + 1).toNatClampNeg), .int (xs (i + 2).toNatClampNeg), .ref (c + 139)]) (rest := []) dL_law_1274 mb_L_liftDistance ms_L_liftDistance lw_L_274 rfl rfl (roomL (by omega) (by omega) rfl) rfl rfl (Nat.le_of_ble_eq_true rfl) rfl (w_liftDistance hl0.1 hl0.2.2.1 e1 hR (fun S2 s1 s2 => cpI ?_))
  have hl2 := LI0_X hl0 s2
  refine r_istore (pc' := 1279) (lv' := (6, .int (J1 (c + 128) 0)) :: lvL b c i) dL_law_1277 (by decide) rfl rfl ?_
  refine r_aload_n (pc' := 1280) dL_law_1279 rfl 4 rfl rfl ?_
  refine r_sarg (pc' := 1286) (ij := 1) 1 6 dL_law_1280 dL_law_1281 dL_law_1283 dL_law_1284 dL_law_1285 rfl rfl rfl hx.1 rfl ?_
  refine r_sarg (pc' := 1292) (ij := 2) 1 6 dL_law_1286 dL_law_1287 dL_law_1289 dL_law_1290 dL_law_1291 rfl rfl rfl hx.2.1 rfl ?_
  refine r_callV2 (pc' := 1295) (k' := k + 4) (n' := n + 24) dL_law_1292 mb_X9_liftDistance mi_X9_liftDistance hl2.2.1.o (by decide) rfl lk_L_276 (roomL (by omega) (by omega) rfl) rfl rfl (Nat.le_of_ble_eq_true rfl) rfl (c_X9_liftDistance hl2.2.1 e2 (cpI ?_))
  exact tail_I dL_law_1295 dL_law_1297 dL_law_1298 dL_law_1301 dL_law_1303 dL_law_1308 dL_law_1310 dL_law_1313 dL_law_1314 dL_law_1315 dL_law_1316 dL_law_1318 dL_law_1319 dL_law_1320 dL_law_1325 (by decide) hl2 (fun q => by rw [s1 q]; exact sX_st) (by omega) (by omega) (aa_widen (by omega) (by omega) (nx _ _ _ _ ⟨hl2, hr1⟩))
theorem k_oppositeCard (h : LI I S c L P) (hk : k ≤ 600000) (hn : n ≤ 7000000) (hx : vp_in (i + 1) N ∧ vp_in (i + 2) N ∧ vp_in (i + 3) N ∧ vp_in (i + 4) N ∧ vp_in (i + 5) N) (nx : ∀ J S2 L2 P2, LI J S2 c L2 P2 → AA Ω m_L_law (LF Ω b N xs) (k + 10) (n + 60) 3664 (lvL b c i) [] J S2) : AA Ω m_L_law (LF Ω b N xs) k n 1328 (lvL b c i) [] I S := by
  obtain ⟨hl0, hr⟩ := id h
  have hL := hl0.LL
  have hLP := hl0.LP
  obtain ⟨o1, I1, v, J1, e1, e2, hR, hr1⟩ := Eqv_two (mo := fun A => s_X9_oppositeCard A (c + 128) (xs (i + 1).toNatClampNeg)) hr hL rfl (fun J hJ => q_oppositeCard (P := P) hJ (xs (i + 1).toNatClampNeg)) (fun r J z q hz => fr_X8_oppositeCard q (by omega) (by omega) (by omega)) (fun A r J z q hz => fr_X9_oppositeCard q (by omega))
  refine r_aload_n (pc' := 1329) dL_law_1328 rfl 4 rfl rfl ?_
  refine r_sarg (pc' := 1335) (ij := 1) 0 5 dL_law_1329 dL_law_1330 dL_law_1332 dL_law_1333 dL_law_1334 rfl rfl rfl hx.1 rfl ?_
  refine r_aload_n (pc' := 1336) dL_law_1335 rfl 2 rfl rfl ?_
  refine r_callSH (pc' := 1339) (k' := k + 2) (n' := n + 12) (As := [.ref c, .int (xs (i + 1).toNatClampNeg), .ref (c + 139)]) (rest := []) dL_law_1336 mb_L_oppositeCard ms_L_oppositeCard lw_L_277 rfl rfl (roomL (by omega) (by omega) rfl) rfl rfl (Nat.le_of_ble_eq_true rfl) rfl (w_oppositeCard hl0.1 hl0.2.2.1 e1 hR (fun S2 s1 s2 => cpI ?_))
  have hl2 := LI0_X hl0 s2
  refine r_istore (pc' := 1341) (lv' := (6, .int (J1 (c + 128) 0)) :: lvL b c i) dL_law_1339 (by decide) rfl rfl ?_
  refine r_aload_n (pc' := 1342) dL_law_1341 rfl 4 rfl rfl ?_
  refine r_sarg (pc' := 1348) (ij := 1) 1 6 dL_law_1342 dL_law_1343 dL_law_1345 dL_law_1346 dL_law_1347 rfl rfl rfl hx.1 rfl ?_
  refine r_callV1 (pc' := 1351) (k' := k + 2) (n' := n + 12) dL_law_1348 mb_X9_oppositeCard mi_X9_oppositeCard hl2.2.1.o (by decide) rfl lk_L_279 (roomL (by omega) (by omega) rfl) rfl rfl (Nat.le_of_ble_eq_true rfl) rfl (c_X9_oppositeCard hl2.2.1 e2 (cpI ?_))
  exact tail_I dL_law_1351 dL_law_1353 dL_law_1354 dL_law_1357 dL_law_1359 dL_law_1364 dL_law_1366 dL_law_1369 dL_law_1370 dL_law_1371 dL_law_1372 dL_law_1374 dL_law_1375 dL_law_1376 dL_law_1381 (by decide) hl2 (fun q => by rw [s1 q]; exact sX_st) (by omega) (by omega) (aa_widen (by omega) (by omega) (nx _ _ _ _ ⟨hl2, hr1⟩))
theorem k_deckLength (h : LI I S c L P) (hk : k ≤ 600000) (hn : n ≤ 7000000) (hx : vp_in (i + 1) N ∧ vp_in (i + 2) N ∧ vp_in (i + 3) N ∧ vp_in (i + 4) N ∧ vp_in (i + 5) N) (nx : ∀ J S2 L2 P2, LI J S2 c L2 P2 → AA Ω m_L_law (LF Ω b N xs) (k + 10) (n + 60) 3664 (lvL b c i) [] J S2) : AA Ω m_L_law (LF Ω b N xs) k n 1384 (lvL b c i) [] I S := by
  obtain ⟨hl0, hr⟩ := id h
  have hL := hl0.LL
  have hLP := hl0.LP
  obtain ⟨o1, I1, v, J1, e1, e2, hR, hr1⟩ := Eqv_two (mo := fun A => s_X9_deckLength A (c + 128)) hr hL rfl (fun J hJ => q_deckLength (P := P) hJ) (fun r J z q hz => fr_X8_deckLength q (by omega) (by omega) (by omega)) (fun A r J z q hz => fr_X9_deckLength q (by omega))
  refine r_aload_n (pc' := 1385) dL_law_1384 rfl 4 rfl rfl ?_
  refine r_aload_n (pc' := 1386) dL_law_1385 rfl 2 rfl rfl ?_
  refine r_callSH (pc' := 1389) (k' := k + 1) (n' := n + 6) (As := [.ref c, .ref (c + 139)]) (rest := []) dL_law_1386 mb_L_deckLength ms_L_deckLength lw_L_280 rfl rfl (roomL (by omega) (by omega) rfl) rfl rfl (Nat.le_of_ble_eq_true rfl) rfl (w_deckLength hl0.1 hl0.2.2.1 e1 hR (fun S2 s1 s2 => cpI ?_))
  have hl2 := LI0_X hl0 s2
  refine r_istore (pc' := 1391) (lv' := (6, .int (J1 (c + 128) 0)) :: lvL b c i) dL_law_1389 (by decide) rfl rfl ?_
  refine r_aload_n (pc' := 1392) dL_law_1391 rfl 4 rfl rfl ?_
  refine r_callV0 (pc' := 1395) (k' := k + 1) (n' := n + 6) dL_law_1392 mb_X9_deckLength mi_X9_deckLength hl2.2.1.o (by decide) rfl lk_L_282 (roomL (by omega) (by omega) rfl) rfl rfl (Nat.le_of_ble_eq_true rfl) rfl (c_X9_deckLength hl2.2.1 e2 (cpI ?_))
  exact tail_I dL_law_1395 dL_law_1397 dL_law_1398 dL_law_1401 dL_law_1403 dL_law_1408 dL_law_1410 dL_law_1413 dL_law_1414 dL_law_1415 dL_law_1416 dL_law_1418 dL_law_1419 dL_law_1420 dL_law_1425 (by decide) hl2 (fun q => by rw [s1 q]; exact sX_st) (by omega) (by omega) (aa_widen (by omega) (by omega) (nx _ _ _ _ ⟨hl2, hr1⟩))
theorem k_deckCard (h : LI I S c L P) (hk : k ≤ 600000) (hn : n ≤ 7000000) (hx : vp_in (i + 1) N ∧ vp_in (i + 2) N ∧ vp_in (i + 3) N ∧ vp_in (i + 4) N ∧ vp_in (i + 5) N) (nx : ∀ J S2 L2 P2, LI J S2 c L2 P2 → AA Ω m_L_law (LF Ω b N xs) (k + 10) (n + 60) 3664 (lvL b c i) [] J S2) : AA Ω m_L_law (LF Ω b N xs) k n 1428 (lvL b c i) [] I S := by
  obtain ⟨hl0, hr⟩ := id h
  have hL := hl0.LL
  have hLP := hl0.LP
  obtain ⟨o1, I1, v, J1, e1, e2, hR, hr1⟩ := Eqv_two (mo := fun A => s_X9_deckCard A (c + 128) (xs (i + 1).toNatClampNeg)) hr hL rfl (fun J hJ => q_deckCard (P := P) hJ (xs (i + 1).toNatClampNeg)) (fun r J z q hz => fr_X8_deckCard q (by omega) (by omega) (by omega)) (fun A r J z q hz => fr_X9_deckCard q (by omega))
  refine r_aload_n (pc' := 1429) dL_law_1428 rfl 4 rfl rfl ?_
  refine r_sarg (pc' := 1435) (ij := 1) 0 5 dL_law_1429 dL_law_1430 dL_law_1432 dL_law_1433 dL_law_1434 rfl rfl rfl hx.1 rfl ?_
  refine r_aload_n (pc' := 1436) dL_law_1435 rfl 2 rfl rfl ?_
  refine r_callSH (pc' := 1439) (k' := k + 2) (n' := n + 12) (As := [.ref c, .int (xs (i + 1).toNatClampNeg), .ref (c + 139)]) (rest := []) dL_law_1436 mb_L_deckCard ms_L_deckCard lw_L_283 rfl rfl (roomL (by omega) (by omega) rfl) rfl rfl (Nat.le_of_ble_eq_true rfl) rfl (w_deckCard hl0.1 hl0.2.2.1 e1 hR (fun S2 s1 s2 => cpI ?_))
  have hl2 := LI0_X hl0 s2
  refine r_istore (pc' := 1441) (lv' := (6, .int (J1 (c + 128) 0)) :: lvL b c i) dL_law_1439 (by decide) rfl rfl ?_
  refine r_aload_n (pc' := 1442) dL_law_1441 rfl 4 rfl rfl ?_
  refine r_sarg (pc' := 1448) (ij := 1) 1 6 dL_law_1442 dL_law_1443 dL_law_1445 dL_law_1446 dL_law_1447 rfl rfl rfl hx.1 rfl ?_
  refine r_callV1 (pc' := 1451) (k' := k + 2) (n' := n + 12) dL_law_1448 mb_X9_deckCard mi_X9_deckCard hl2.2.1.o (by decide) rfl lk_L_285 (roomL (by omega) (by omega) rfl) rfl rfl (Nat.le_of_ble_eq_true rfl) rfl (c_X9_deckCard hl2.2.1 e2 (cpI ?_))
  exact tail_I dL_law_1451 dL_law_1453 dL_law_1454 dL_law_1457 dL_law_1459 dL_law_1464 dL_law_1466 dL_law_1469 dL_law_1470 dL_law_1471 dL_law_1472 dL_law_1474 dL_law_1475 dL_law_1476 dL_law_1481 (by decide) hl2 (fun q => by rw [s1 q]; exact sX_st) (by omega) (by omega) (aa_widen (by omega) (by omega) (nx _ _ _ _ ⟨hl2, hr1⟩))
theorem k_cardUses (h : LI I S c L P) (hk : k ≤ 600000) (hn : n ≤ 7000000) (hx : vp_in (i + 1) N ∧ vp_in (i + 2) N ∧ vp_in (i + 3) N ∧ vp_in (i + 4) N ∧ vp_in (i + 5) N) (nx : ∀ J S2 L2 P2, LI J S2 c L2 P2 → AA Ω m_L_law (LF Ω b N xs) (k + 10) (n + 60) 3664 (lvL b c i) [] J S2) : AA Ω m_L_law (LF Ω b N xs) k n 1484 (lvL b c i) [] I S := by
  obtain ⟨hl0, hr⟩ := id h
  have hL := hl0.LL
  have hLP := hl0.LP
  obtain ⟨o1, I1, v, J1, e1, e2, hR, hr1⟩ := Eqv_two (mo := fun A => s_X9_cardUses A (c + 128) (xs (i + 1).toNatClampNeg)) hr hL rfl (fun J hJ => q_cardUses (P := P) hJ (xs (i + 1).toNatClampNeg)) (fun r J z q hz => fr_X8_cardUses q (by omega) (by omega) (by omega)) (fun A r J z q hz => fr_X9_cardUses q (by omega))
  refine r_aload_n (pc' := 1485) dL_law_1484 rfl 4 rfl rfl ?_
  refine r_sarg (pc' := 1491) (ij := 1) 0 5 dL_law_1485 dL_law_1486 dL_law_1488 dL_law_1489 dL_law_1490 rfl rfl rfl hx.1 rfl ?_
  refine r_aload_n (pc' := 1492) dL_law_1491 rfl 2 rfl rfl ?_
  refine r_callSH (pc' := 1495) (k' := k + 2) (n' := n + 12) (As := [.ref c, .int (xs (i + 1).toNatClampNeg), .ref (c + 139)]) (rest := []) dL_law_1492 mb_L_cardUses ms_L_cardUses lw_L_286 rfl rfl (roomL (by omega) (by omega) rfl) rfl rfl (Nat.le_of_ble_eq_true rfl) rfl (w_cardUses hl0.1 hl0.2.2.1 e1 hR (fun S2 s1 s2 => cpI ?_))
  have hl2 := LI0_X hl0 s2
  refine r_istore (pc' := 1497) (lv' := (6, .int (J1 (c + 128) 0)) :: lvL b c i) dL_law_1495 (by decide) rfl rfl ?_
  refine r_aload_n (pc' := 1498) dL_law_1497 rfl 4 rfl rfl ?_
  refine r_sarg (pc' := 1504) (ij := 1) 1 6 dL_law_1498 dL_law_1499 dL_law_1501 dL_law_1502 dL_law_1503 rfl rfl rfl hx.1 rfl ?_
  refine r_callV1 (pc' := 1507) (k' := k + 2) (n' := n + 12) dL_law_1504 mb_X9_cardUses mi_X9_cardUses hl2.2.1.o (by decide) rfl lk_L_288 (roomL (by omega) (by omega) rfl) rfl rfl (Nat.le_of_ble_eq_true rfl) rfl (c_X9_cardUses hl2.2.1 e2 (cpI ?_))
  exact tail_I dL_law_1507 dL_law_1509 dL_law_1510 dL_law_1513 dL_law_1515 dL_law_1520 dL_law_1522 dL_law_1525 dL_law_1526 dL_law_1527 dL_law_1528 dL_law_1530 dL_law_1531 dL_law_1532 dL_law_1537 (by decide) hl2 (fun q => by rw [s1 q]; exact sX_st) (by omega) (by omega) (aa_widen (by omega) (by omega) (nx _ _ _ _ ⟨hl2, hr1⟩))
theorem k_deckDepth (h : LI I S c L P) (hk : k ≤ 600000) (hn : n ≤ 7000000) (hx : vp_in (i + 1) N ∧ vp_in (i + 2) N ∧ vp_in (i + 3) N ∧ vp_in (i + 4) N ∧ vp_in (i + 5) N) (nx : ∀ J S2 L2 P2, LI J S2 c L2 P2 → AA Ω m_L_law (LF Ω b N xs) (k + 10) (n + 60) 3664 (lvL b c i) [] J S2) : AA Ω m_L_law (LF Ω b N xs) k n 1540 (lvL b c i) [] I S := by
  obtain ⟨hl0, hr⟩ := id h
  have hL := hl0.LL
  have hLP := hl0.LP
  obtain ⟨o1, I1, v, J1, e1, e2, hR, hr1⟩ := Eqv_two (mo := fun A => s_X9_deckDepth A (c + 128)) hr hL rfl (fun J hJ => q_deckDepth (P := P) hJ) (fun r J z q hz => fr_X8_deckDepth q (by omega) (by omega) (by omega)) (fun A r J z q hz => fr_X9_deckDepth q (by omega))
  refine r_aload_n (pc' := 1541) dL_law_1540 rfl 4 rfl rfl ?_
  refine r_aload_n (pc' := 1542) dL_law_1541 rfl 2 rfl rfl ?_
  refine r_callSH (pc' := 1545) (k' := k + 1) (n' := n + 6) (As := [.ref c, .ref (c + 139)]) (rest := []) dL_law_1542 mb_L_deckDepth ms_L_deckDepth lw_L_289 rfl rfl (roomL (by omega) (by omega) rfl) rfl rfl (Nat.le_of_ble_eq_true rfl) rfl (w_deckDepth hl0.1 hl0.2.2.1 e1 hR (fun S2 s1 s2 => cpI ?_))
  have hl2 := LI0_X hl0 s2
  refine r_istore (pc' := 1547) (lv' := (6, .int (J1 (c + 128) 0)) :: lvL b c i) dL_law_1545 (by decide) rfl rfl ?_
  refine r_aload_n (pc' := 1548) dL_law_1547 rfl 4 rfl rfl ?_
  refine r_callV0 (pc' := 1551) (k' := k + 1) (n' := n + 6) dL_law_1548 mb_X9_deckDepth mi_X9_deckDepth hl2.2.1.o (by decide) rfl lk_L_291 (roomL (by omega) (by omega) rfl) rfl rfl (Nat.le_of_ble_eq_true rfl) rfl (c_X9_deckDepth hl2.2.1 e2 (cpI ?_))
  exact tail_I dL_law_1551 dL_law_1553 dL_law_1554 dL_law_1557 dL_law_1559 dL_law_1564 dL_law_1566 dL_law_1569 dL_law_1570 dL_law_1571 dL_law_1572 dL_law_1574 dL_law_1575 dL_law_1576 dL_law_1581 (by decide) hl2 (fun q => by rw [s1 q]; exact sX_st) (by omega) (by omega) (aa_widen (by omega) (by omega) (nx _ _ _ _ ⟨hl2, hr1⟩))
theorem k_deckPeriod (h : LI I S c L P) (hk : k ≤ 600000) (hn : n ≤ 7000000) (hx : vp_in (i + 1) N ∧ vp_in (i + 2) N ∧ vp_in (i + 3) N ∧ vp_in (i + 4) N ∧ vp_in (i + 5) N) (nx : ∀ J S2 L2 P2, LI J S2 c L2 P2 → AA Ω m_L_law (LF Ω b N xs) (k + 10) (n + 60) 3664 (lvL b c i) [] J S2) : AA Ω m_L_law (LF Ω b N xs) k n 1584 (lvL b c i) [] I S := by
  obtain ⟨hl0, hr⟩ := id h
  have hL := hl0.LL
  have hLP := hl0.LP
  obtain ⟨o1, I1, v, J1, e1, e2, hR, hr1⟩ := Eqv_two (mo := fun A => s_X9_deckPeriod A (c + 128)) hr hL rfl (fun J hJ => q_deckPeriod (P := P) hJ) (fun r J z q hz => fr_X8_deckPeriod q (by omega) (by omega) (by omega)) (fun A r J z q hz => fr_X9_deckPeriod q (by omega))
  refine r_aload_n (pc' := 1585) dL_law_1584 rfl 4 rfl rfl ?_
  refine r_aload_n (pc' := 1586) dL_law_1585 rfl 2 rfl rfl ?_
  refine r_callSH (pc' := 1589) (k' := k + 1) (n' := n + 6) (As := [.ref c, .ref (c + 139)]) (rest := []) dL_law_1586 mb_L_deckPeriod ms_L_deckPeriod lw_L_292 rfl rfl (roomL (by omega) (by omega) rfl) rfl rfl (Nat.le_of_ble_eq_true rfl) rfl (w_deckPeriod hl0.1 hl0.2.2.1 e1 hR (fun S2 s1 s2 => cpI ?_))
  have hl2 := LI0_X hl0 s2
  refine r_istore (pc' := 1591) (lv' := (6, .int (J1 (c + 128) 0)) :: lvL b c i) dL_law_1589 (by decide) rfl rfl ?_
  refine r_aload_n (pc' := 1592) dL_law_1591 rfl 4 rfl rfl ?_
  refine r_callV0 (pc' := 1595) (k' := k + 1) (n' := n + 6) dL_law_1592 mb_X9_deckPeriod mi_X9_deckPeriod hl2.2.1.o (by decide) rfl lk_L_294 (roomL (by omega) (by omega) rfl) rfl rfl (Nat.le_of_ble_eq_true rfl) rfl (c_X9_deckPeriod hl2.2.1 e2 (cpI ?_))
  exact tail_I dL_law_1595 dL_law_1597 dL_law_1598 dL_law_1601 dL_law_1603 dL_law_1608 dL_law_1610 dL_law_1613 dL_law_1614 dL_law_1615 dL_law_1616 dL_law_1618 dL_law_1619 dL_law_1620 dL_law_1625 (by decide) hl2 (fun q => by rw [s1 q]; exact sX_st) (by omega) (by omega) (aa_widen (by omega) (by omega) (nx _ _ _ _ ⟨hl2, hr1⟩))
theorem k_isPalindrome (h : LI I S c L P) (hk : k ≤ 600000) (hn : n ≤ 7000000) (hx : vp_in (i + 1) N ∧ vp_in (i + 2) N ∧ vp_in (i + 3) N ∧ vp_in (i + 4) N ∧ vp_in (i + 5) N) (nx : ∀ J S2 L2 P2, LI J S2 c L2 P2 → AA Ω m_L_law (LF Ω b N xs) (k + 10) (n + 60) 3664 (lvL b c i) [] J S2) : AA Ω m_L_law (LF Ω b N xs) k n 1628 (lvL b c i) [] I S := by
  obtain ⟨hl0, hr⟩ := id h
  have hL := hl0.LL
  have hLP := hl0.LP
  obtain ⟨o1, I1, v, J1, e1, e2, hR, hr1⟩ := Eqv_two (mo := fun A => s_X9_isPalindrome A (c + 128)) hr hL rfl (fun J hJ => q_isPalindrome (P := P) hJ) (fun r J z q hz => fr_X8_isPalindrome q (by omega) (by omega) (by omega)) (fun A r J z q hz => fr_X9_isPalindrome q (by omega))
  refine r_aload_n (pc' := 1629) dL_law_1628 rfl 4 rfl rfl ?_
  refine r_aload_n (pc' := 1630) dL_law_1629 rfl 2 rfl rfl ?_
  refine r_callSH (pc' := 1633) (k' := k + 1) (n' := n + 6) (As := [.ref c, .ref (c + 139)]) (rest := []) dL_law_1630 mb_L_isPalindrome ms_L_isPalindrome lw_L_295 rfl rfl (roomL (by omega) (by omega) rfl) rfl rfl (Nat.le_of_ble_eq_true rfl) rfl (w_isPalindrome hl0.1 hl0.2.2.1 e1 hR (fun S2 s1 s2 => cpI ?_))
  have hl2 := LI0_X hl0 s2
  refine r_istore (pc' := 1635) (lv' := (6, .int (J1 (c + 128) 0)) :: lvL b c i) dL_law_1633 (by decide) rfl rfl ?_
  refine r_aload_n (pc' := 1636) dL_law_1635 rfl 4 rfl rfl ?_
  refine r_callV0 (pc' := 1639) (k' := k + 1) (n' := n + 6) dL_law_1636 mb_X9_isPalindrome mi_X9_isPalindrome hl2.2.1.o (by decide) rfl lk_L_297 (roomL (by omega) (by omega) rfl) rfl rfl (Nat.le_of_ble_eq_true rfl) rfl (c_X9_isPalindrome hl2.2.1 e2 (cpI ?_))
  exact tail_Z dL_law_1639 dL_law_1641 dL_law_1642 dL_law_1645 dL_law_1647 dL_law_1652 dL_law_1654 dL_law_1657 dL_law_1658 dL_law_1659 dL_law_1660 dL_law_1662 dL_law_1665 dL_law_1666 dL_law_1669 dL_law_1670 dL_law_1671 dL_law_1676 (by decide) hl2 (fun q => by rw [s1 q]; exact sX_st) (by omega) (by omega) (aa_widen (by omega) (by omega) (nx _ _ _ _ ⟨hl2, hr1⟩))
theorem k_rowCount (h : LI I S c L P) (hk : k ≤ 600000) (hn : n ≤ 7000000) (hx : vp_in (i + 1) N ∧ vp_in (i + 2) N ∧ vp_in (i + 3) N ∧ vp_in (i + 4) N ∧ vp_in (i + 5) N) (nx : ∀ J S2 L2 P2, LI J S2 c L2 P2 → AA Ω m_L_law (LF Ω b N xs) (k + 10) (n + 60) 3664 (lvL b c i) [] J S2) : AA Ω m_L_law (LF Ω b N xs) k n 1679 (lvL b c i) [] I S := by
  obtain ⟨hl0, hr⟩ := id h
  have hL := hl0.LL
  have hLP := hl0.LP
  obtain ⟨o1, I1, v, J1, e1, e2, hR, hr1⟩ := Eqv_two (mo := fun A => s_X9_rowCount A (c + 128)) hr hL rfl (fun J hJ => q_rowCount (P := P) hJ) (fun r J z q hz => fr_X8_rowCount q (by omega) (by omega) (by omega)) (fun A r J z q hz => fr_X9_rowCount q (by omega))
  refine r_aload_n (pc' := 1680) dL_law_1679 rfl 4 rfl rfl ?_
  refine r_aload_n (pc' := 1681) dL_law_1680 rfl 2 rfl rfl ?_
  refine r_callSH (pc' := 1684) (k' := k + 1) (n' := n + 6) (As := [.ref c, .ref (c + 139)]) (rest := []) dL_law_1681 mb_L_rowCount ms_L_rowCount lw_L_298 rfl rfl (roomL (by omega) (by omega) rfl) rfl rfl (Nat.le_of_ble_eq_true rfl) rfl (w_rowCount hl0.1 hl0.2.2.1 e1 hR (fun S2 s1 s2 => cpI ?_))
  have hl2 := LI0_X hl0 s2
  refine r_istore (pc' := 1686) (lv' := (6, .int (J1 (c + 128) 0)) :: lvL b c i) dL_law_1684 (by decide) rfl rfl ?_
  refine r_aload_n (pc' := 1687) dL_law_1686 rfl 4 rfl rfl ?_
  refine r_callV0 (pc' := 1690) (k' := k + 1) (n' := n + 6) dL_law_1687 mb_X9_rowCount mi_X9_rowCount hl2.2.1.o (by decide) rfl lk_L_300 (roomL (by omega) (by omega) rfl) rfl rfl (Nat.le_of_ble_eq_true rfl) rfl (c_X9_rowCount hl2.2.1 e2 (cpI ?_))
  exact tail_I dL_law_1690 dL_law_1692 dL_law_1693 dL_law_1696 dL_law_1698 dL_law_1703 dL_law_1705 dL_law_1708 dL_law_1709 dL_law_1710 dL_law_1711 dL_law_1713 dL_law_1714 dL_law_1715 dL_law_1720 (by decide) hl2 (fun q => by rw [s1 q]; exact sX_st) (by omega) (by omega) (aa_widen (by omega) (by omega) (nx _ _ _ _ ⟨hl2, hr1⟩))
theorem k_cellColour (h : LI I S c L P) (hk : k ≤ 600000) (hn : n ≤ 7000000) (hx : vp_in (i + 1) N ∧ vp_in (i + 2) N ∧ vp_in (i + 3) N ∧ vp_in (i + 4) N ∧ vp_in (i + 5) N) (nx : ∀ J S2 L2 P2, LI J S2 c L2 P2 → AA Ω m_L_law (LF Ω b N xs) (k + 10) (n + 60) 3664 (lvL b c i) [] J S2) : AA Ω m_L_law (LF Ω b N xs) k n 1723 (lvL b c i) [] I S := by
  obtain ⟨hl0, hr⟩ := id h
  have hL := hl0.LL
  have hLP := hl0.LP
  obtain ⟨o1, I1, v, J1, e1, e2, hR, hr1⟩ := Eqv_two (mo := fun A => s_X9_cellColour A (c + 128) (xs (i + 1).toNatClampNeg) (xs (i + 2).toNatClampNeg)) hr hL rfl (fun J hJ => q_cellColour (P := P) hJ (xs (i + 1).toNatClampNeg) (xs (i + 2).toNatClampNeg)) (fun r J z q hz => fr_X8_cellColour q (by omega) (by omega) (by omega)) (fun A r J z q hz => fr_X9_cellColour q (by omega))
  refine r_aload_n (pc' := 1724) dL_law_1723 rfl 4 rfl rfl ?_
  refine r_sarg (pc' := 1730) (ij := 1) 0 5 dL_law_1724 dL_law_1725 dL_law_1727 dL_law_1728 dL_law_1729 rfl rfl rfl hx.1 rfl ?_
  refine r_sarg (pc' := 1736) (ij := 2) 0 5 dL_law_1730 dL_law_1731 dL_law_1733 dL_law_1734 dL_law_1735 rfl rfl rfl hx.2.1 rfl ?_
  refine r_aload_n (pc' := 1737) dL_law_1736 rfl 2 rfl rfl ?_
  refine r_callSH (pc' := 1740) (k' := k + 4) (n' := n + 24) (As := [.ref c, .int (xs (i + 1).toNatClampNeg), .int (xs (i + 2).toNatClampNeg), .ref (c + 139)]) (rest := []) dL_law_1737 mb_L_cellColour ms_L_cellColour lw_L_301 rfl rfl (roomL (by omega) (by omega) rfl) rfl rfl (Nat.le_of_ble_eq_true rfl) rfl (w_cellColour hl0.1 hl0.2.2.1 e1 hR (fun S2 s1 s2 => cpI ?_))
  have hl2 := LI0_X hl0 s2
  refine r_istore (pc' := 1742) (lv' := (6, .int (J1 (c + 128) 0)) :: lvL b c i) dL_law_1740 (by decide) rfl rfl ?_
  refine r_aload_n (pc' := 1743) dL_law_1742 rfl 4 rfl rfl ?_
  refine r_sarg (pc' := 1749) (ij := 1) 1 6 dL_law_1743 dL_law_1744 dL_law_1746 dL_law_1747 dL_law_1748 rfl rfl rfl hx.1 rfl ?_
  refine r_sarg (pc' := 1755) (ij := 2) 1 6 dL_law_1749 dL_law_1750 dL_law_1752 dL_law_1753 dL_law_1754 rfl rfl rfl hx.2.1 rfl ?_
  refine r_callV2 (pc' := 1758) (k' := k + 4) (n' := n + 24) dL_law_1755 mb_X9_cellColour mi_X9_cellColour hl2.2.1.o (by decide) rfl lk_L_303 (roomL (by omega) (by omega) rfl) rfl rfl (Nat.le_of_ble_eq_true rfl) rfl (c_X9_cellColour hl2.2.1 e2 (cpI ?_))
  exact tail_I dL_law_1758 dL_law_1760 dL_law_1761 dL_law_1764 dL_law_1766 dL_law_1771 dL_law_1773 dL_law_1776 dL_law_1777 dL_law_1778 dL_law_1779 dL_law_1781 dL_law_1782 dL_law_1783 dL_law_1788 (by decide) hl2 (fun q => by rw [s1 q]; exact sX_st) (by omega) (by omega) (aa_widen (by omega) (by omega) (nx _ _ _ _ ⟨hl2, hr1⟩))
theorem k_showsWarp (h : LI I S c L P) (hk : k ≤ 600000) (hn : n ≤ 7000000) (hx : vp_in (i + 1) N ∧ vp_in (i + 2) N ∧ vp_in (i + 3) N ∧ vp_in (i + 4) N ∧ vp_in (i + 5) N) (nx : ∀ J S2 L2 P2, LI J S2 c L2 P2 → AA Ω m_L_law (LF Ω b N xs) (k + 10) (n + 60) 3664 (lvL b c i) [] J S2) : AA Ω m_L_law (LF Ω b N xs) k n 1791 (lvL b c i) [] I S := by
  obtain ⟨hl0, hr⟩ := id h
  have hL := hl0.LL
  have hLP := hl0.LP
  obtain ⟨o1, I1, v, J1, e1, e2, hR, hr1⟩ := Eqv_two (mo := fun A => s_X9_showsWarp A (c + 128) (xs (i + 1).toNatClampNeg) (xs (i + 2).toNatClampNeg)) hr hL rfl (fun J hJ => q_showsWarp (P := P) hJ (xs (i + 1).toNatClampNeg) (xs (i + 2).toNatClampNeg)) (fun r J z q hz => fr_X8_showsWarp q (by omega) (by omega) (by omega)) (fun A r J z q hz => fr_X9_showsWarp q (by omega))
  refine r_aload_n (pc' := 1792) dL_law_1791 rfl 4 rfl rfl ?_
  refine r_sarg (pc' := 1798) (ij := 1) 0 5 dL_law_1792 dL_law_1793 dL_law_1795 dL_law_1796 dL_law_1797 rfl rfl rfl hx.1 rfl ?_
  refine r_sarg (pc' := 1804) (ij := 2) 0 5 dL_law_1798 dL_law_1799 dL_law_1801 dL_law_1802 dL_law_1803 rfl rfl rfl hx.2.1 rfl ?_
  refine r_aload_n (pc' := 1805) dL_law_1804 rfl 2 rfl rfl ?_
  refine r_callSH (pc' := 1808) (k' := k + 4) (n' := n + 24) (As := [.ref c, .int (xs (i + 1).toNatClampNeg), .int (xs (i + 2).toNatClampNeg), .ref (c + 139)]) (rest := []) dL_law_1805 mb_L_showsWarp ms_L_showsWarp lw_L_304 rfl rfl (roomL (by omega) (by omega) rfl) rfl rfl (Nat.le_of_ble_eq_true rfl) rfl (w_showsWarp hl0.1 hl0.2.2.1 e1 hR (fun S2 s1 s2 => cpI ?_))
  have hl2 := LI0_X hl0 s2
  refine r_istore (pc' := 1810) (lv' := (6, .int (J1 (c + 128) 0)) :: lvL b c i) dL_law_1808 (by decide) rfl rfl ?_
  refine r_aload_n (pc' := 1811) dL_law_1810 rfl 4 rfl rfl ?_
  refine r_sarg (pc' := 1817) (ij := 1) 1 6 dL_law_1811 dL_law_1812 dL_law_1814 dL_law_1815 dL_law_1816 rfl rfl rfl hx.1 rfl ?_
  refine r_sarg (pc' := 1823) (ij := 2) 1 6 dL_law_1817 dL_law_1818 dL_law_1820 dL_law_1821 dL_law_1822 rfl rfl rfl hx.2.1 rfl ?_
  refine r_callV2 (pc' := 1826) (k' := k + 4) (n' := n + 24) dL_law_1823 mb_X9_showsWarp mi_X9_showsWarp hl2.2.1.o (by decide) rfl lk_L_306 (roomL (by omega) (by omega) rfl) rfl rfl (Nat.le_of_ble_eq_true rfl) rfl (c_X9_showsWarp hl2.2.1 e2 (cpI ?_))
  exact tail_Z dL_law_1826 dL_law_1828 dL_law_1829 dL_law_1832 dL_law_1834 dL_law_1839 dL_law_1841 dL_law_1844 dL_law_1845 dL_law_1846 dL_law_1847 dL_law_1849 dL_law_1852 dL_law_1853 dL_law_1856 dL_law_1857 dL_law_1858 dL_law_1863 (by decide) hl2 (fun q => by rw [s1 q]; exact sX_st) (by omega) (by omega) (aa_widen (by omega) (by omega) (nx _ _ _ _ ⟨hl2, hr1⟩))
theorem k_longestWarpFloat (h : LI I S c L P) (hk : k ≤ 600000) (hn : n ≤ 7000000) (hx : vp_in (i + 1) N ∧ vp_in (i + 2) N ∧ vp_in (i + 3) N ∧ vp_in (i + 4) N ∧ vp_in (i + 5) N) (nx : ∀ J S2 L2 P2, LI J S2 c L2 P2 → AA Ω m_L_law (LF Ω b N xs) (k + 10) (n + 60) 3664 (lvL b c i) [] J S2) : AA Ω m_L_law (LF Ω b N xs) k n 1866 (lvL b c i) [] I S := by
  obtain ⟨hl0, hr⟩ := id h
  have hL := hl0.LL
  have hLP := hl0.LP
  obtain ⟨o1, I1, v, J1, e1, e2, hR, hr1⟩ := Eqv_two (mo := fun A => s_X9_longestWarpFloat A (c + 128) (xs (i + 1).toNatClampNeg)) hr hL rfl (fun J hJ => q_longestWarpFloat (P := P) hJ (xs (i + 1).toNatClampNeg)) (fun r J z q hz => fr_X8_longestWarpFloat q (by omega) (by omega) (by omega)) (fun A r J z q hz => fr_X9_longestWarpFloat q (by omega))
  refine r_aload_n (pc' := 1867) dL_law_1866 rfl 4 rfl rfl ?_
  refine r_sarg (pc' := 1873) (ij := 1) 0 5 dL_law_1867 dL_law_1868 dL_law_1870 dL_law_1871 dL_law_1872 rfl rfl rfl hx.1 rfl ?_
  refine r_aload_n (pc' := 1874) dL_law_1873 rfl 2 rfl rfl ?_
  refine r_callSH (pc' := 1877) (k' := k + 2) (n' := n + 12) (As := [.ref c, .int (xs (i + 1).toNatClampNeg), .ref (c + 139)]) (rest := []) dL_law_1874 mb_L_longestWarpFloat ms_L_longestWarpFloat lw_L_307 rfl rfl (roomL (by omega) (by omega) rfl) rfl rfl (Nat.le_of_ble_eq_true rfl) rfl (w_longestWarpFloat hl0.1 hl0.2.2.1 e1 hR (fun S2 s1 s2 => cpI ?_))
  have hl2 := LI0_X hl0 s2
  refine r_istore (pc' := 1879) (lv' := (6, .int (J1 (c + 128) 0)) :: lvL b c i) dL_law_1877 (by decide) rfl rfl ?_
  refine r_aload_n (pc' := 1880) dL_law_1879 rfl 4 rfl rfl ?_
  refine r_sarg (pc' := 1886) (ij := 1) 1 6 dL_law_1880 dL_law_1881 dL_law_1883 dL_law_1884 dL_law_1885 rfl rfl rfl hx.1 rfl ?_
  refine r_callV1 (pc' := 1889) (k' := k + 2) (n' := n + 12) dL_law_1886 mb_X9_longestWarpFloat mi_X9_longestWarpFloat hl2.2.1.o (by decide) rfl lk_L_309 (roomL (by omega) (by omega) rfl) rfl rfl (Nat.le_of_ble_eq_true rfl) rfl (c_X9_longestWarpFloat hl2.2.1 e2 (cpI ?_))
  exact tail_I dL_law_1889 dL_law_1891 dL_law_1892 dL_law_1895 dL_law_1897 dL_law_1902 dL_law_1904 dL_law_1907 dL_law_1908 dL_law_1909 dL_law_1910 dL_law_1912 dL_law_1913 dL_law_1914 dL_law_1919 (by decide) hl2 (fun q => by rw [s1 q]; exact sX_st) (by omega) (by omega) (aa_widen (by omega) (by omega) (nx _ _ _ _ ⟨hl2, hr1⟩))
theorem k_longestWeftFloat (h : LI I S c L P) (hk : k ≤ 600000) (hn : n ≤ 7000000) (hx : vp_in (i + 1) N ∧ vp_in (i + 2) N ∧ vp_in (i + 3) N ∧ vp_in (i + 4) N ∧ vp_in (i + 5) N) (nx : ∀ J S2 L2 P2, LI J S2 c L2 P2 → AA Ω m_L_law (LF Ω b N xs) (k + 10) (n + 60) 3664 (lvL b c i) [] J S2) : AA Ω m_L_law (LF Ω b N xs) k n 1922 (lvL b c i) [] I S := by
  obtain ⟨hl0, hr⟩ := id h
  have hL := hl0.LL
  have hLP := hl0.LP
  obtain ⟨o1, I1, v, J1, e1, e2, hR, hr1⟩ := Eqv_two (mo := fun A => s_X9_longestWeftFloat A (c + 128) (xs (i + 1).toNatClampNeg)) hr hL rfl (fun J hJ => q_longestWeftFloat (P := P) hJ (xs (i + 1).toNatClampNeg)) (fun r J z q hz => fr_X8_longestWeftFloat q (by omega) (by omega) (by omega)) (fun A r J z q hz => fr_X9_longestWeftFloat q (by omega))
  refine r_aload_n (pc' := 1923) dL_law_1922 rfl 4 rfl rfl ?_
  refine r_sarg (pc' := 1929) (ij := 1) 0 5 dL_law_1923 dL_law_1924 dL_law_1926 dL_law_1927 dL_law_1928 rfl rfl rfl hx.1 rfl ?_
  refine r_aload_n (pc' := 1930) dL_law_1929 rfl 2 rfl rfl ?_
  refine r_callSH (pc' := 1933) (k' := k + 2) (n' := n + 12) (As := [.ref c, .int (xs (i + 1).toNatClampNeg), .ref (c + 139)]) (rest := []) dL_law_1930 mb_L_longestWeftFloat ms_L_longestWeftFloat lw_L_310 rfl rfl (roomL (by omega) (by omega) rfl) rfl rfl (Nat.le_of_ble_eq_true rfl) rfl (w_longestWeftFloat hl0.1 hl0.2.2.1 e1 hR (fun S2 s1 s2 => cpI ?_))
  have hl2 := LI0_X hl0 s2
  refine r_istore (pc' := 1935) (lv' := (6, .int (J1 (c + 128) 0)) :: lvL b c i) dL_law_1933 (by decide) rfl rfl ?_
  refine r_aload_n (pc' := 1936) dL_law_1935 rfl 4 rfl rfl ?_
  refine r_sarg (pc' := 1942) (ij := 1) 1 6 dL_law_1936 dL_law_1937 dL_law_1939 dL_law_1940 dL_law_1941 rfl rfl rfl hx.1 rfl ?_
  refine r_callV1 (pc' := 1945) (k' := k + 2) (n' := n + 12) dL_law_1942 mb_X9_longestWeftFloat mi_X9_longestWeftFloat hl2.2.1.o (by decide) rfl lk_L_312 (roomL (by omega) (by omega) rfl) rfl rfl (Nat.le_of_ble_eq_true rfl) rfl (c_X9_longestWeftFloat hl2.2.1 e2 (cpI ?_))
  exact tail_I dL_law_1945 dL_law_1947 dL_law_1948 dL_law_1951 dL_law_1953 dL_law_1958 dL_law_1960 dL_law_1963 dL_law_1964 dL_law_1965 dL_law_1966 dL_law_1968 dL_law_1969 dL_law_1970 dL_law_1975 (by decide) hl2 (fun q => by rw [s1 q]; exact sX_st) (by omega) (by omega) (aa_widen (by omega) (by omega) (nx _ _ _ _ ⟨hl2, hr1⟩))
theorem k_cellsOfColour (h : LI I S c L P) (hk : k ≤ 600000) (hn : n ≤ 7000000) (hx : vp_in (i + 1) N ∧ vp_in (i + 2) N ∧ vp_in (i + 3) N ∧ vp_in (i + 4) N ∧ vp_in (i + 5) N) (nx : ∀ J S2 L2 P2, LI J S2 c L2 P2 → AA Ω m_L_law (LF Ω b N xs) (k + 10) (n + 60) 3664 (lvL b c i) [] J S2) : AA Ω m_L_law (LF Ω b N xs) k n 1978 (lvL b c i) [] I S := by
  obtain ⟨hl0, hr⟩ := id h
  have hL := hl0.LL
  have hLP := hl0.LP
  obtain ⟨o1, I1, v, J1, e1, e2, hR, hr1⟩ := Eqv_two (mo := fun A => s_X9_cellsOfColour A (c + 128) (xs (i + 1).toNatClampNeg)) hr hL rfl (fun J hJ => q_cellsOfColour (P := P) hJ (xs (i + 1).toNatClampNeg)) (fun r J z q hz => fr_X8_cellsOfColour q (by omega) (by omega) (by omega)) (fun A r J z q hz => fr_X9_cellsOfColour q (by omega))
  refine r_aload_n (pc' := 1979) dL_law_1978 rfl 4 rfl rfl ?_
  refine r_sarg (pc' := 1985) (ij := 1) 0 5 dL_law_1979 dL_law_1980 dL_law_1982 dL_law_1983 dL_law_1984 rfl rfl rfl hx.1 rfl ?_
  refine r_aload_n (pc' := 1986) dL_law_1985 rfl 2 rfl rfl ?_
  refine r_callSH (pc' := 1989) (k' := k + 2) (n' := n + 12) (As := [.ref c, .int (xs (i + 1).toNatClampNeg), .ref (c + 139)]) (rest := []) dL_law_1986 mb_L_cellsOfColour ms_L_cellsOfColour lw_L_313 rfl rfl (roomL (by omega) (by omega) rfl) rfl rfl (Nat.le_of_ble_eq_true rfl) rfl (w_cellsOfColour hl0.1 hl0.2.2.1 e1 hR (fun S2 s1 s2 => cpI ?_))
  have hl2 := LI0_X hl0 s2
  refine r_istore (pc' := 1991) (lv' := (6, .int (J1 (c + 128) 0)) :: lvL b c i) dL_law_1989 (by decide) rfl rfl ?_
  refine r_aload_n (pc' := 1992) dL_law_1991 rfl 4 rfl rfl ?_
  refine r_sarg (pc' := 1998) (ij := 1) 1 6 dL_law_1992 dL_law_1993 dL_law_1995 dL_law_1996 dL_law_1997 rfl rfl rfl hx.1 rfl ?_
  refine r_callV1 (pc' := 2001) (k' := k + 2) (n' := n + 12) dL_law_1998 mb_X9_cellsOfColour mi_X9_cellsOfColour hl2.2.1.o (by decide) rfl lk_L_315 (roomL (by omega) (by omega) rfl) rfl rfl (Nat.le_of_ble_eq_true rfl) rfl (c_X9_cellsOfColour hl2.2.1 e2 (cpI ?_))
  exact tail_I dL_law_2001 dL_law_2003 dL_law_2004 dL_law_2007 dL_law_2009 dL_law_2014 dL_law_2016 dL_law_2019 dL_law_2020 dL_law_2021 dL_law_2022 dL_law_2024 dL_law_2025 dL_law_2026 dL_law_2031 (by decide) hl2 (fun q => by rw [s1 q]; exact sX_st) (by omega) (by omega) (aa_widen (by omega) (by omega) (nx _ _ _ _ ⟨hl2, hr1⟩))
theorem k_rowPeriod (h : LI I S c L P) (hk : k ≤ 600000) (hn : n ≤ 7000000) (hx : vp_in (i + 1) N ∧ vp_in (i + 2) N ∧ vp_in (i + 3) N ∧ vp_in (i + 4) N ∧ vp_in (i + 5) N) (nx : ∀ J S2 L2 P2, LI J S2 c L2 P2 → AA Ω m_L_law (LF Ω b N xs) (k + 10) (n + 60) 3664 (lvL b c i) [] J S2) : AA Ω m_L_law (LF Ω b N xs) k n 2034 (lvL b c i) [] I S := by
  obtain ⟨hl0, hr⟩ := id h
  have hL := hl0.LL
  have hLP := hl0.LP
  obtain ⟨o1, I1, v, J1, e1, e2, hR, hr1⟩ := Eqv_two (mo := fun A => s_X9_rowPeriod A (c + 128)) hr hL rfl (fun J hJ => q_rowPeriod (P := P) hJ) (fun r J z q hz => fr_X8_rowPeriod q (by omega) (by omega) (by omega)) (fun A r J z q hz => fr_X9_rowPeriod q (by omega))
  refine r_aload_n (pc' := 2035) dL_law_2034 rfl 4 rfl rfl ?_
  refine r_aload_n (pc' := 2036) dL_law_2035 rfl 2 rfl rfl ?_
  refine r_callSH (pc' := 2039) (k' := k + 1) (n' := n + 6) (As := [.ref c, .ref (c + 139)]) (rest := []) dL_law_2036 mb_L_rowPeriod ms_L_rowPeriod lw_L_316 rfl rfl (roomL (by omega) (by omega) rfl) rfl rfl (Nat.le_of_ble_eq_true rfl) rfl (w_rowPeriod hl0.1 hl0.2.2.1 e1 hR (fun S2 s1 s2 => cpI ?_))
  have hl2 := LI0_X hl0 s2
  refine r_istore (pc' := 2041) (lv' := (6, .int (J1 (c + 128) 0)) :: lvL b c i) dL_law_2039 (by decide) rfl rfl ?_
  refine r_aload_n (pc' := 2042) dL_law_2041 rfl 4 rfl rfl ?_
  refine r_callV0 (pc' := 2045) (k' := k + 1) (n' := n + 6) dL_law_2042 mb_X9_rowPeriod mi_X9_rowPeriod hl2.2.1.o (by decide) rfl lk_L_318 (roomL (by omega) (by omega) rfl) rfl rfl (Nat.le_of_ble_eq_true rfl) rfl (c_X9_rowPeriod hl2.2.1 e2 (cpI ?_))
  exact tail_I dL_law_2045 dL_law_2047 dL_law_2048 dL_law_2051 dL_law_2053 dL_law_2058 dL_law_2060 dL_law_2063 dL_law_2064 dL_law_2065 dL_law_2066 dL_law_2068 dL_law_2069 dL_law_2070 dL_law_2075 (by decide) hl2 (fun q => by rw [s1 q]; exact sX_st) (by omega) (by omega) (aa_widen (by omega) (by omega) (nx _ _ _ _ ⟨hl2, hr1⟩))
theorem k_warpShare (h : LI I S c L P) (hk : k ≤ 600000) (hn : n ≤ 7000000) (hx : vp_in (i + 1) N ∧ vp_in (i + 2) N ∧ vp_in (i + 3) N ∧ vp_in (i + 4) N ∧ vp_in (i + 5) N) (nx : ∀ J S2 L2 P2, LI J S2 c L2 P2 → AA Ω m_L_law (LF Ω b N xs) (k + 10) (n + 60) 3664 (lvL b c i) [] J S2) : AA Ω m_L_law (LF Ω b N xs) k n 2078 (lvL b c i) [] I S := by
  obtain ⟨hl0, hr⟩ := id h
  have hL := hl0.LL
  have hLP := hl0.LP
  obtain ⟨o1, I1, v, J1, e1, e2, hR, hr1⟩ := Eqv_two (mo := fun A => s_X9_warpShare A (c + 128)) hr hL rfl (fun J hJ => q_warpShare (P := P) hJ) (fun r J z q hz => fr_X8_warpShare q (by omega) (by omega) (by omega)) (fun A r J z q hz => fr_X9_warpShare q (by omega))
  refine r_aload_n (pc' := 2079) dL_law_2078 rfl 4 rfl rfl ?_
  refine r_aload (pc' := 2081) dL_law_2079 1 rfl rfl ?_
  refine r_callSH (pc' := 2084) (k' := k + 1) (n' := n + 6) (As := [.ref c, .ref (c + 140)]) (rest := []) dL_law_2081 mb_L_warpShare ms_L_warpShare lw_L_319 rfl rfl (roomL (by omega) (by omega) rfl) rfl rfl (Nat.le_of_ble_eq_true rfl) rfl (w_warpShare hl0.1 hl0.2.2.2 e1 hR (q_share2 hr) (fun S2 s1 s2 => cpI ?_))
  have hl2 := LI0_Y hl0 s2
  refine r_istore (pc' := 2086) (lv' := (6, .int (J1 (c + 128) 0)) :: lvL b c i) dL_law_2084 (by decide) rfl rfl ?_
  refine r_aload_n (pc' := 2087) dL_law_2086 rfl 4 rfl rfl ?_
  refine r_callV0 (pc' := 2090) (k' := k + 1) (n' := n + 6) dL_law_2087 mb_X9_warpShare mi_X9_warpShare hl2.2.1.o (by decide) rfl lk_L_322 (roomL (by omega) (by omega) rfl) rfl rfl (Nat.le_of_ble_eq_true rfl) rfl (c_X9_warpShare hl2.2.1 e2 (cpR ?_))
  have hE : AA Ω m_L_law (LF Ω b N xs) (k + 1) (n + 6) 2141 ((7, .float v) :: (6, .int (J1 (c + 128) 0)) :: lvL b c i) [] J1 S2 := r_goto (tgt := 3664) dL_law_2141 (by decide) (aa_locs (ks := [2, 3, 4, 5, 6, 7]) rfl (aa_widen (by omega) (by omega) (nx _ _ _ _ ⟨hl2, hr1⟩)))
  refine r_fstore (pc' := 2092) (lv' := (7, .float v) :: (6, .int (J1 (c + 128) 0)) :: lvL b c i) dL_law_2090 (by decide) rfl rfl ?_
  refine r_aload_n (pc' := 2093) dL_law_2092 rfl 5 rfl rfl ?_
  refine r_callV0 (pc' := 2096) (k' := k + 1) (n' := n + 6) dL_law_2093 mb_X9_thrown mi_X9_thrown hl2.2.1.o (by decide) rfl lk_L_215 (roomL (by omega) (by omega) rfl) rfl rfl (Nat.le_of_ble_eq_true rfl) rfl (c_X9_thrown hl2.2.1 rfl (cpI ?_))
  refine r_iload (pc' := 2098) dL_law_2096 1 rfl rfl ?_
  refine r_icmp_eq (tgt := 2103) (pc' := 2101) dL_law_2098 (by decide) rfl (fun _ => ?_) (fun q => absurd rfl q)
  refine r_iload (pc' := 2105) dL_law_2103 1 rfl rfl ?_
  refine r_if_ne (tgt := 2141) (pc' := 2108) dL_law_2105 (by decide) rfl (fun _ => hE) (fun q => ?_)
  refine r_aload (pc' := 2110) dL_law_2108 3 rfl rfl ?_
  refine r_iconst (v := 0) (pc' := 2111) dL_law_2110 rfl rfl ?_
  refine r_daload (pc' := 2112) dL_law_2111 hl2.2.2.2 (by unfold vp_in; decide +kernel) rfl ?_
  have ho1 : o1 = .inl v := by
    cases o1 with
    | inl x => rw [hR.2]
    | inr E =>
      obtain ⟨ii, hi, et⟩ := hR
      rw [et] at q
      match ii, hi with
      | 0, _ => exact absurd q (by decide)
      | ii + 1, hi => simp at hi
  subst ho1
  have hv := q_share2 hr _ _ e1
  have eY : sY S2 (c + 140) (Int32.toNatClampNeg 0) = FP.f2d v := by rw [s1 q]; exact sY_st
  rw [eY]
  refine r_fload (pc' := 2114) dL_law_2112 0 rfl rfl ?_
  refine r_f2d (pc' := 2115) dL_law_2114 hv rfl ?_
  refine r_dcmp0 (pc' := 2116) dL_law_2115 (f2d_nat hv) rfl ?_
  exact r_if_eq (tgt := 2141) (pc' := 2119) dL_law_2116 (by decide) rfl (fun _ => hE) (fun q => absurd rfl q)
theorem k_averageLifts (h : LI I S c L P) (hk : k ≤ 600000) (hn : n ≤ 7000000) (hx : vp_in (i + 1) N ∧ vp_in (i + 2) N ∧ vp_in (i + 3) N ∧ vp_in (i + 4) N ∧ vp_in (i + 5) N) (nx : ∀ J S2 L2 P2, LI J S2 c L2 P2 → AA Ω m_L_law (LF Ω b N xs) (k + 10) (n + 60) 3664 (lvL b c i) [] J S2) : AA Ω m_L_law (LF Ω b N xs) k n 2144 (lvL b c i) [] I S := by
  obtain ⟨hl0, hr⟩ := id h
  have hL := hl0.LL
  have hLP := hl0.LP
  obtain ⟨o1, I1, v, J1, e1, e2, hR, hr1⟩ := Eqv_two (mo := fun A => s_X9_averageLifts A (c + 128)) hr hL rfl (fun J hJ => q_averageLifts (P := P) hJ) (fun r J z q hz => fr_X8_averageLifts q (by omega) (by omega) (by omega)) (fun A r J z q hz => fr_X9_averageLifts q (by omega))
  refine r_aload_n (pc' := 2145) dL_law_2144 rfl 4 rfl rfl ?_
  refine r_aload (pc' := 2147) dL_law_2145 1 rfl rfl ?_
  refine r_callSH (pc' := 2150) (k' := k + 1) (n' := n + 6) (As := [.ref c, .ref (c + 140)]) (rest := []) dL_law_2147 mb_L_averageLifts ms_L_averageLifts lw_L_323 rfl rfl (roomL (by omega) (by omega) rfl) rfl rfl (Nat.le_of_ble_eq_true rfl) rfl (w_averageLifts hl0.1 hl0.2.2.2 e1 hR (fun S2 s1 s2 => cpI ?_))
  have hl2 := LI0_Y hl0 s2
  refine r_istore (pc' := 2152) (lv' := (6, .int (J1 (c + 128) 0)) :: lvL b c i) dL_law_2150 (by decide) rfl rfl ?_
  refine r_aload_n (pc' := 2153) dL_law_2152 rfl 4 rfl rfl ?_
  refine r_callV0 (pc' := 2156) (k' := k + 1) (n' := n + 6) dL_law_2153 mb_X9_averageLifts mi_X9_averageLifts hl2.2.1.o (by decide) rfl lk_L_325 (roomL (by omega) (by omega) rfl) rfl rfl (Nat.le_of_ble_eq_true rfl) rfl (c_X9_averageLifts hl2.2.1 e2 (cpR ?_))
  have hE : AA Ω m_L_law (LF Ω b N xs) (k + 1) (n + 6) 2206 ((7, .double v) :: (6, .int (J1 (c + 128) 0)) :: lvL b c i) [] J1 S2 := r_goto (tgt := 3664) dL_law_2206 (by decide) (aa_locs (ks := [2, 3, 4, 5, 6, 7]) rfl (aa_widen (by omega) (by omega) (nx _ _ _ _ ⟨hl2, hr1⟩)))
  refine r_dstore (pc' := 2158) (lv' := (7, .double v) :: (6, .int (J1 (c + 128) 0)) :: lvL b c i) dL_law_2156 (by decide) rfl rfl ?_
  refine r_aload_n (pc' := 2159) dL_law_2158 rfl 5 rfl rfl ?_
  refine r_callV0 (pc' := 2162) (k' := k + 1) (n' := n + 6) dL_law_2159 mb_X9_thrown mi_X9_thrown hl2.2.1.o (by decide) rfl lk_L_215 (roomL (by omega) (by omega) rfl) rfl rfl (Nat.le_of_ble_eq_true rfl) rfl (c_X9_thrown hl2.2.1 rfl (cpI ?_))
  refine r_iload (pc' := 2164) dL_law_2162 1 rfl rfl ?_
  refine r_icmp_eq (tgt := 2169) (pc' := 2167) dL_law_2164 (by decide) rfl (fun _ => ?_) (fun q => absurd rfl q)
  refine r_iload (pc' := 2171) dL_law_2169 1 rfl rfl ?_
  refine r_if_ne (tgt := 2206) (pc' := 2174) dL_law_2171 (by decide) rfl (fun _ => hE) (fun q => ?_)
  refine r_aload (pc' := 2176) dL_law_2174 3 rfl rfl ?_
  refine r_iconst (v := 0) (pc' := 2177) dL_law_2176 rfl rfl ?_
  refine r_daload (pc' := 2178) dL_law_2177 hl2.2.2.2 (by unfold vp_in; decide +kernel) rfl ?_
  have ho1 : o1 = .inl v := by
    cases o1 with
    | inl x => rw [hR.2]
    | inr E =>
      obtain ⟨ii, hi, et⟩ := hR
      rw [et] at q
      match ii, hi with
      | 0, _ => exact absurd q (by decide)
      | ii + 1, hi => simp at hi
  subst ho1
  have hv := q_avg2 hr _ _ e1
  have eY : sY S2 (c + 140) (Int32.toNatClampNeg 0) = v := by rw [s1 q]; exact sY_st
  rw [eY]
  refine r_dload (pc' := 2180) dL_law_2178 0 rfl rfl ?_
  refine r_dcmp0 (pc' := 2181) dL_law_2180 hv rfl ?_
  exact r_if_eq (tgt := 2206) (pc' := 2184) dL_law_2181 (by decide) rfl (fun _ => hE) (fun q => absurd rfl q)
theorem k_isWrong (h : LI I S c L P) (hk : k ≤ 600000) (hn : n ≤ 7000000) (hx : vp_in (i + 1) N ∧ vp_in (i + 2) N ∧ vp_in (i + 3) N ∧ vp_in (i + 4) N ∧ vp_in (i + 5) N) (nx : ∀ J S2 L2 P2, LI J S2 c L2 P2 → AA Ω m_L_law (LF Ω b N xs) (k + 10) (n + 60) 3664 (lvL b c i) [] J S2) : AA Ω m_L_law (LF Ω b N xs) k n 2209 (lvL b c i) [] I S := by
  obtain ⟨hl0, hr⟩ := id h
  have hL := hl0.LL
  have hLP := hl0.LP
  obtain ⟨o1, I1, v, J1, e1, e2, hR, hr1⟩ := Eqv_two (mo := fun A => s_X9_isWrong A (c + 128) (xs (i + 1).toNatClampNeg)) hr hL rfl (fun J hJ => q_isWrong (P := P) hJ (xs (i + 1).toNatClampNeg)) (fun r J z q hz => fr_X8_isWrong q (by omega) (by omega) (by omega)) (fun A r J z q hz => fr_X9_isWrong q (by omega))
  refine r_aload_n (pc' := 2210) dL_law_2209 rfl 4 rfl rfl ?_
  refine r_sarg (pc' := 2216) (ij := 1) 0 5 dL_law_2210 dL_law_2211 dL_law_2213 dL_law_2214 dL_law_2215 rfl rfl rfl hx.1 rfl ?_
  refine r_aload_n (pc' := 2217) dL_law_2216 rfl 2 rfl rfl ?_
  refine r_callSH (pc' := 2220) (k' := k + 2) (n' := n + 12) (As := [.ref c, .int (xs (i + 1).toNatClampNeg), .ref (c + 139)]) (rest := []) dL_law_2217 mb_L_isWrong ms_L_isWrong lw_L_326 rfl rfl (roomL (by omega) (by omega) rfl) rfl rfl (Nat.le_of_ble_eq_true rfl) rfl (w_isWrong hl0.1 hl0.2.2.1 e1 hR (fun S2 s1 s2 => cpI ?_))
  have hl2 := LI0_X hl0 s2
  refine r_istore (pc' := 2222) (lv' := (6, .int (J1 (c + 128) 0)) :: lvL b c i) dL_law_2220 (by decide) rfl rfl ?_
  refine r_aload_n (pc' := 2223) dL_law_2222 rfl 4 rfl rfl ?_
  refine r_sarg (pc' := 2229) (ij := 1) 1 6 dL_law_2223 dL_law_2224 dL_law_2226 dL_law_2227 dL_law_2228 rfl rfl rfl hx.1 rfl ?_
  refine r_callV1 (pc' := 2232) (k' := k + 2) (n' := n + 12) dL_law_2229 mb_X9_isWrong mi_X9_isWrong hl2.2.1.o (by decide) rfl lk_L_328 (roomL (by omega) (by omega) rfl) rfl rfl (Nat.le_of_ble_eq_true rfl) rfl (c_X9_isWrong hl2.2.1 e2 (cpI ?_))
  exact tail_Z dL_law_2232 dL_law_2234 dL_law_2235 dL_law_2238 dL_law_2240 dL_law_2245 dL_law_2247 dL_law_2250 dL_law_2251 dL_law_2252 dL_law_2253 dL_law_2255 dL_law_2258 dL_law_2259 dL_law_2262 dL_law_2263 dL_law_2264 dL_law_2269 (by decide) hl2 (fun q => by rw [s1 q]; exact sX_st) (by omega) (by omega) (aa_widen (by omega) (by omega) (nx _ _ _ _ ⟨hl2, hr1⟩))
theorem k_wrongCount (h : LI I S c L P) (hk : k ≤ 600000) (hn : n ≤ 7000000) (hx : vp_in (i + 1) N ∧ vp_in (i + 2) N ∧ vp_in (i + 3) N ∧ vp_in (i + 4) N ∧ vp_in (i + 5) N) (nx : ∀ J S2 L2 P2, LI J S2 c L2 P2 → AA Ω m_L_law (LF Ω b N xs) (k + 10) (n + 60) 3664 (lvL b c i) [] J S2) : AA Ω m_L_law (LF Ω b N xs) k n 2272 (lvL b c i) [] I S := by
  obtain ⟨hl0, hr⟩ := id h
  have hL := hl0.LL
  have hLP := hl0.LP
  obtain ⟨o1, I1, v, J1, e1, e2, hR, hr1⟩ := Eqv_two (mo := fun A => s_X9_wrongCount A (c + 128)) hr hL rfl (fun J hJ => q_wrongCount (P := P) hJ) (fun r J z q hz => fr_X8_wrongCount q (by omega) (by omega) (by omega)) (fun A r J z q hz => fr_X9_wrongCount q (by omega))
  refine r_aload_n (pc' := 2273) dL_law_2272 rfl 4 rfl rfl ?_
  refine r_aload_n (pc' := 2274) dL_law_2273 rfl 2 rfl rfl ?_
  refine r_callSH (pc' := 2277) (k' := k + 1) (n' := n + 6) (As := [.ref c, .ref (c + 139)]) (rest := []) dL_law_2274 mb_L_wrongCount ms_L_wrongCount lw_L_329 rfl rfl (roomL (by omega) (by omega) rfl) rfl rfl (Nat.le_of_ble_eq_true rfl) rfl (w_wrongCount hl0.1 hl0.2.2.1 e1 hR (fun S2 s1 s2 => cpI ?_))
  have hl2 := LI0_X hl0 s2
  refine r_istore (pc' := 2279) (lv' := (6, .int (J1 (c + 128) 0)) :: lvL b c i) dL_law_2277 (by decide) rfl rfl ?_
  refine r_aload_n (pc' := 2280) dL_law_2279 rfl 4 rfl rfl ?_
  refine r_callV0 (pc' := 2283) (k' := k + 1) (n' := n + 6) dL_law_2280 mb_X9_wrongCount mi_X9_wrongCount hl2.2.1.o (by decide) rfl lk_L_331 (roomL (by omega) (by omega) rfl) rfl rfl (Nat.le_of_ble_eq_true rfl) rfl (c_X9_wrongCount hl2.2.1 e2 (cpI ?_))
  exact tail_I dL_law_2283 dL_law_2285 dL_law_2286 dL_law_2289 dL_law_2291 dL_law_2296 dL_law_2298 dL_law_2301 dL_law_2302 dL_law_2303 dL_law_2304 dL_law_2306 dL_law_2307 dL_law_2308 dL_law_2313 (by decide) hl2 (fun q => by rw [s1 q]; exact sX_st) (by omega) (by omega) (aa_widen (by omega) (by omega) (nx _ _ _ _ ⟨hl2, hr1⟩))
theorem k_firstWrongRow (h : LI I S c L P) (hk : k ≤ 600000) (hn : n ≤ 7000000) (hx : vp_in (i + 1) N ∧ vp_in (i + 2) N ∧ vp_in (i + 3) N ∧ vp_in (i + 4) N ∧ vp_in (i + 5) N) (nx : ∀ J S2 L2 P2, LI J S2 c L2 P2 → AA Ω m_L_law (LF Ω b N xs) (k + 10) (n + 60) 3664 (lvL b c i) [] J S2) : AA Ω m_L_law (LF Ω b N xs) k n 2316 (lvL b c i) [] I S := by
  obtain ⟨hl0, hr⟩ := id h
  have hL := hl0.LL
  have hLP := hl0.LP
  obtain ⟨o1, I1, v, J1, e1, e2, hR, hr1⟩ := Eqv_two (mo := fun A => s_X9_firstWrongRow A (c + 128)) hr hL rfl (fun J hJ => q_firstWrongRow (P := P) hJ) (fun r J z q hz => fr_X8_firstWrongRow q (by omega) (by omega) (by omega)) (fun A r J z q hz => fr_X9_firstWrongRow q (by omega))
  refine r_aload_n (pc' := 2317) dL_law_2316 rfl 4 rfl rfl ?_
  refine r_aload_n (pc' := 2318) dL_law_2317 rfl 2 rfl rfl ?_
  refine r_callSH (pc' := 2321) (k' := k + 1) (n' := n + 6) (As := [.ref c, .ref (c + 139)]) (rest := []) dL_law_2318 mb_L_firstWrongRow ms_L_firstWrongRow lw_L_332 rfl rfl (roomL (by omega) (by omega) rfl) rfl rfl (Nat.le_of_ble_eq_true rfl) rfl (w_firstWrongRow hl0.1 hl0.2.2.1 e1 hR (fun S2 s1 s2 => cpI ?_))
  have hl2 := LI0_X hl0 s2
  refine r_istore (pc' := 2323) (lv' := (6, .int (J1 (c + 128) 0)) :: lvL b c i) dL_law_2321 (by decide) rfl rfl ?_
  refine r_aload_n (pc' := 2324) dL_law_2323 rfl 4 rfl rfl ?_
  refine r_callV0 (pc' := 2327) (k' := k + 1) (n' := n + 6) dL_law_2324 mb_X9_firstWrongRow mi_X9_firstWrongRow hl2.2.1.o (by decide) rfl lk_L_334 (roomL (by omega) (by omega) rfl) rfl rfl (Nat.le_of_ble_eq_true rfl) rfl (c_X9_firstWrongRow hl2.2.1 e2 (cpI ?_))
  exact tail_I dL_law_2327 dL_law_2329 dL_law_2330 dL_law_2333 dL_law_2335 dL_law_2340 dL_law_2342 dL_law_2345 dL_law_2346 dL_law_2347 dL_law_2348 dL_law_2350 dL_law_2351 dL_law_2352 dL_law_2357 (by decide) hl2 (fun q => by rw [s1 q]; exact sX_st) (by omega) (by omega) (aa_widen (by omega) (by omega) (nx _ _ _ _ ⟨hl2, hr1⟩))
theorem k_swapFirst (h : LI I S c L P) (hk : k ≤ 600000) (hn : n ≤ 7000000) (hx : vp_in (i + 1) N ∧ vp_in (i + 2) N ∧ vp_in (i + 3) N ∧ vp_in (i + 4) N ∧ vp_in (i + 5) N) (nx : ∀ J S2 L2 P2, LI J S2 c L2 P2 → AA Ω m_L_law (LF Ω b N xs) (k + 10) (n + 60) 3664 (lvL b c i) [] J S2) : AA Ω m_L_law (LF Ω b N xs) k n 2360 (lvL b c i) [] I S := by
  obtain ⟨hl0, hr⟩ := id h
  have hL := hl0.LL
  have hLP := hl0.LP
  obtain ⟨o1, I1, v, J1, e1, e2, hR, hr1⟩ := Eqv_two (mo := fun A => s_X9_swapFirst A (c + 128)) hr hL rfl (fun J hJ => q_swapFirst (P := P) hJ) (fun r J z q hz => fr_X8_swapFirst q (by omega) (by omega) (by omega)) (fun A r J z q hz => fr_X9_swapFirst q (by omega))
  refine r_aload_n (pc' := 2361) dL_law_2360 rfl 4 rfl rfl ?_
  refine r_aload_n (pc' := 2362) dL_law_2361 rfl 2 rfl rfl ?_
  refine r_callSH (pc' := 2365) (k' := k + 1) (n' := n + 6) (As := [.ref c, .ref (c + 139)]) (rest := []) dL_law_2362 mb_L_swapFirst ms_L_swapFirst lw_L_335 rfl rfl (roomL (by omega) (by omega) rfl) rfl rfl (Nat.le_of_ble_eq_true rfl) rfl (w_swapFirst hl0.1 hl0.2.2.1 e1 hR (fun S2 s1 s2 => cpI ?_))
  have hl2 := LI0_X hl0 s2
  refine r_istore (pc' := 2367) (lv' := (6, .int (J1 (c + 128) 0)) :: lvL b c i) dL_law_2365 (by decide) rfl rfl ?_
  refine r_aload_n (pc' := 2368) dL_law_2367 rfl 4 rfl rfl ?_
  refine r_callV0 (pc' := 2371) (k' := k + 1) (n' := n + 6) dL_law_2368 mb_X9_swapFirst mi_X9_swapFirst hl2.2.1.o (by decide) rfl lk_L_337 (roomL (by omega) (by omega) rfl) rfl rfl (Nat.le_of_ble_eq_true rfl) rfl (c_X9_swapFirst hl2.2.1 e2 (cpI ?_))
  exact tail_I dL_law_2371 dL_law_2373 dL_law_2374 dL_law_2377 dL_law_2379 dL_law_2384 dL_law_2386 dL_law_2389 dL_law_2390 dL_law_2391 dL_law_2392 dL_law_2394 dL_law_2395 dL_law_2396 dL_law_2401 (by decide) hl2 (fun q => by rw [s1 q]; exact sX_st) (by omega) (by omega) (aa_widen (by omega) (by omega) (nx _ _ _ _ ⟨hl2, hr1⟩))
theorem k_swapSecond (h : LI I S c L P) (hk : k ≤ 600000) (hn : n ≤ 7000000) (hx : vp_in (i + 1) N ∧ vp_in (i + 2) N ∧ vp_in (i + 3) N ∧ vp_in (i + 4) N ∧ vp_in (i + 5) N) (nx : ∀ J S2 L2 P2, LI J S2 c L2 P2 → AA Ω m_L_law (LF Ω b N xs) (k + 10) (n + 60) 3664 (lvL b c i) [] J S2) : AA Ω m_L_law (LF Ω b N xs) k n 2404 (lvL b c i) [] I S := by
  obtain ⟨hl0, hr⟩ := id h
  have hL := hl0.LL
  have hLP := hl0.LP
  obtain ⟨o1, I1, v, J1, e1, e2, hR, hr1⟩ := Eqv_two (mo := fun A => s_X9_swapSecond A (c + 128)) hr hL rfl (fun J hJ => q_swapSecond (P := P) hJ) (fun r J z q hz => fr_X8_swapSecond q (by omega) (by omega) (by omega)) (fun A r J z q hz => fr_X9_swapSecond q (by omega))
  refine r_aload_n (pc' := 2405) dL_law_2404 rfl 4 rfl rfl ?_
  refine r_aload_n (pc' := 2406) dL_law_2405 rfl 2 rfl rfl ?_
  refine r_callSH (pc' := 2409) (k' := k + 1) (n' := n + 6) (As := [.ref c, .ref (c + 139)]) (rest := []) dL_law_2406 mb_L_swapSecond ms_L_swapSecond lw_L_338 rfl rfl (roomL (by omega) (by omega) rfl) rfl rfl (Nat.le_of_ble_eq_true rfl) rfl (w_swapSecond hl0.1 hl0.2.2.1 e1 hR (fun S2 s1 s2 => cpI ?_))
  have hl2 := LI0_X hl0 s2
  refine r_istore (pc' := 2411) (lv' := (6, .int (J1 (c + 128) 0)) :: lvL b c i) dL_law_2409 (by decide) rfl rfl ?_
  refine r_aload_n (pc' := 2412) dL_law_2411 rfl 4 rfl rfl ?_
  refine r_callV0 (pc' := 2415) (k' := k + 1) (n' := n + 6) dL_law_2412 mb_X9_swapSecond mi_X9_swapSecond hl2.2.1.o (by decide) rfl lk_L_340 (roomL (by omega) (by omega) rfl) rfl rfl (Nat.le_of_ble_eq_true rfl) rfl (c_X9_swapSecond hl2.2.1 e2 (cpI ?_))
  exact tail_I dL_law_2415 dL_law_2417 dL_law_2418 dL_law_2421 dL_law_2423 dL_law_2428 dL_law_2430 dL_law_2433 dL_law_2434 dL_law_2435 dL_law_2436 dL_law_2438 dL_law_2439 dL_law_2440 dL_law_2445 (by decide) hl2 (fun q => by rw [s1 q]; exact sX_st) (by omega) (by omega) (aa_widen (by omega) (by omega) (nx _ _ _ _ ⟨hl2, hr1⟩))
theorem k_yarn (h : LI I S c L P) (hk : k ≤ 600000) (hn : n ≤ 7000000) (hx : vp_in (i + 1) N ∧ vp_in (i + 2) N ∧ vp_in (i + 3) N ∧ vp_in (i + 4) N ∧ vp_in (i + 5) N) (nx : ∀ J S2 L2 P2, LI J S2 c L2 P2 → AA Ω m_L_law (LF Ω b N xs) (k + 10) (n + 60) 3664 (lvL b c i) [] J S2) : AA Ω m_L_law (LF Ω b N xs) k n 2448 (lvL b c i) [] I S := by
  obtain ⟨hl0, hr⟩ := id h
  have hL := hl0.LL
  have hLP := hl0.LP
  obtain ⟨o1, I1, v, J1, e1, e2, hR, hr1⟩ := Eqv_two (mo := fun A => s_X9_yarn A (c + 128) (xs (i + 1).toNatClampNeg)) hr hL rfl (fun J hJ => q_yarn (P := P) hJ (xs (i + 1).toNatClampNeg)) (fun r J z q hz => fr_X8_yarn q (by omega) (by omega) (by omega)) (fun A r J z q hz => fr_X9_yarn q (by omega))
  refine r_aload_n (pc' := 2449) dL_law_2448 rfl 4 rfl rfl ?_
  refine r_sarg (pc' := 2455) (ij := 1) 0 5 dL_law_2449 dL_law_2450 dL_law_2452 dL_law_2453 dL_law_2454 rfl rfl rfl hx.1 rfl ?_
  refine r_aload_n (pc' := 2456) dL_law_2455 rfl 2 rfl rfl ?_
  refine r_callSH (pc' := 2459) (k' := k + 2) (n' := n + 12) (As := [.ref c, .int (xs (i + 1).toNatClampNeg), .ref (c + 139)]) (rest := []) dL_law_2456 mb_L_yarn ms_L_yarn lw_L_341 rfl rfl (roomL (by omega) (by omega) rfl) rfl rfl (Nat.le_of_ble_eq_true rfl) rfl (w_yarn hl0.1 hl0.2.2.1 e1 hR (fun S2 s1 s2 => cpI ?_))
  have hl2 := LI0_X hl0 s2
  refine r_istore (pc' := 2461) (lv' := (6, .int (J1 (c + 128) 0)) :: lvL b c i) dL_law_2459 (by decide) rfl rfl ?_
  refine r_aload_n (pc' := 2462) dL_law_2461 rfl 4 rfl rfl ?_
  refine r_sarg (pc' := 2468) (ij := 1) 1 6 dL_law_2462 dL_law_2463 dL_law_2465 dL_law_2466 dL_law_2467 rfl rfl rfl hx.1 rfl ?_
  refine r_callV1 (pc' := 2471) (k' := k + 2) (n' := n + 12) dL_law_2468 mb_X9_yarn mi_X9_yarn hl2.2.1.o (by decide) rfl lk_L_343 (roomL (by omega) (by omega) rfl) rfl rfl (Nat.le_of_ble_eq_true rfl) rfl (c_X9_yarn hl2.2.1 e2 (cpI ?_))
  exact tail_I dL_law_2471 dL_law_2473 dL_law_2474 dL_law_2477 dL_law_2479 dL_law_2484 dL_law_2486 dL_law_2489 dL_law_2490 dL_law_2491 dL_law_2492 dL_law_2494 dL_law_2495 dL_law_2496 dL_law_2501 (by decide) hl2 (fun q => by rw [s1 q]; exact sX_st) (by omega) (by omega) (aa_widen (by omega) (by omega) (nx _ _ _ _ ⟨hl2, hr1⟩))
theorem k_yarnNeeded (h : LI I S c L P) (hk : k ≤ 600000) (hn : n ≤ 7000000) (hx : vp_in (i + 1) N ∧ vp_in (i + 2) N ∧ vp_in (i + 3) N ∧ vp_in (i + 4) N ∧ vp_in (i + 5) N) (nx : ∀ J S2 L2 P2, LI J S2 c L2 P2 → AA Ω m_L_law (LF Ω b N xs) (k + 10) (n + 60) 3664 (lvL b c i) [] J S2) : AA Ω m_L_law (LF Ω b N xs) k n 2504 (lvL b c i) [] I S := by
  obtain ⟨hl0, hr⟩ := id h
  have hL := hl0.LL
  have hLP := hl0.LP
  obtain ⟨o1, I1, v, J1, e1, e2, hR, hr1⟩ := Eqv_two (mo := fun A => s_X9_yarnNeeded A (c + 128) (xs (i + 1).toNatClampNeg)) hr hL rfl (fun J hJ => q_yarnNeeded (P := P) hJ (xs (i + 1).toNatClampNeg)) (fun r J z q hz => fr_X8_yarnNeeded q (by omega) (by omega) (by omega)) (fun A r J z q hz => fr_X9_yarnNeeded q (by omega))
  refine r_aload_n (pc' := 2505) dL_law_2504 rfl 4 rfl rfl ?_
  refine r_sarg (pc' := 2511) (ij := 1) 0 5 dL_law_2505 dL_law_2506 dL_law_2508 dL_law_2509 dL_law_2510 rfl rfl rfl hx.1 rfl ?_
  refine r_aload_n (pc' := 2512) dL_law_2511 rfl 2 rfl rfl ?_
  refine r_callSH (pc' := 2515) (k' := k + 2) (n' := n + 12) (As := [.ref c, .int (xs (i + 1).toNatClampNeg), .ref (c + 139)]) (rest := []) dL_law_2512 mb_L_yarnNeeded ms_L_yarnNeeded lw_L_344 rfl rfl (roomL (by omega) (by omega) rfl) rfl rfl (Nat.le_of_ble_eq_true rfl) rfl (w_yarnNeeded hl0.1 hl0.2.2.1 e1 hR (fun S2 s1 s2 => cpI ?_))
  have hl2 := LI0_X hl0 s2
  refine r_istore (pc' := 2517) (lv' := (6, .int (J1 (c + 128) 0)) :: lvL b c i) dL_law_2515 (by decide) rfl rfl ?_
  refine r_aload_n (pc' := 2518) dL_law_2517 rfl 4 rfl rfl ?_
  refine r_sarg (pc' := 2524) (ij := 1) 1 6 dL_law_2518 dL_law_2519 dL_law_2521 dL_law_2522 dL_law_2523 rfl rfl rfl hx.1 rfl ?_
  refine r_callV1 (pc' := 2527) (k' := k + 2) (n' := n + 12) dL_law_2524 mb_X9_yarnNeeded mi_X9_yarnNeeded hl2.2.1.o (by decide) rfl lk_L_346 (roomL (by omega) (by omega) rfl) rfl rfl (Nat.le_of_ble_eq_true rfl) rfl (c_X9_yarnNeeded hl2.2.1 e2 (cpI ?_))
  exact tail_I dL_law_2527 dL_law_2529 dL_law_2530 dL_law_2533 dL_law_2535 dL_law_2540 dL_law_2542 dL_law_2545 dL_law_2546 dL_law_2547 dL_law_2548 dL_law_2550 dL_law_2551 dL_law_2552 dL_law_2557 (by decide) hl2 (fun q => by rw [s1 q]; exact sX_st) (by omega) (by omega) (aa_widen (by omega) (by omega) (nx _ _ _ _ ⟨hl2, hr1⟩))
theorem k_nextCard (h : LI I S c L P) (hk : k ≤ 600000) (hn : n ≤ 7000000) (hx : vp_in (i + 1) N ∧ vp_in (i + 2) N ∧ vp_in (i + 3) N ∧ vp_in (i + 4) N ∧ vp_in (i + 5) N) (nx : ∀ J S2 L2 P2, LI J S2 c L2 P2 → AA Ω m_L_law (LF Ω b N xs) (k + 10) (n + 60) 3664 (lvL b c i) [] J S2) : AA Ω m_L_law (LF Ω b N xs) k n 2560 (lvL b c i) [] I S := by
  obtain ⟨hl0, hr⟩ := id h
  have hL := hl0.LL
  have hLP := hl0.LP
  obtain ⟨o1, I1, v, J1, e1, e2, hR, hr1⟩ := Eqv_two (mo := fun A => s_X9_nextCard A (c + 128)) hr hL rfl (fun J hJ => q_nextCard (P := P) hJ) (fun r J z q hz => fr_X8_nextCard q (by omega) (by omega) (by omega)) (fun A r J z q hz => fr_X9_nextCard q (by omega))
  refine r_aload_n (pc' := 2561) dL_law_2560 rfl 4 rfl rfl ?_
  refine r_aload_n (pc' := 2562) dL_law_2561 rfl 2 rfl rfl ?_
  refine r_callSH (pc' := 2565) (k' := k + 1) (n' := n + 6) (As := [.ref c, .ref (c + 139)]) (rest := []) dL_law_2562 mb_L_nextCard ms_L_nextCard lw_L_347 rfl rfl (roomL (by omega) (by omega) rfl) rfl rfl (Nat.le_of_ble_eq_true rfl) rfl (w_nextCard hl0.1 hl0.2.2.1 e1 hR (fun S2 s1 s2 => cpI ?_))
  have hl2 := LI0_X hl0 s2
  refine r_istore (pc' := 2567) (lv' := (6, .int (J1 (c + 128) 0)) :: lvL b c i) dL_law_2565 (by decide) rfl rfl ?_
  refine r_aload_n (pc' := 2568) dL_law_2567 rfl 4 rfl rfl ?_
  refine r_callV0 (pc' := 2571) (k' := k + 1) (n' := n + 6) dL_law_2568 mb_X9_nextCard mi_X9_nextCard hl2.2.1.o (by decide) rfl lk_L_349 (roomL (by omega) (by omega) rfl) rfl rfl (Nat.le_of_ble_eq_true rfl) rfl (c_X9_nextCard hl2.2.1 e2 (cpI ?_))
  exact tail_I dL_law_2571 dL_law_2573 dL_law_2574 dL_law_2577 dL_law_2579 dL_law_2584 dL_law_2586 dL_law_2589 dL_law_2590 dL_law_2591 dL_law_2592 dL_law_2594 dL_law_2595 dL_law_2596 dL_law_2601 (by decide) hl2 (fun q => by rw [s1 q]; exact sX_st) (by omega) (by omega) (aa_widen (by omega) (by omega) (nx _ _ _ _ ⟨hl2, hr1⟩))
theorem k_weaveObstacle (h : LI I S c L P) (hk : k ≤ 600000) (hn : n ≤ 7000000) (hx : vp_in (i + 1) N ∧ vp_in (i + 2) N ∧ vp_in (i + 3) N ∧ vp_in (i + 4) N ∧ vp_in (i + 5) N) (nx : ∀ J S2 L2 P2, LI J S2 c L2 P2 → AA Ω m_L_law (LF Ω b N xs) (k + 10) (n + 60) 3664 (lvL b c i) [] J S2) : AA Ω m_L_law (LF Ω b N xs) k n 2604 (lvL b c i) [] I S := by
  obtain ⟨hl0, hr⟩ := id h
  have hL := hl0.LL
  have hLP := hl0.LP
  obtain ⟨o1, I1, v, J1, e1, e2, hR, hr1⟩ := Eqv_two (mo := fun A => s_X9_weaveObstacle A (c + 128)) hr hL rfl (fun J hJ => q_weaveObstacle (P := P) hJ) (fun r J z q hz => fr_X8_weaveObstacle q (by omega) (by omega) (by omega)) (fun A r J z q hz => fr_X9_weaveObstacle q (by omega))
  refine r_aload_n (pc' := 2605) dL_law_2604 rfl 4 rfl rfl ?_
  refine r_aload_n (pc' := 2606) dL_law_2605 rfl 2 rfl rfl ?_
  refine r_callSH (pc' := 2609) (k' := k + 1) (n' := n + 6) (As := [.ref c, .ref (c + 139)]) (rest := []) dL_law_2606 mb_L_weaveObstacle ms_L_weaveObstacle lw_L_350 rfl rfl (roomL (by omega) (by omega) rfl) rfl rfl (Nat.le_of_ble_eq_true rfl) rfl (w_weaveObstacle hl0.1 hl0.2.2.1 e1 hR (fun S2 s1 s2 => cpI ?_))
  have hl2 := LI0_X hl0 s2
  refine r_istore (pc' := 2611) (lv' := (6, .int (J1 (c + 128) 0)) :: lvL b c i) dL_law_2609 (by decide) rfl rfl ?_
  refine r_aload_n (pc' := 2612) dL_law_2611 rfl 4 rfl rfl ?_
  refine r_callV0 (pc' := 2615) (k' := k + 1) (n' := n + 6) dL_law_2612 mb_X9_weaveObstacle mi_X9_weaveObstacle hl2.2.1.o (by decide) rfl lk_L_352 (roomL (by omega) (by omega) rfl) rfl rfl (Nat.le_of_ble_eq_true rfl) rfl (c_X9_weaveObstacle hl2.2.1 e2 (cpI ?_))
  exact tail_I dL_law_2615 dL_law_2617 dL_law_2618 dL_law_2621 dL_law_2623 dL_law_2628 dL_law_2630 dL_law_2633 dL_law_2634 dL_law_2635 dL_law_2636 dL_law_2638 dL_law_2639 dL_law_2640 dL_law_2645 (by decide) hl2 (fun q => by rw [s1 q]; exact sX_st) (by omega) (by omega) (aa_widen (by omega) (by omega) (nx _ _ _ _ ⟨hl2, hr1⟩))
theorem k_picksPossible (h : LI I S c L P) (hk : k ≤ 600000) (hn : n ≤ 7000000) (hx : vp_in (i + 1) N ∧ vp_in (i + 2) N ∧ vp_in (i + 3) N ∧ vp_in (i + 4) N ∧ vp_in (i + 5) N) (nx : ∀ J S2 L2 P2, LI J S2 c L2 P2 → AA Ω m_L_law (LF Ω b N xs) (k + 10) (n + 60) 3664 (lvL b c i) [] J S2) : AA Ω m_L_law (LF Ω b N xs) k n 2648 (lvL b c i) [] I S := by
  obtain ⟨hl0, hr⟩ := id h
  have hL := hl0.LL
  have hLP := hl0.LP
  obtain ⟨o1, I1, v, J1, e1, e2, hR, hr1⟩ := Eqv_two (mo := fun A => s_X9_picksPossible A (c + 128)) hr hL rfl (fun J hJ => q_picksPossible (P := P) hJ hL) (fun r J z q hz => fr_X8_picksPossible q (by omega) (by omega) (by omega)) (fun A r J z q hz => fr_X9_picksPossible q (by omega) (by omega) (by omega))
  refine r_aload_n (pc' := 2649) dL_law_2648 rfl 4 rfl rfl ?_
  refine r_aload_n (pc' := 2650) dL_law_2649 rfl 2 rfl rfl ?_
  refine r_callSH (pc' := 2653) (k' := k + 1) (n' := n + 6) (As := [.ref c, .ref (c + 139)]) (rest := []) dL_law_2650 mb_L_picksPossible ms_L_picksPossible lw_L_353 rfl rfl (roomL (by omega) (by omega) rfl) rfl rfl (Nat.le_of_ble_eq_true rfl) rfl (w_picksPossible hl0.1 hl0.2.2.1 e1 hR (fun S2 s1 s2 => cpI ?_))
  have hl2 := LI0_X hl0 s2
  refine r_istore (pc' := 2655) (lv' := (6, .int (J1 (c + 128) 0)) :: lvL b c i) dL_law_2653 (by decide) rfl rfl ?_
  refine r_aload_n (pc' := 2656) dL_law_2655 rfl 4 rfl rfl ?_
  refine r_callV0 (pc' := 2659) (k' := k + 1) (n' := n + 6) dL_law_2656 mb_X9_picksPossible mi_X9_picksPossible hl2.2.1.o (by decide) rfl lk_L_355 (roomL (by omega) (by omega) rfl) rfl rfl (Nat.le_of_ble_eq_true rfl) rfl (c_X9_picksPossible hl2.2.1 e2 (cpI ?_))
  exact tail_I dL_law_2659 dL_law_2661 dL_law_2662 dL_law_2665 dL_law_2667 dL_law_2672 dL_law_2674 dL_law_2677 dL_law_2678 dL_law_2679 dL_law_2680 dL_law_2682 dL_law_2683 dL_law_2684 dL_law_2689 (by decide) hl2 (fun q => by rw [s1 q]; exact sX_st) (by omega) (by omega) (aa_widen (by omega) (by omega) (nx _ _ _ _ ⟨hl2, hr1⟩))
theorem k_picksUntilStuck (h : LI I S c L P) (hk : k ≤ 600000) (hn : n ≤ 7000000) (hx : vp_in (i + 1) N ∧ vp_in (i + 2) N ∧ vp_in (i + 3) N ∧ vp_in (i + 4) N ∧ vp_in (i + 5) N) (nx : ∀ J S2 L2 P2, LI J S2 c L2 P2 → AA Ω m_L_law (LF Ω b N xs) (k + 10) (n + 60) 3664 (lvL b c i) [] J S2) : AA Ω m_L_law (LF Ω b N xs) k n 2692 (lvL b c i) [] I S := by
  obtain ⟨hl0, hr⟩ := id h
  have hL := hl0.LL
  have hLP := hl0.LP
  obtain ⟨o1, I1, v, J1, e1, e2, hR, hr1⟩ := Eqv_two (mo := fun A => s_X9_picksUntilStuck A (c + 128)) hr hL rfl (fun J hJ => q_picksUntilStuck (P := P) hJ hL) (fun r J z q hz => fr_X8_picksUntilStuck q (by omega) (by omega) (by omega)) (fun A r J z q hz => fr_X9_picksUntilStuck q (by omega) (by omega) (by omega))
  refine r_aload_n (pc' := 2693) dL_law_2692 rfl 4 rfl rfl ?_
  refine r_aload_n (pc' := 2694) dL_law_2693 rfl 2 rfl rfl ?_
  refine r_callSH (pc' := 2697) (k' := k + 1) (n' := n + 6) (As := [.ref c, .ref (c + 139)]) (rest := []) dL_law_2694 mb_L_picksUntilStuck ms_L_picksUntilStuck lw_L_356 rfl rfl (roomL (by omega) (by omega) rfl) rfl rfl (Nat.le_of_ble_eq_true rfl) rfl (w_picksUntilStuck hl0.1 hl0.2.2.1 e1 hR (fun S2 s1 s2 => cpI ?_))
  have hl2 := LI0_X hl0 s2
  refine r_istore (pc' := 2699) (lv' := (6, .int (J1 (c + 128) 0)) :: lvL b c i) dL_law_2697 (by decide) rfl rfl ?_
  refine r_aload_n (pc' := 2700) dL_law_2699 rfl 4 rfl rfl ?_
  refine r_callV0 (pc' := 2703) (k' := k + 1) (n' := n + 6) dL_law_2700 mb_X9_picksUntilStuck mi_X9_picksUntilStuck hl2.2.1.o (by decide) rfl lk_L_358 (roomL (by omega) (by omega) rfl) rfl rfl (Nat.le_of_ble_eq_true rfl) rfl (c_X9_picksUntilStuck hl2.2.1 e2 (cpI ?_))
  exact tail_I dL_law_2703 dL_law_2705 dL_law_2706 dL_law_2709 dL_law_2711 dL_law_2716 dL_law_2718 dL_law_2721 dL_law_2722 dL_law_2723 dL_law_2724 dL_law_2726 dL_law_2727 dL_law_2728 dL_law_2733 (by decide) hl2 (fun q => by rw [s1 q]; exact sX_st) (by omega) (by omega) (aa_widen (by omega) (by omega) (nx _ _ _ _ ⟨hl2, hr1⟩))
theorem k_imbalance (h : LI I S c L P) (hk : k ≤ 600000) (hn : n ≤ 7000000) (hx : vp_in (i + 1) N ∧ vp_in (i + 2) N ∧ vp_in (i + 3) N ∧ vp_in (i + 4) N ∧ vp_in (i + 5) N) (nx : ∀ J S2 L2 P2, LI J S2 c L2 P2 → AA Ω m_L_law (LF Ω b N xs) (k + 10) (n + 60) 3664 (lvL b c i) [] J S2) : AA Ω m_L_law (LF Ω b N xs) k n 2736 (lvL b c i) [] I S := by
  obtain ⟨hl0, hr⟩ := id h
  have hL := hl0.LL
  have hLP := hl0.LP
  obtain ⟨o1, I1, v, J1, e1, e2, hR, hr1⟩ := Eqv_two (mo := fun A => s_X9_imbalance A (c + 128)) hr hL rfl (fun J hJ => q_imbalance (P := P) hJ) (fun r J z q hz => fr_X8_imbalance q (by omega) (by omega) (by omega)) (fun A r J z q hz => fr_X9_imbalance q (by omega))
  refine r_aload_n (pc' := 2737) dL_law_2736 rfl 4 rfl rfl ?_
  refine r_aload_n (pc' := 2738) dL_law_2737 rfl 2 rfl rfl ?_
  refine r_callSH (pc' := 2741) (k' := k + 1) (n' := n + 6) (As := [.ref c, .ref (c + 139)]) (rest := []) dL_law_2738 mb_L_imbalance ms_L_imbalance lw_L_359 rfl rfl (roomL (by omega) (by omega) rfl) rfl rfl (Nat.le_of_ble_eq_true rfl) rfl (w_imbalance hl0.1 hl0.2.2.1 e1 hR (fun S2 s1 s2 => cpI ?_))
  have hl2 := LI0_X hl0 s2
  refine r_istore (pc' := 2743) (lv' := (6, .int (J1 (c + 128) 0)) :: lvL b c i) dL_law_2741 (by decide) rfl rfl ?_
  refine r_aload_n (pc' := 2744) dL_law_2743 rfl 4 rfl rfl ?_
  refine r_callV0 (pc' := 2747) (k' := k + 1) (n' := n + 6) dL_law_2744 mb_X9_imbalance mi_X9_imbalance hl2.2.1.o (by decide) rfl lk_L_361 (roomL (by omega) (by omega) rfl) rfl rfl (Nat.le_of_ble_eq_true rfl) rfl (c_X9_imbalance hl2.2.1 e2 (cpI ?_))
  exact tail_I dL_law_2747 dL_law_2749 dL_law_2750 dL_law_2753 dL_law_2755 dL_law_2760 dL_law_2762 dL_law_2765 dL_law_2766 dL_law_2767 dL_law_2768 dL_law_2770 dL_law_2771 dL_law_2772 dL_law_2777 (by decide) hl2 (fun q => by rw [s1 q]; exact sX_st) (by omega) (by omega) (aa_widen (by omega) (by omega) (nx _ _ _ _ ⟨hl2, hr1⟩))
theorem k_writeRow (h : LI I S c L P) (hk : k ≤ 600000) (hn : n ≤ 7000000) (hx : vp_in (i + 1) N ∧ vp_in (i + 2) N ∧ vp_in (i + 3) N ∧ vp_in (i + 4) N ∧ vp_in (i + 5) N) (nx : ∀ J S2 L2 P2, LI J S2 c L2 P2 → AA Ω m_L_law (LF Ω b N xs) (k + 10) (n + 60) 3664 (lvL b c i) [] J S2) : AA Ω m_L_law (LF Ω b N xs) k n 2780 (lvL b c i) [] I S := by
  obtain ⟨hl0, hr⟩ := id h
  have hL := hl0.LL
  have hLP := hl0.LP
  obtain ⟨o1, I1, v, J1, e1, e2, hR, hr1⟩ := Eqv_two (mo := fun A => s_X9_writeRow A (c + 128) (xs (i + 1).toNatClampNeg)) hr hL rfl (fun J hJ => q_writeRow (P := P) hJ hL (xs (i + 1).toNatClampNeg)) (fun r J z q hz => fr_X8_writeRow q (by omega) (by omega) (by omega)) (fun A r J z q hz => fr_X9_writeRow q (by omega) (by omega))
  refine r_aload_n (pc' := 2781) dL_law_2780 rfl 4 rfl rfl ?_
  refine r_sarg (pc' := 2787) (ij := 1) 0 5 dL_law_2781 dL_law_2782 dL_law_2784 dL_law_2785 dL_law_2786 rfl rfl rfl hx.1 rfl ?_
  refine r_aload_n (pc' := 2788) dL_law_2787 rfl 2 rfl rfl ?_
  refine r_callSH (pc' := 2791) (k' := k + 2) (n' := n + 12) (As := [.ref c, .int (xs (i + 1).toNatClampNeg), .ref (c + 139)]) (rest := []) dL_law_2788 mb_L_writeRow ms_L_writeRow lw_L_362 rfl rfl (roomL (by omega) (by omega) rfl) rfl rfl (Nat.le_of_ble_eq_true rfl) rfl (w_writeRow hl0.1 hl0.2.2.1 e1 hR (fun S2 s1 s2 => cpI ?_))
  have hl2 := LI0_X hl0 s2
  refine r_istore (pc' := 2793) (lv' := (6, .int (J1 (c + 128) 0)) :: lvL b c i) dL_law_2791 (by decide) rfl rfl ?_
  refine r_aload_n (pc' := 2794) dL_law_2793 rfl 4 rfl rfl ?_
  refine r_sarg (pc' := 2800) (ij := 1) 1 6 dL_law_2794 dL_law_2795 dL_law_2797 dL_law_2798 dL_law_2799 rfl rfl rfl hx.1 rfl ?_
  refine r_callV1 (pc' := 2803) (k' := k + 2) (n' := n + 12) dL_law_2800 mb_X9_writeRow mi_X9_writeRow hl2.2.1.o (by decide) rfl lk_L_364 (roomL (by omega) (by omega) rfl) rfl rfl (Nat.le_of_ble_eq_true rfl) rfl (c_X9_writeRow hl2.2.1 e2 (cpI ?_))
  exact tail_I dL_law_2803 dL_law_2805 dL_law_2806 dL_law_2809 dL_law_2811 dL_law_2816 dL_law_2818 dL_law_2821 dL_law_2822 dL_law_2823 dL_law_2824 dL_law_2826 dL_law_2827 dL_law_2828 dL_law_2833 (by decide) hl2 (fun q => by rw [s1 q]; exact sX_st) (by omega) (by omega) (aa_widen (by omega) (by omega) (nx _ _ _ _ ⟨hl2, hr1⟩))
theorem k_writeCard (h : LI I S c L P) (hk : k ≤ 600000) (hn : n ≤ 7000000) (hx : vp_in (i + 1) N ∧ vp_in (i + 2) N ∧ vp_in (i + 3) N ∧ vp_in (i + 4) N ∧ vp_in (i + 5) N) (nx : ∀ J S2 L2 P2, LI J S2 c L2 P2 → AA Ω m_L_law (LF Ω b N xs) (k + 10) (n + 60) 3664 (lvL b c i) [] J S2) : AA Ω m_L_law (LF Ω b N xs) k n 2836 (lvL b c i) [] I S := by
  obtain ⟨hl0, hr⟩ := id h
  have hL := hl0.LL
  have hLP := hl0.LP
  obtain ⟨o1, I1, v, J1, e1, e2, hR, hr1⟩ := Eqv_two (mo := fun A => s_X9_writeCard A (c + 128) (xs (i + 1).toNatClampNeg)) hr hL rfl (fun J hJ => q_writeCard (P := P) hJ hL (xs (i + 1).toNatClampNeg)) (fun r J z q hz => fr_X8_writeCard q (by omega) (by omega) (by omega)) (fun A r J z q hz => fr_X9_writeCard q (by omega) (by omega))
  refine r_aload_n (pc' := 2837) dL_law_2836 rfl 4 rfl rfl ?_
  refine r_sarg (pc' := 2843) (ij := 1) 0 5 dL_law_2837 dL_law_2838 dL_law_2840 dL_law_2841 dL_law_2842 rfl rfl rfl hx.1 rfl ?_
  refine r_aload_n (pc' := 2844) dL_law_2843 rfl 2 rfl rfl ?_
  refine r_callSH (pc' := 2847) (k' := k + 2) (n' := n + 12) (As := [.ref c, .int (xs (i + 1).toNatClampNeg), .ref (c + 139)]) (rest := []) dL_law_2844 mb_L_writeCard ms_L_writeCard lw_L_365 rfl rfl (roomL (by omega) (by omega) rfl) rfl rfl (Nat.le_of_ble_eq_true rfl) rfl (w_writeCard hl0.1 hl0.2.2.1 e1 hR (fun S2 s1 s2 => cpI ?_))
  have hl2 := LI0_X hl0 s2
  refine r_istore (pc' := 2849) (lv' := (6, .int (J1 (c + 128) 0)) :: lvL b c i) dL_law_2847 (by decide) rfl rfl ?_
  refine r_aload_n (pc' := 2850) dL_law_2849 rfl 4 rfl rfl ?_
  refine r_sarg (pc' := 2856) (ij := 1) 1 6 dL_law_2850 dL_law_2851 dL_law_2853 dL_law_2854 dL_law_2855 rfl rfl rfl hx.1 rfl ?_
  refine r_callV1 (pc' := 2859) (k' := k + 2) (n' := n + 12) dL_law_2856 mb_X9_writeCard mi_X9_writeCard hl2.2.1.o (by decide) rfl lk_L_367 (roomL (by omega) (by omega) rfl) rfl rfl (Nat.le_of_ble_eq_true rfl) rfl (c_X9_writeCard hl2.2.1 e2 (cpI ?_))
  exact tail_I dL_law_2859 dL_law_2861 dL_law_2862 dL_law_2865 dL_law_2867 dL_law_2872 dL_law_2874 dL_law_2877 dL_law_2878 dL_law_2879 dL_law_2880 dL_law_2882 dL_law_2883 dL_law_2884 dL_law_2889 (by decide) hl2 (fun q => by rw [s1 q]; exact sX_st) (by omega) (by omega) (aa_widen (by omega) (by omega) (nx _ _ _ _ ⟨hl2, hr1⟩))
theorem k_writeDeck (h : LI I S c L P) (hk : k ≤ 600000) (hn : n ≤ 7000000) (hx : vp_in (i + 1) N ∧ vp_in (i + 2) N ∧ vp_in (i + 3) N ∧ vp_in (i + 4) N ∧ vp_in (i + 5) N) (nx : ∀ J S2 L2 P2, LI J S2 c L2 P2 → AA Ω m_L_law (LF Ω b N xs) (k + 10) (n + 60) 3664 (lvL b c i) [] J S2) : AA Ω m_L_law (LF Ω b N xs) k n 2892 (lvL b c i) [] I S := by
  obtain ⟨hl0, hr⟩ := id h
  have hL := hl0.LL
  have hLP := hl0.LP
  obtain ⟨o1, I1, v, J1, e1, e2, hR, hr1⟩ := Eqv_two (mo := fun A => s_X9_writeDeck A (c + 128)) hr hL rfl (fun J hJ => q_writeDeck (P := P) hJ hL) (fun r J z q hz => fr_X8_writeDeck q (by omega) (by omega) (by omega)) (fun A r J z q hz => fr_X9_writeDeck q (by omega) (by omega))
  refine r_aload_n (pc' := 2893) dL_law_2892 rfl 4 rfl rfl ?_
  refine r_aload_n (pc' := 2894) dL_law_2893 rfl 2 rfl rfl ?_
  refine r_callSH (pc' := 2897) (k' := k + 1) (n' := n + 6) (As := [.ref c, .ref (c + 139)]) (rest := []) dL_law_2894 mb_L_writeDeck ms_L_writeDeck lw_L_368 rfl rfl (roomL (by omega) (by omega) rfl) rfl rfl (Nat.le_of_ble_eq_true rfl) rfl (w_writeDeck hl0.1 hl0.2.2.1 e1 hR (fun S2 s1 s2 => cpI ?_))
  have hl2 := LI0_X hl0 s2
  refine r_istore (pc' := 2899) (lv' := (6, .int (J1 (c + 128) 0)) :: lvL b c i) dL_law_2897 (by decide) rfl rfl ?_
  refine r_aload_n (pc' := 2900) dL_law_2899 rfl 4 rfl rfl ?_
  refine r_callV0 (pc' := 2903) (k' := k + 1) (n' := n + 6) dL_law_2900 mb_X9_writeDeck mi_X9_writeDeck hl2.2.1.o (by decide) rfl lk_L_370 (roomL (by omega) (by omega) rfl) rfl rfl (Nat.le_of_ble_eq_true rfl) rfl (c_X9_writeDeck hl2.2.1 e2 (cpI ?_))
  exact tail_I dL_law_2903 dL_law_2905 dL_law_2906 dL_law_2909 dL_law_2911 dL_law_2916 dL_law_2918 dL_law_2921 dL_law_2922 dL_law_2923 dL_law_2924 dL_law_2926 dL_law_2927 dL_law_2928 dL_law_2933 (by decide) hl2 (fun q => by rw [s1 q]; exact sX_st) (by omega) (by omega) (aa_widen (by omega) (by omega) (nx _ _ _ _ ⟨hl2, hr1⟩))
theorem k_outputByte (h : LI I S c L P) (hk : k ≤ 600000) (hn : n ≤ 7000000) (hx : vp_in (i + 1) N ∧ vp_in (i + 2) N ∧ vp_in (i + 3) N ∧ vp_in (i + 4) N ∧ vp_in (i + 5) N) (nx : ∀ J S2 L2 P2, LI J S2 c L2 P2 → AA Ω m_L_law (LF Ω b N xs) (k + 10) (n + 60) 3664 (lvL b c i) [] J S2) : AA Ω m_L_law (LF Ω b N xs) k n 2936 (lvL b c i) [] I S := by
  obtain ⟨hl0, hr⟩ := id h
  have hL := hl0.LL
  have hLP := hl0.LP
  obtain ⟨o1, I1, v, J1, e1, e2, hR, hr1⟩ := Eqv_two (mo := fun A => s_X9_outputByte A (c + 128) (xs (i + 1).toNatClampNeg)) hr hL rfl (fun J hJ => q_outputByte (P := P) hJ (xs (i + 1).toNatClampNeg)) (fun r J z q hz => fr_X8_outputByte q (by omega) (by omega) (by omega)) (fun A r J z q hz => fr_X9_outputByte q (by omega))
  refine r_aload_n (pc' := 2937) dL_law_2936 rfl 4 rfl rfl ?_
  refine r_sarg (pc' := 2943) (ij := 1) 0 5 dL_law_2937 dL_law_2938 dL_law_2940 dL_law_2941 dL_law_2942 rfl rfl rfl hx.1 rfl ?_
  refine r_aload_n (pc' := 2944) dL_law_2943 rfl 2 rfl rfl ?_
  refine r_callSH (pc' := 2947) (k' := k + 1) (n' := n + 6) (As := [.ref c, .int (xs (i + 1).toNatClampNeg), .ref (c + 139)]) (rest := []) dL_law_2944 mb_L_outputByte ms_L_outputByte lw_L_371 rfl rfl (roomL (by omega) (by omega) rfl) rfl rfl (Nat.le_of_ble_eq_true rfl) rfl (w_outputByte hl0.1 hl0.2.2.1 e1 hR (fun S2 s1 s2 => cpI ?_))
  have hl2 := LI0_X hl0 s2
  refine r_istore (pc' := 2949) (lv' := (6, .int (J1 (c + 128) 0)) :: lvL b c i) dL_law_2947 (by decide) rfl rfl ?_
  refine r_aload_n (pc' := 2950) dL_law_2949 rfl 4 rfl rfl ?_
  refine r_sarg (pc' := 2956) (ij := 1) 1 6 dL_law_2950 dL_law_2951 dL_law_2953 dL_law_2954 dL_law_2955 rfl rfl rfl hx.1 rfl ?_
  refine r_callV1 (pc' := 2959) (k' := k + 1) (n' := n + 6) dL_law_2956 mb_X9_outputByte mi_X9_outputByte hl2.2.1.o (by decide) rfl lk_L_373 (roomL (by omega) (by omega) rfl) rfl rfl (Nat.le_of_ble_eq_true rfl) rfl (c_X9_outputByte hl2.2.1 e2 (cpI ?_))
  exact tail_I dL_law_2959 dL_law_2961 dL_law_2962 dL_law_2965 dL_law_2967 dL_law_2972 dL_law_2974 dL_law_2977 dL_law_2978 dL_law_2979 dL_law_2980 dL_law_2982 dL_law_2983 dL_law_2984 dL_law_2989 (by decide) hl2 (fun q => by rw [s1 q]; exact sX_st) (by omega) (by omega) (aa_widen (by omega) (by omega) (nx _ _ _ _ ⟨hl2, hr1⟩))
theorem k_weave (h : LI I S c L P) (hk : k ≤ 600000) (hn : n ≤ 7000000) (hx : vp_in (i + 1) N ∧ vp_in (i + 2) N ∧ vp_in (i + 3) N ∧ vp_in (i + 4) N ∧ vp_in (i + 5) N) (nx : ∀ J S2 L2 P2, LI J S2 c L2 P2 → AA Ω m_L_law (LF Ω b N xs) (k + 10) (n + 60) 3664 (lvL b c i) [] J S2) : AA Ω m_L_law (LF Ω b N xs) k n 2992 (lvL b c i) [] I S := by
  obtain ⟨hl0, hr⟩ := id h
  have hL := hl0.LL
  have hLP := hl0.LP
  obtain ⟨o1, I1, v, J1, e1, e2, hR, hr1⟩ := Eqv_two (mo := fun A => s_X9_weave A (c + 128) (xs (i + 1).toNatClampNeg)) hr hL rfl (fun J hJ => q_weave (P := P) hJ hL (xs (i + 1).toNatClampNeg)) (fun r J z q hz => fr_X8_weave q (by omega) (by omega) (by omega)) (fun A r J z q hz => fr_X9_weave q (by omega) (by omega) (by omega))
  refine r_aload_n (pc' := 2993) dL_law_2992 rfl 4 rfl rfl ?_
  refine r_sarg (pc' := 2999) (ij := 1) 0 5 dL_law_2993 dL_law_2994 dL_law_2996 dL_law_2997 dL_law_2998 rfl rfl rfl hx.1 rfl ?_
  refine r_aload_n (pc' := 3000) dL_law_2999 rfl 2 rfl rfl ?_
  refine r_callSH (pc' := 3003) (k' := k + 2) (n' := n + 12) (As := [.ref c, .int (xs (i + 1).toNatClampNeg), .ref (c + 139)]) (rest := []) dL_law_3000 mb_L_weave ms_L_weave lw_L_374 rfl rfl (roomL (by omega) (by omega) rfl) rfl rfl (Nat.le_of_ble_eq_true rfl) rfl (w_weave hl0.1 hl0.2.2.1 e1 hR (fun S2 s1 s2 => cpI ?_))
  have hl2 := LI0_X hl0 s2
  refine r_istore (pc' := 3005) (lv' := (6, .int (J1 (c + 128) 0)) :: lvL b c i) dL_law_3003 (by decide) rfl rfl ?_
  refine r_aload_n (pc' := 3006) dL_law_3005 rfl 4 rfl rfl ?_
  refine r_sarg (pc' := 3012) (ij := 1) 1 6 dL_law_3006 dL_law_3007 dL_law_3009 dL_law_3010 dL_law_3011 rfl rfl rfl hx.1 rfl ?_
  refine r_callV1 (pc' := 3015) (k' := k + 2) (n' := n + 12) dL_law_3012 mb_X9_weave mi_X9_weave hl2.2.1.o (by decide) rfl lk_L_376 (roomL (by omega) (by omega) rfl) rfl rfl (Nat.le_of_ble_eq_true rfl) rfl (c_X9_weave hl2.2.1 e2 (cpI ?_))
  exact tail_I dL_law_3015 dL_law_3017 dL_law_3018 dL_law_3021 dL_law_3023 dL_law_3028 dL_law_3030 dL_law_3033 dL_law_3034 dL_law_3035 dL_law_3036 dL_law_3038 dL_law_3039 dL_law_3040 dL_law_3045 (by decide) hl2 (fun q => by rw [s1 q]; exact sX_st) (by omega) (by omega) (aa_widen (by omega) (by omega) (nx _ _ _ _ ⟨hl2, hr1⟩))
theorem k_unweave (h : LI I S c L P) (hk : k ≤ 600000) (hn : n ≤ 7000000) (hx : vp_in (i + 1) N ∧ vp_in (i + 2) N ∧ vp_in (i + 3) N ∧ vp_in (i + 4) N ∧ vp_in (i + 5) N) (nx : ∀ J S2 L2 P2, LI J S2 c L2 P2 → AA Ω m_L_law (LF Ω b N xs) (k + 10) (n + 60) 3664 (lvL b c i) [] J S2) : AA Ω m_L_law (LF Ω b N xs) k n 3048 (lvL b c i) [] I S := by
  obtain ⟨hl0, hr⟩ := id h
  have hL := hl0.LL
  have hLP := hl0.LP
  obtain ⟨o1, I1, v, J1, e1, e2, hR, hr1⟩ := Eqv_two (mo := fun A => s_X9_unweave A (c + 128) (xs (i + 1).toNatClampNeg)) hr hL rfl (fun J hJ => q_unweave (P := P) hJ hL (xs (i + 1).toNatClampNeg)) (fun r J z q hz => fr_X8_unweave q (by omega) (by omega) (by omega)) (fun A r J z q hz => fr_X9_unweave q (by omega) (by omega) (by omega))
  refine r_aload_n (pc' := 3049) dL_law_3048 rfl 4 rfl rfl ?_
  refine r_sarg (pc' := 3055) (ij := 1) 0 5 dL_law_3049 dL_law_3050 dL_law_3052 dL_law_3053 dL_law_3054 rfl rfl rfl hx.1 rfl ?_
  refine r_aload_n (pc' := 3056) dL_law_3055 rfl 2 rfl rfl ?_
  refine r_callSH (pc' := 3059) (k' := k + 2) (n' := n + 12) (As := [.ref c, .int (xs (i + 1).toNatClampNeg), .ref (c + 139)]) (rest := []) dL_law_3056 mb_L_unweave ms_L_unweave lw_L_377 rfl rfl (roomL (by omega) (by omega) rfl) rfl rfl (Nat.le_of_ble_eq_true rfl) rfl (w_unweave hl0.1 hl0.2.2.1 e1 hR (fun S2 s1 s2 => cpI ?_))
  have hl2 := LI0_X hl0 s2
  refine r_istore (pc' := 3061) (lv' := (6, .int (J1 (c + 128) 0)) :: lvL b c i) dL_law_3059 (by decide) rfl rfl ?_
  refine r_aload_n (pc' := 3062) dL_law_3061 rfl 4 rfl rfl ?_
  refine r_sarg (pc' := 3068) (ij := 1) 1 6 dL_law_3062 dL_law_3063 dL_law_3065 dL_law_3066 dL_law_3067 rfl rfl rfl hx.1 rfl ?_
  refine r_callV1 (pc' := 3071) (k' := k + 2) (n' := n + 12) dL_law_3068 mb_X9_unweave mi_X9_unweave hl2.2.1.o (by decide) rfl lk_L_379 (roomL (by omega) (by omega) rfl) rfl rfl (Nat.le_of_ble_eq_true rfl) rfl (c_X9_unweave hl2.2.1 e2 (cpI ?_))
  exact tail_I dL_law_3071 dL_law_3073 dL_law_3074 dL_law_3077 dL_law_3079 dL_law_3084 dL_law_3086 dL_law_3089 dL_law_3090 dL_law_3091 dL_law_3092 dL_law_3094 dL_law_3095 dL_law_3096 dL_law_3101 (by decide) hl2 (fun q => by rw [s1 q]; exact sX_st) (by omega) (by omega) (aa_widen (by omega) (by omega) (nx _ _ _ _ ⟨hl2, hr1⟩))
theorem k_swapCards (h : LI I S c L P) (hk : k ≤ 600000) (hn : n ≤ 7000000) (hx : vp_in (i + 1) N ∧ vp_in (i + 2) N ∧ vp_in (i + 3) N ∧ vp_in (i + 4) N ∧ vp_in (i + 5) N) (nx : ∀ J S2 L2 P2, LI J S2 c L2 P2 → AA Ω m_L_law (LF Ω b N xs) (k + 10) (n + 60) 3664 (lvL b c i) [] J S2) : AA Ω m_L_law (LF Ω b N xs) k n 3104 (lvL b c i) [] I S := by
  obtain ⟨hl0, hr⟩ := id h
  have hL := hl0.LL
  have hLP := hl0.LP
  obtain ⟨o1, I1, v, J1, e1, e2, hR, hr1⟩ := Eqv_two (mo := fun A => s_X9_swapCards A (c + 128) (xs (i + 1).toNatClampNeg) (xs (i + 2).toNatClampNeg)) hr hL rfl (fun J hJ => q_swapCards (P := P) hJ hL (xs (i + 1).toNatClampNeg) (xs (i + 2).toNatClampNeg)) (fun r J z q hz => fr_X8_swapCards q (by omega) (by omega) (by omega)) (fun A r J z q hz => fr_X9_swapCards q (by omega) (by omega) (by omega))
  refine r_aload_n (pc' := 3105) dL_law_3104 rfl 4 rfl rfl ?_
  refine r_sarg (pc' := 3111) (ij := 1) 0 5 dL_law_3105 dL_law_3106 dL_law_3108 dL_law_3109 dL_law_3110 rfl rfl rfl hx.1 rfl ?_
  refine r_sarg (pc' := 3117) (ij := 2) 0 5 dL_law_3111 dL_law_3112 dL_law_3114 dL_law_3115 dL_law_3116 rfl rfl rfl hx.2.1 rfl ?_
  refine r_aload_n (pc' := 3118) dL_law_3117 rfl 2 rfl rfl ?_
  refine r_callSH (pc' := 3121) (k' := k + 4) (n' := n + 24) (As := [.ref c, .int (xs (i + 1).toNatClampNeg), .int (xs (i + 2).toNatClampNeg), .ref (c + 139)]) (rest := []) dL_law_3118 mb_L_swapCards ms_L_swapCards lw_L_380 rfl rfl (roomL (by omega) (by omega) rfl) rfl rfl (Nat.le_of_ble_eq_true rfl) rfl (w_swapCards hl0.1 hl0.2.2.1 e1 hR (fun S2 s1 s2 => cpI ?_))
  have hl2 := LI0_X hl0 s2
  refine r_istore (pc' := 3123) (lv' := (6, .int (J1 (c + 128) 0)) :: lvL b c i) dL_law_3121 (by decide) rfl rfl ?_
  refine r_aload_n (pc' := 3124) dL_law_3123 rfl 4 rfl rfl ?_
  refine r_sarg (pc' := 3130) (ij := 1) 1 6 dL_law_3124 dL_law_3125 dL_law_3127 dL_law_3128 dL_law_3129 rfl rfl rfl hx.1 rfl ?_
  refine r_sarg (pc' := 3136) (ij := 2) 1 6 dL_law_3130 dL_law_3131 dL_law_3133 dL_law_3134 dL_law_3135 rfl rfl rfl hx.2.1 rfl ?_
  refine r_callV2 (pc' := 3139) (k' := k + 4) (n' := n + 24) dL_law_3136 mb_X9_swapCards mi_X9_swapCards hl2.2.1.o (by decide) rfl lk_L_382 (roomL (by omega) (by omega) rfl) rfl rfl (Nat.le_of_ble_eq_true rfl) rfl (c_X9_swapCards hl2.2.1 e2 (cpI ?_))
  exact tail_I dL_law_3139 dL_law_3141 dL_law_3142 dL_law_3145 dL_law_3147 dL_law_3152 dL_law_3154 dL_law_3157 dL_law_3158 dL_law_3159 dL_law_3160 dL_law_3162 dL_law_3163 dL_law_3164 dL_law_3169 (by decide) hl2 (fun q => by rw [s1 q]; exact sX_st) (by omega) (by omega) (aa_widen (by omega) (by omega) (nx _ _ _ _ ⟨hl2, hr1⟩))
theorem k_punch (h : LI I S c L P) (hk : k ≤ 600000) (hn : n ≤ 7000000) (hx : vp_in (i + 1) N ∧ vp_in (i + 2) N ∧ vp_in (i + 3) N ∧ vp_in (i + 4) N ∧ vp_in (i + 5) N) (nx : ∀ J S2 L2 P2, LI J S2 c L2 P2 → AA Ω m_L_law (LF Ω b N xs) (k + 10) (n + 60) 3664 (lvL b c i) [] J S2) : AA Ω m_L_law (LF Ω b N xs) k n 3172 (lvL b c i) [] I S := by
  obtain ⟨hl0, hr⟩ := id h
  have hL := hl0.LL
  have hLP := hl0.LP
  obtain ⟨o1, I1, v, J1, e1, e2, hR, hr1⟩ := Eqv_two (mo := fun A => s_X9_punch A (c + 128) (xs (i + 1).toNatClampNeg) (xs (i + 2).toNatClampNeg)) hr hL rfl (fun J hJ => q_punch (P := P) hJ hL (xs (i + 1).toNatClampNeg) (xs (i + 2).toNatClampNeg)) (fun r J z q hz => fr_X8_punch q (by omega) (by omega) (by omega)) (fun A r J z q hz => fr_X9_punch q (by omega) (by omega) (by omega))
  refine r_aload_n (pc' := 3173) dL_law_3172 rfl 4 rfl rfl ?_
  refine r_sarg (pc' := 3179) (ij := 1) 0 5 dL_law_3173 dL_law_3174 dL_law_3176 dL_law_3177 dL_law_3178 rfl rfl rfl hx.1 rfl ?_
  refine r_sarg (pc' := 3185) (ij := 2) 0 5 dL_law_3179 dL_law_3180 dL_law_3182 dL_law_3183 dL_law_3184 rfl rfl rfl hx.2.1 rfl ?_
  refine r_aload_n (pc' := 3186) dL_law_3185 rfl 2 rfl rfl ?_
  refine r_callSH (pc' := 3189) (k' := k + 4) (n' := n + 24) (As := [.ref c, .int (xs (i + 1).toNatClampNeg), .int (xs (i + 2).toNatClampNeg), .ref (c + 139)]) (rest := []) dL_law_3186 mb_L_punch ms_L_punch lw_L_383 rfl rfl (roomL (by omega) (by omega) rfl) rfl rfl (Nat.le_of_ble_eq_true rfl) rfl (w_punch hl0.1 hl0.2.2.1 e1 hR (fun S2 s1 s2 => cpI ?_))
  have hl2 := LI0_X hl0 s2
  refine r_istore (pc' := 3191) (lv' := (6, .int (J1 (c + 128) 0)) :: lvL b c i) dL_law_3189 (by decide) rfl rfl ?_
  refine r_aload_n (pc' := 3192) dL_law_3191 rfl 4 rfl rfl ?_
  refine r_sarg (pc' := 3198) (ij := 1) 1 6 dL_law_3192 dL_law_3193 dL_law_3195 dL_law_3196 dL_law_3197 rfl rfl rfl hx.1 rfl ?_
  refine r_sarg (pc' := 3204) (ij := 2) 1 6 dL_law_3198 dL_law_3199 dL_law_3201 dL_law_3202 dL_law_3203 rfl rfl rfl hx.2.1 rfl ?_
  refine r_callV2 (pc' := 3207) (k' := k + 4) (n' := n + 24) dL_law_3204 mb_X9_punch mi_X9_punch hl2.2.1.o (by decide) rfl lk_L_385 (roomL (by omega) (by omega) rfl) rfl rfl (Nat.le_of_ble_eq_true rfl) rfl (c_X9_punch hl2.2.1 e2 (cpI ?_))
  exact tail_Z dL_law_3207 dL_law_3209 dL_law_3210 dL_law_3213 dL_law_3215 dL_law_3220 dL_law_3222 dL_law_3225 dL_law_3226 dL_law_3227 dL_law_3228 dL_law_3230 dL_law_3233 dL_law_3234 dL_law_3237 dL_law_3238 dL_law_3239 dL_law_3244 (by decide) hl2 (fun q => by rw [s1 q]; exact sX_st) (by omega) (by omega) (aa_widen (by omega) (by omega) (nx _ _ _ _ ⟨hl2, hr1⟩))
theorem k_setCardColour (h : LI I S c L P) (hk : k ≤ 600000) (hn : n ≤ 7000000) (hx : vp_in (i + 1) N ∧ vp_in (i + 2) N ∧ vp_in (i + 3) N ∧ vp_in (i + 4) N ∧ vp_in (i + 5) N) (nx : ∀ J S2 L2 P2, LI J S2 c L2 P2 → AA Ω m_L_law (LF Ω b N xs) (k + 10) (n + 60) 3664 (lvL b c i) [] J S2) : AA Ω m_L_law (LF Ω b N xs) k n 3247 (lvL b c i) [] I S := by
  obtain ⟨hl0, hr⟩ := id h
  have hL := hl0.LL
  have hLP := hl0.LP
  obtain ⟨o1, I1, v, J1, e1, e2, hR, hr1⟩ := Eqv_two (mo := fun A => s_X9_setCardColour A (c + 128) (xs (i + 1).toNatClampNeg) (xs (i + 2).toNatClampNeg)) hr hL rfl (fun J hJ => q_setCardColour (P := P) hJ hL (xs (i + 1).toNatClampNeg) (xs (i + 2).toNatClampNeg)) (fun r J z q hz => fr_X8_setCardColour q (by omega) (by omega) (by omega)) (fun A r J z q hz => fr_X9_setCardColour q (by omega) (by omega) (by omega))
  refine r_aload_n (pc' := 3248) dL_law_3247 rfl 4 rfl rfl ?_
  refine r_sarg (pc' := 3254) (ij := 1) 0 5 dL_law_3248 dL_law_3249 dL_law_3251 dL_law_3252 dL_law_3253 rfl rfl rfl hx.1 rfl ?_
  refine r_sarg (pc' := 3260) (ij := 2) 0 5 dL_law_3254 dL_law_3255 dL_law_3257 dL_law_3258 dL_law_3259 rfl rfl rfl hx.2.1 rfl ?_
  refine r_aload_n (pc' := 3261) dL_law_3260 rfl 2 rfl rfl ?_
  refine r_callSH (pc' := 3264) (k' := k + 4) (n' := n + 24) (As := [.ref c, .int (xs (i + 1).toNatClampNeg), .int (xs (i + 2).toNatClampNeg), .ref (c + 139)]) (rest := []) dL_law_3261 mb_L_setCardColour ms_L_setCardColour lw_L_386 rfl rfl (roomL (by omega) (by omega) rfl) rfl rfl (Nat.le_of_ble_eq_true rfl) rfl (w_setCardColour hl0.1 hl0.2.2.1 e1 hR (fun S2 s1 s2 => cpI ?_))
  have hl2 := LI0_X hl0 s2
  refine r_istore (pc' := 3266) (lv' := (6, .int (J1 (c + 128) 0)) :: lvL b c i) dL_law_3264 (by decide) rfl rfl ?_
  refine r_aload_n (pc' := 3267) dL_law_3266 rfl 4 rfl rfl ?_
  refine r_sarg (pc' := 3273) (ij := 1) 1 6 dL_law_3267 dL_law_3268 dL_law_3270 dL_law_3271 dL_law_3272 rfl rfl rfl hx.1 rfl ?_
  refine r_sarg (pc' := 3279) (ij := 2) 1 6 dL_law_3273 dL_law_3274 dL_law_3276 dL_law_3277 dL_law_3278 rfl rfl rfl hx.2.1 rfl ?_
  refine r_callV2 (pc' := 3282) (k' := k + 4) (n' := n + 24) dL_law_3279 mb_X9_setCardColour mi_X9_setCardColour hl2.2.1.o (by decide) rfl lk_L_388 (roomL (by omega) (by omega) rfl) rfl rfl (Nat.le_of_ble_eq_true rfl) rfl (c_X9_setCardColour hl2.2.1 e2 (cpI ?_))
  exact tail_I dL_law_3282 dL_law_3284 dL_law_3285 dL_law_3288 dL_law_3290 dL_law_3295 dL_law_3297 dL_law_3300 dL_law_3301 dL_law_3302 dL_law_3303 dL_law_3305 dL_law_3306 dL_law_3307 dL_law_3312 (by decide) hl2 (fun q => by rw [s1 q]; exact sX_st) (by omega) (by omega) (aa_widen (by omega) (by omega) (nx _ _ _ _ ⟨hl2, hr1⟩))
theorem k_bringYarn (h : LI I S c L P) (hk : k ≤ 600000) (hn : n ≤ 7000000) (hx : vp_in (i + 1) N ∧ vp_in (i + 2) N ∧ vp_in (i + 3) N ∧ vp_in (i + 4) N ∧ vp_in (i + 5) N) (nx : ∀ J S2 L2 P2, LI J S2 c L2 P2 → AA Ω m_L_law (LF Ω b N xs) (k + 10) (n + 60) 3664 (lvL b c i) [] J S2) : AA Ω m_L_law (LF Ω b N xs) k n 3315 (lvL b c i) [] I S := by
  obtain ⟨hl0, hr⟩ := id h
  have hL := hl0.LL
  have hLP := hl0.LP
  obtain ⟨o1, I1, v, J1, e1, e2, hR, hr1⟩ := Eqv_two (mo := fun A => s_X9_bringYarn A (c + 128) (xs (i + 1).toNatClampNeg) (xs (i + 2).toNatClampNeg)) hr hL rfl (fun J hJ => q_bringYarn (P := P) hJ hL (xs (i + 1).toNatClampNeg) (xs (i + 2).toNatClampNeg)) (fun r J z q hz => fr_X8_bringYarn q (by omega) (by omega) (by omega)) (fun A r J z q hz => fr_X9_bringYarn q (by omega) (by omega) (by omega))
  refine r_aload_n (pc' := 3316) dL_law_3315 rfl 4 rfl rfl ?_
  refine r_sarg (pc' := 3322) (ij := 1) 0 5 dL_law_3316 dL_law_3317 dL_law_3319 dL_law_3320 dL_law_3321 rfl rfl rfl hx.1 rfl ?_
  refine r_sarg (pc' := 3328) (ij := 2) 0 5 dL_law_3322 dL_law_3323 dL_law_3325 dL_law_3326 dL_law_3327 rfl rfl rfl hx.2.1 rfl ?_
  refine r_aload_n (pc' := 3329) dL_law_3328 rfl 2 rfl rfl ?_
  refine r_callSH (pc' := 3332) (k' := k + 3) (n' := n + 18) (As := [.ref c, .int (xs (i + 1).toNatClampNeg), .int (xs (i + 2).toNatClampNeg), .ref (c + 139)]) (rest := []) dL_law_3329 mb_L_bringYarn ms_L_bringYarn lw_L_389 rfl rfl (roomL (by omega) (by omega) rfl) rfl rfl (Nat.le_of_ble_eq_true rfl) rfl (w_bringYarn hl0.1 hl0.2.2.1 e1 hR (fun S2 s1 s2 => cpI ?_))
  have hl2 := LI0_X hl0 s2
  refine r_istore (pc' := 3334) (lv' := (6, .int (J1 (c + 128) 0)) :: lvL b c i) dL_law_3332 (by decide) rfl rfl ?_
  refine r_aload_n (pc' := 3335) dL_law_3334 rfl 4 rfl rfl ?_
  refine r_sarg (pc' := 3341) (ij := 1) 1 6 dL_law_3335 dL_law_3336 dL_law_3338 dL_law_3339 dL_law_3340 rfl rfl rfl hx.1 rfl ?_
  refine r_sarg (pc' := 3347) (ij := 2) 1 6 dL_law_3341 dL_law_3342 dL_law_3344 dL_law_3345 dL_law_3346 rfl rfl rfl hx.2.1 rfl ?_
  refine r_callV2 (pc' := 3350) (k' := k + 3) (n' := n + 18) dL_law_3347 mb_X9_bringYarn mi_X9_bringYarn hl2.2.1.o (by decide) rfl lk_L_391 (roomL (by omega) (by omega) rfl) rfl rfl (Nat.le_of_ble_eq_true rfl) rfl (c_X9_bringYarn hl2.2.1 e2 (cpI ?_))
  exact tail_I dL_law_3350 dL_law_3352 dL_law_3353 dL_law_3356 dL_law_3358 dL_law_3363 dL_law_3365 dL_law_3368 dL_law_3369 dL_law_3370 dL_law_3371 dL_law_3373 dL_law_3374 dL_law_3375 dL_law_3380 (by decide) hl2 (fun q => by rw [s1 q]; exact sX_st) (by omega) (by omega) (aa_widen (by omega) (by omega) (nx _ _ _ _ ⟨hl2, hr1⟩))
theorem k_oil (h : LI I S c L P) (hk : k ≤ 600000) (hn : n ≤ 7000000) (hx : vp_in (i + 1) N ∧ vp_in (i + 2) N ∧ vp_in (i + 3) N ∧ vp_in (i + 4) N ∧ vp_in (i + 5) N) (nx : ∀ J S2 L2 P2, LI J S2 c L2 P2 → AA Ω m_L_law (LF Ω b N xs) (k + 10) (n + 60) 3664 (lvL b c i) [] J S2) : AA Ω m_L_law (LF Ω b N xs) k n 3383 (lvL b c i) [] I S := by
  obtain ⟨hl0, hr⟩ := id h
  have hL := hl0.LL
  have hLP := hl0.LP
  obtain ⟨o1, I1, v, J1, e1, e2, hR, hr1⟩ := Eqv_two (mo := fun A => s_X9_oil A (c + 128) (xs (i + 1).toNatClampNeg)) hr hL rfl (fun J hJ => q_oil (P := P) hJ hL (xs (i + 1).toNatClampNeg)) (fun r J z q hz => fr_X8_oil q (by omega) (by omega) (by omega)) (fun A r J z q hz => fr_X9_oil q (by omega) (by omega) (by omega))
  refine r_aload_n (pc' := 3384) dL_law_3383 rfl 4 rfl rfl ?_
  refine r_sarg (pc' := 3390) (ij := 1) 0 5 dL_law_3384 dL_law_3385 dL_law_3387 dL_law_3388 dL_law_3389 rfl rfl rfl hx.1 rfl ?_
  refine r_aload_n (pc' := 3391) dL_law_3390 rfl 2 rfl rfl ?_
  refine r_callSH (pc' := 3394) (k' := k + 2) (n' := n + 12) (As := [.ref c, .int (xs (i + 1).toNatClampNeg), .ref (c + 139)]) (rest := []) dL_law_3391 mb_L_oil ms_L_oil lw_L_392 rfl rfl (roomL (by omega) (by omega) rfl) rfl rfl (Nat.le_of_ble_eq_true rfl) rfl (w_oil hl0.1 hl0.2.2.1 e1 hR (fun S2 s1 s2 => cpI ?_))
  have hl2 := LI0_X hl0 s2
  refine r_istore (pc' := 3396) (lv' := (6, .int (J1 (c + 128) 0)) :: lvL b c i) dL_law_3394 (by decide) rfl rfl ?_
  refine r_aload_n (pc' := 3397) dL_law_3396 rfl 4 rfl rfl ?_
  refine r_sarg (pc' := 3403) (ij := 1) 1 6 dL_law_3397 dL_law_3398 dL_law_3400 dL_law_3401 dL_law_3402 rfl rfl rfl hx.1 rfl ?_
  refine r_callV1 (pc' := 3406) (k' := k + 2) (n' := n + 12) dL_law_3403 mb_X9_oil mi_X9_oil hl2.2.1.o (by decide) rfl lk_L_394 (roomL (by omega) (by omega) rfl) rfl rfl (Nat.le_of_ble_eq_true rfl) rfl (c_X9_oil hl2.2.1 e2 (cpI ?_))
  exact tail_I dL_law_3406 dL_law_3408 dL_law_3409 dL_law_3412 dL_law_3414 dL_law_3419 dL_law_3421 dL_law_3424 dL_law_3425 dL_law_3426 dL_law_3427 dL_law_3429 dL_law_3430 dL_law_3431 dL_law_3436 (by decide) hl2 (fun q => by rw [s1 q]; exact sX_st) (by omega) (by omega) (aa_widen (by omega) (by omega) (nx _ _ _ _ ⟨hl2, hr1⟩))
theorem k_mend (h : LI I S c L P) (hk : k ≤ 600000) (hn : n ≤ 7000000) (hx : vp_in (i + 1) N ∧ vp_in (i + 2) N ∧ vp_in (i + 3) N ∧ vp_in (i + 4) N ∧ vp_in (i + 5) N) (nx : ∀ J S2 L2 P2, LI J S2 c L2 P2 → AA Ω m_L_law (LF Ω b N xs) (k + 10) (n + 60) 3664 (lvL b c i) [] J S2) : AA Ω m_L_law (LF Ω b N xs) k n 3439 (lvL b c i) [] I S := by
  obtain ⟨hl0, hr⟩ := id h
  have hL := hl0.LL
  have hLP := hl0.LP
  obtain ⟨o1, I1, v, J1, e1, e2, hR, hr1⟩ := Eqv_two (mo := fun A => s_X9_mend A (c + 128) (xs (i + 1).toNatClampNeg)) hr hL rfl (fun J hJ => q_mend (P := P) hJ hL (xs (i + 1).toNatClampNeg)) (fun r J z q hz => fr_X8_mend q (by omega) (by omega) (by omega)) (fun A r J z q hz => fr_X9_mend q (by omega) (by omega) (by omega))
  refine r_aload_n (pc' := 3440) dL_law_3439 rfl 4 rfl rfl ?_
  refine r_sarg (pc' := 3446) (ij := 1) 0 5 dL_law_3440 dL_law_3441 dL_law_3443 dL_law_3444 dL_law_3445 rfl rfl rfl hx.1 rfl ?_
  refine r_aload_n (pc' := 3447) dL_law_3446 rfl 2 rfl rfl ?_
  refine r_callSH (pc' := 3450) (k' := k + 3) (n' := n + 18) (As := [.ref c, .int (xs (i + 1).toNatClampNeg), .ref (c + 139)]) (rest := []) dL_law_3447 mb_L_mend ms_L_mend lw_L_395 rfl rfl (roomL (by omega) (by omega) rfl) rfl rfl (Nat.le_of_ble_eq_true rfl) rfl (w_mend hl0.1 hl0.2.2.1 e1 hR (fun S2 s1 s2 => cpI ?_))
  have hl2 := LI0_X hl0 s2
  refine r_istore (pc' := 3452) (lv' := (6, .int (J1 (c + 128) 0)) :: lvL b c i) dL_law_3450 (by decide) rfl rfl ?_
  refine r_aload_n (pc' := 3453) dL_law_3452 rfl 4 rfl rfl ?_
  refine r_sarg (pc' := 3459) (ij := 1) 1 6 dL_law_3453 dL_law_3454 dL_law_3456 dL_law_3457 dL_law_3458 rfl rfl rfl hx.1 rfl ?_
  refine r_callV1 (pc' := 3462) (k' := k + 3) (n' := n + 18) dL_law_3459 mb_X9_mend mi_X9_mend hl2.2.1.o (by decide) rfl lk_L_397 (roomL (by omega) (by omega) rfl) rfl rfl (Nat.le_of_ble_eq_true rfl) rfl (c_X9_mend hl2.2.1 e2 (cpI ?_))
  exact tail_I dL_law_3462 dL_law_3464 dL_law_3465 dL_law_3468 dL_law_3470 dL_law_3475 dL_law_3477 dL_law_3480 dL_law_3481 dL_law_3482 dL_law_3483 dL_law_3485 dL_law_3486 dL_law_3487 dL_law_3492 (by decide) hl2 (fun q => by rw [s1 q]; exact sX_st) (by omega) (by omega) (aa_widen (by omega) (by omega) (nx _ _ _ _ ⟨hl2, hr1⟩))
theorem k_undo (h : LI I S c L P) (hk : k ≤ 600000) (hn : n ≤ 7000000) (hx : vp_in (i + 1) N ∧ vp_in (i + 2) N ∧ vp_in (i + 3) N ∧ vp_in (i + 4) N ∧ vp_in (i + 5) N) (nx : ∀ J S2 L2 P2, LI J S2 c L2 P2 → AA Ω m_L_law (LF Ω b N xs) (k + 10) (n + 60) 3664 (lvL b c i) [] J S2) : AA Ω m_L_law (LF Ω b N xs) k n 3495 (lvL b c i) [] I S := by
  obtain ⟨hl0, hr⟩ := id h
  have hL := hl0.LL
  have hLP := hl0.LP
  obtain ⟨o1, I1, v, J1, e1, e2, hR, hr1⟩ := Eqv_two (mo := fun A => s_X9_undo A (c + 128)) hr hL rfl (fun J hJ => q_undo (P := P) hJ hL) (fun r J z q hz => fr_X8_undo q (by omega) (by omega) (by omega)) (fun A r J z q hz => fr_X9_undo q (by omega) (by omega))
  refine r_aload_n (pc' := 3496) dL_law_3495 rfl 4 rfl rfl ?_
  refine r_aload_n (pc' := 3497) dL_law_3496 rfl 2 rfl rfl ?_
  refine r_callSH (pc' := 3500) (k' := k + 1) (n' := n + 6) (As := [.ref c, .ref (c + 139)]) (rest := []) dL_law_3497 mb_L_undo ms_L_undo lw_L_398 rfl rfl (roomL (by omega) (by omega) rfl) rfl rfl (Nat.le_of_ble_eq_true rfl) rfl (w_undo hl0.1 hl0.2.2.1 e1 hR (fun S2 s1 s2 => cpI ?_))
  have hl2 := LI0_X hl0 s2
  refine r_istore (pc' := 3502) (lv' := (6, .int (J1 (c + 128) 0)) :: lvL b c i) dL_law_3500 (by decide) rfl rfl ?_
  refine r_aload_n (pc' := 3503) dL_law_3502 rfl 4 rfl rfl ?_
  refine r_callV0 (pc' := 3506) (k' := k + 1) (n' := n + 6) dL_law_3503 mb_X9_undo mi_X9_undo hl2.2.1.o (by decide) rfl lk_L_400 (roomL (by omega) (by omega) rfl) rfl rfl (Nat.le_of_ble_eq_true rfl) rfl (c_X9_undo hl2.2.1 e2 (cpI ?_))
  exact tail_I dL_law_3506 dL_law_3508 dL_law_3509 dL_law_3512 dL_law_3514 dL_law_3519 dL_law_3521 dL_law_3524 dL_law_3525 dL_law_3526 dL_law_3527 dL_law_3529 dL_law_3530 dL_law_3531 dL_law_3536 (by decide) hl2 (fun q => by rw [s1 q]; exact sX_st) (by omega) (by omega) (aa_widen (by omega) (by omega) (nx _ _ _ _ ⟨hl2, hr1⟩))
theorem k_undoCount (h : LI I S c L P) (hk : k ≤ 600000) (hn : n ≤ 7000000) (hx : vp_in (i + 1) N ∧ vp_in (i + 2) N ∧ vp_in (i + 3) N ∧ vp_in (i + 4) N ∧ vp_in (i + 5) N) (nx : ∀ J S2 L2 P2, LI J S2 c L2 P2 → AA Ω m_L_law (LF Ω b N xs) (k + 10) (n + 60) 3664 (lvL b c i) [] J S2) : AA Ω m_L_law (LF Ω b N xs) k n 3539 (lvL b c i) [] I S := by
  obtain ⟨hl0, hr⟩ := id h
  have hL := hl0.LL
  have hLP := hl0.LP
  obtain ⟨v, e1, e2⟩ := v_undoCount (P := P) hr
  have hr1 : RR (stI I (c + 128) 0 0) (stI I (c + 128) 0 0) c L (c + 128) := RR_dep (RR_thr hr 0) hL (fun z z1 z2 => stI_ne (by omega)) (fun _ _ _ => rfl)
  have hl2 := hl0
  refine r_aload_n (pc' := 3540) dL_law_3539 rfl 4 rfl rfl ?_
  refine r_callV0 (pc' := 3543) (k' := k) (n' := n) dL_law_3540 mb_X8_undoCount mi_X8_undoCount hl0.1.o (by decide) rfl lk_L_401 (roomL (by omega) (by omega) rfl) rfl rfl (Nat.le_of_ble_eq_true rfl) rfl (c_X8_undoCount hl0.1 e1 (cpI ?_))
  refine r_aload_n (pc' := 3544) dL_law_3543 rfl 3 rfl rfl ?_
  refine r_callV0 (pc' := 3547) (k' := k) (n' := n) dL_law_3544 mb_X9_undoCount mi_X9_undoCount hl2.2.1.o (by decide) rfl lk_L_404 (roomL (by omega) (by omega) rfl) rfl rfl (Nat.le_of_ble_eq_true rfl) rfl (c_X9_undoCount hl2.2.1 e2 (cpI ?_))
  exact r_icmp_eq (tgt := 3664) (pc' := 3550) dL_law_3547 (by decide) rfl (fun _ => aa_widen (by omega) (by omega) (nx _ _ _ _ ⟨hl2, hr1⟩)) (fun q => absurd rfl q)
theorem k_saveState (h : LI I S c L P) (hk : k ≤ 600000) (hn : n ≤ 7000000) (hx : vp_in (i + 1) N ∧ vp_in (i + 2) N ∧ vp_in (i + 3) N ∧ vp_in (i + 4) N ∧ vp_in (i + 5) N) (nx : ∀ J S2 L2 P2, LI J S2 c L2 P2 → AA Ω m_L_law (LF Ω b N xs) (k + 10) (n + 60) 3664 (lvL b c i) [] J S2) : AA Ω m_L_law (LF Ω b N xs) k n 3552 (lvL b c i) [] I S := by
  obtain ⟨hl0, hr⟩ := id h
  have hL := hl0.LL
  have hLP := hl0.LP
  obtain ⟨o1, I1, v, J1, e1, e2, hR, hr1⟩ := Eqv_two (mo := fun A => s_X9_saveState A (c + 128) (xs (i + 1).toNatClampNeg)) hr hL rfl (fun J hJ => q_saveState (P := P) hJ hL (xs (i + 1).toNatClampNeg)) (fun r J z q hz => fr_X8_saveState q (by omega) (by omega) (by omega)) (fun A r J z q hz => fr_X9_saveState q (by omega) (by omega) (by omega))
  refine r_aload_n (pc' := 3553) dL_law_3552 rfl 4 rfl rfl ?_
  refine r_sarg (pc' := 3559) (ij := 1) 0 5 dL_law_3553 dL_law_3554 dL_law_3556 dL_law_3557 dL_law_3558 rfl rfl rfl hx.1 rfl ?_
  refine r_aload_n (pc' := 3560) dL_law_3559 rfl 2 rfl rfl ?_
  refine r_callSH (pc' := 3563) (k' := k + 2) (n' := n + 12) (As := [.ref c, .int (xs (i + 1).toNatClampNeg), .ref (c + 139)]) (rest := []) dL_law_3560 mb_L_saveState ms_L_saveState lw_L_405 rfl rfl (roomL (by omega) (by omega) rfl) rfl rfl (Nat.le_of_ble_eq_true rfl) rfl (w_saveState hl0.1 hl0.2.2.1 e1 hR (fun S2 s1 s2 => cpI ?_))
  have hl2 := LI0_X hl0 s2
  refine r_istore (pc' := 3565) (lv' := (6, .int (J1 (c + 128) 0)) :: lvL b c i) dL_law_3563 (by decide) rfl rfl ?_
  refine r_aload_n (pc' := 3566) dL_law_3565 rfl 4 rfl rfl ?_
  refine r_sarg (pc' := 3572) (ij := 1) 1 6 dL_law_3566 dL_law_3567 dL_law_3569 dL_law_3570 dL_law_3571 rfl rfl rfl hx.1 rfl ?_
  refine r_callV1 (pc' := 3575) (k' := k + 2) (n' := n + 12) dL_law_3572 mb_X9_saveState mi_X9_saveState hl2.2.1.o (by decide) rfl lk_L_407 (roomL (by omega) (by omega) rfl) rfl rfl (Nat.le_of_ble_eq_true rfl) rfl (c_X9_saveState hl2.2.1 e2 (cpI ?_))
  exact tail_I dL_law_3575 dL_law_3577 dL_law_3578 dL_law_3581 dL_law_3583 dL_law_3588 dL_law_3590 dL_law_3593 dL_law_3594 dL_law_3595 dL_law_3596 dL_law_3598 dL_law_3599 dL_law_3600 dL_law_3605 (by decide) hl2 (fun q => by rw [s1 q]; exact sX_st) (by omega) (by omega) (aa_widen (by omega) (by omega) (nx _ _ _ _ ⟨hl2, hr1⟩))
theorem k_restoreState (h : LI I S c L P) (hk : k ≤ 600000) (hn : n ≤ 7000000) (hx : vp_in (i + 1) N ∧ vp_in (i + 2) N ∧ vp_in (i + 3) N ∧ vp_in (i + 4) N ∧ vp_in (i + 5) N) (nx : ∀ J S2 L2 P2, LI J S2 c L2 P2 → AA Ω m_L_law (LF Ω b N xs) (k + 10) (n + 60) 3664 (lvL b c i) [] J S2) : AA Ω m_L_law (LF Ω b N xs) k n 3608 (lvL b c i) [] I S := by
  obtain ⟨hl0, hr⟩ := id h
  have hL := hl0.LL
  have hLP := hl0.LP
  obtain ⟨o1, I1, v, J1, e1, e2, hR, hr1⟩ := Eqv_two (mo := fun A => s_X9_restoreState A (c + 128) (xs (i + 1).toNatClampNeg)) hr hL rfl (fun J hJ => q_restoreState (P := P) hJ hL (xs (i + 1).toNatClampNeg)) (fun r J z q hz => fr_X8_restoreState q (by omega) (by omega) (by omega)) (fun A r J z q hz => fr_X9_restoreState q (by omega) (by omega))
  refine r_aload_n (pc' := 3609) dL_law_3608 rfl 4 rfl rfl ?_
  refine r_sarg (pc' := 3615) (ij := 1) 0 5 dL_law_3609 dL_law_3610 dL_law_3612 dL_law_3613 dL_law_3614 rfl rfl rfl hx.1 rfl ?_
  refine r_aload_n (pc' := 3616) dL_law_3615 rfl 2 rfl rfl ?_
  refine r_callSH (pc' := 3619) (k' := k + 2) (n' := n + 12) (As := [.ref c, .int (xs (i + 1).toNatClampNeg), .ref (c + 139)]) (rest := []) dL_law_3616 mb_L_restoreState ms_L_restoreState lw_L_408 rfl rfl (roomL (by omega) (by omega) rfl) rfl rfl (Nat.le_of_ble_eq_true rfl) rfl (w_restoreState hl0.1 hl0.2.2.1 e1 hR (fun S2 s1 s2 => cpI ?_))
  have hl2 := LI0_X hl0 s2
  refine r_istore (pc' := 3621) (lv' := (6, .int (J1 (c + 128) 0)) :: lvL b c i) dL_law_3619 (by decide) rfl rfl ?_
  refine r_aload_n (pc' := 3622) dL_law_3621 rfl 4 rfl rfl ?_
  refine r_sarg (pc' := 3628) (ij := 1) 1 6 dL_law_3622 dL_law_3623 dL_law_3625 dL_law_3626 dL_law_3627 rfl rfl rfl hx.1 rfl ?_
  refine r_callV1 (pc' := 3631) (k' := k + 2) (n' := n + 12) dL_law_3628 mb_X9_restoreState mi_X9_restoreState hl2.2.1.o (by decide) rfl lk_L_410 (roomL (by omega) (by omega) rfl) rfl rfl (Nat.le_of_ble_eq_true rfl) rfl (c_X9_restoreState hl2.2.1 e2 (cpI ?_))
  exact tail_I dL_law_3631 dL_law_3633 dL_law_3634 dL_law_3637 dL_law_3639 dL_law_3644 dL_law_3646 dL_law_3649 dL_law_3650 dL_law_3651 dL_law_3652 dL_law_3654 dL_law_3655 dL_law_3656 dL_law_3661 (by decide) hl2 (fun q => by rw [s1 q]; exact sX_st) (by omega) (by omega) (aa_widen (by omega) (by omega) (nx _ _ _ _ ⟨hl2, hr1⟩))
end CASE
