/-! brackets of the deck open and close -/
noncomputable def mOp (m : Nat) (kd : Int32) (J : JI) : Option JI :=
  bd (s_X9_goes J m) fun I9 => if (I9 m 10) ≤ 0 then (bd (s_X9_addsPart I9 m kd) fun I11 => lx (stI I11 m 20 ((I11 m 20) + 1)) fun I12 => gd (vp_in (I12 m 20) 4) <| lx (stI I12 (m + 9) (Int32.toNatClampNeg (I12 m 20)) kd) fun I14 => gd (vp_in (I14 m 20) 4) <| lx (stI I14 (m + 8) (Int32.toNatClampNeg (I14 m 20)) 0) fun I16 => gd (vp_in 7 2030) <| gd (vp_in 7 2030) <| lx (stI I16 (m + 1) (Int32.toNatClampNeg 7) (mxF (I16 (m + 1) (Int32.toNatClampNeg 7)) ((I16 m 20) + 1))) fun I19 => some I19) else (some I9)
noncomputable def mOpT (m : Nat) (kd : Int32) (J : JI) : Option JI := if (s_X9_is J m 5) = true then mOp m kd J else (lx (s_X9_faults J m 1) fun I20 => mOp m kd I20)
noncomputable def mOpG (m : Nat) (b1 : Bool) (kd : Int32) (J : JI) : Option JI := bd (s_X9_goes J m) fun I6 => if b1 = true then (bd2 (s_X9_readNumber I6 m 1 20) fun v33 I32 => mOpT m (100 + v33) I32) else mOpT m kd I6
section DKO
variable {I J I0 I' J' : JI} {g g' g0 : Nat → Int32} {p P d m N k y x B C l : Nat} {z : Nat → Nat}
theorem opens_eq {b1 b2 : Bool} (h1 : s_X9_isWord J m "repeat" = some b1) (h2 : s_X9_isWord J m "mirror" = some b2) : s_X9_opensPart J m = if J m 20 = 3 then mOpG m b1 (if b2 = true then 200 else 201) (s_X9_limits J m true) else mOpG m b1 (if b2 = true then 200 else 201) (s_X9_limits J m false) := by
  unfold s_X9_opensPart
  rw [h1, h2, bd_some, bd_some]
  cases b2 <;> rfl
theorem er_mOp (h : EM J m) (kd : Int32) : mOp m kd J = some J := by
  unfold mOp
  rw [er_goes h, bd_some, if_neg h.le]
theorem er_mOpT (h : EM J m) (kd : Int32) : mOpT m kd J = some J := by
  unfold mOpT
  rw [er_is h, if_neg Bool.false_ne_true, lx_s, er_faults h, er_mOp h]
theorem er_mOpG (h : EM J m) (b1 : Bool) (kd : Int32) : mOpG m b1 kd J = some J := by
  unfold mOpG
  rw [er_goes h, bd_some]
  cases b1
  · rw [if_neg Bool.false_ne_true, er_mOpT h]
  · rw [if_pos rfl, er_readNumber h, bd2_some, er_mOpT h]
theorem TS_dep2 (h : TS I J p m N k y x) (e0 : I' p = I p) (e1 : I' (p + 1) = I (p + 1)) (e2 : I' (p + 1 + 1) = I (p + 1 + 1)) (j0 : ∀ j, j < 17 → J' m j = J m j) (j6 : J' (m + 6) = J (m + 6)) : TS I' J' p m N k y x := by
  unfold TS TK TKp CT at *
  rw [e0, e1, e2, j0 12 (by omega), j0 13 (by omega), j0 14 (by omega), j0 15 (by omega), j0 16 (by omega), j0 10 (by omega), j0 11 (by omega), j6]
  exact h
theorem DS_open (hP : p + 3 ≤ P) (h : DS I J I0 g0 p P m N k y x B C l z) {c : Nat} (hl3 : l < 3) (hc : c = 101 ∨ c = 102 ∨ (201 ≤ c ∧ c ≤ 220)) (hB5 : B ≤ 505) (hB : ∀ y', x ≤ y' → B + pw (nI c) + 1 ≤ y') (hpw : 3 ≤ pw (nI c)) : ∃ I' J' k' y' x', s_X2_advance (x0_openPart I (P + 5) (nI c)) (p + 1) = some I' ∧ mOp m (pcd (nI c)) J = some J' ∧ DS I' J' I0 g0 p P m N k' y' x' (y' + eK k') C (l + 1) (upN z (l + 1) 0) ∧ x ≤ y' ∧ mxF (I' (P + 5) 4) 1 = I' (P + 5) 4 := by
  obtain ⟨t, ⟨f1, f2, f3⟩, hl, n, ⟨n1, n2⟩, n3, n4, n5⟩ := h
  have hb := DLs_b hl
  have hlen := hl.1.2.2.2
  have hA : x0_openPart I (P + 5) (nI c) = stI (stI (stI (stI (stI (stI I (P + 5 + 1) n (nI c)) (P + 5) 1 (nI (n + 1))) (P + 5 + 3) l (nI c)) (P + 5 + 4) l (I (P + 5) 3)) (P + 5) 7 (nI (l + 1))) (P + 5) 4 (mxF (I (P + 5) 4) (nI (l + 2))) := by
    unfold x0_openPart
    dsimp only
    rw [addPart_n n3 (by omega)]
    have e7 : stI (stI I (P + 5 + 1) n (nI c)) (P + 5) 1 (nI (n + 1)) (P + 5) 7 = nI l := by rw [stI_aj (by decide), stI_ne (by omega)]; exact hl.1.2.1
    rw [e7, ptI_nI hl3 (by omega)]
    have e7' : stI (stI (stI I (P + 5 + 1) n (nI c)) (P + 5) 1 (nI (n + 1))) (P + 5 + 3) l (nI c) (P + 5) 7 = nI l := by rw [stI_ne (by omega)]; exact e7
    have e3' : stI (stI (stI I (P + 5 + 1) n (nI c)) (P + 5) 1 (nI (n + 1))) (P + 5 + 3) l (nI c) (P + 5) 3 = I (P + 5) 3 := by rw [stI_ne (by omega), stI_aj (by decide), stI_ne (by omega)]
    rw [e7', e3', ptI_nI hl3 (by omega)]
    have e7'' : stI (stI (stI (stI I (P + 5 + 1) n (nI c)) (P + 5) 1 (nI (n + 1))) (P + 5 + 3) l (nI c)) (P + 5 + 4) l (I (P + 5) 3) (P + 5) 7 = nI l := by rw [stI_ne (by omega)]; exact e7'
    rw [e7'', nI_1, stI_at, nI_1]
    congr 2
    rw [stI_aj (by decide), stI_ne (by omega), stI_ne (by omega), stI_aj (by decide), stI_ne (by omega)]
  have fI : ∀ q, ¬ (P + 5 ≤ q ∧ q < P + 10) → x0_openPart I (P + 5) (nI c) q = I q := fun q hq => fr_x0_openPart (by omega)
  have t1 : TS (x0_openPart I (P + 5) (nI c)) J p m N k y x := TS_dep t (fI _ (by omega)) (fI _ (by omega)) (fI _ (by omega)) rfl rfl
  obtain ⟨I', J2, a, b, ⟨k', y', x', t2, r2, r3, r4, r5⟩, e⟩ := e_adv t1
  have j20 : J2 m 20 = nI l := (ff_X9_goes b (by decide) (by decide) (by decide) (by decide)).trans hl.1.2.2.1
  have j16 : J2 (m + 1) 6 = nI n := by rw [r5 _ (by omega)]; exact n4
  have j17 : J2 (m + 1) 7 = mxF (I (P + 5) 4) 1 := by rw [r5 _ (by omega)]; exact f3
  have hJ : mOp m (pcd (nI c)) J = some (stI (stI (stI (stI (stI (stI J2 (m + 1) (1764 + n) (pcd (nI c))) (m + 1) 6 (nI (n + 1))) m 20 (nI (l + 1))) (m + 9) (l + 1) (pcd (nI c))) (m + 8) (l + 1) 0) (m + 1) 7 (mxF (J2 (m + 1) 7) (nI (l + 2)))) := by
    unfold mOp
    rw [b, bd_some, if_pos (show J2 m 10 ≤ 0 by rw [t2.2.2.2.1]; exact Int32.le_refl 0), m_addsPart j16 (by omega), bd_some, lx_s, stI_ne (show m ≠ m + 1 by omega), stI_ne (show m ≠ m + 1 by omega), j20, nI_1, stI_at, gd_in (by omega) (by omega), cl_nI (by omega), lx_s, stI_ne (show m ≠ m + 9 by omega), stI_at, gd_in (by omega) (by omega), cl_nI (by omega), lx_s, gl7, gl7, cl7, lx_s]
    rw [stI_ne (show m ≠ m + 8 by omega), stI_ne (show m ≠ m + 9 by omega), stI_at, nI_1, stI_ne (show m + 1 ≠ m + 8 by omega), stI_ne (show m + 1 ≠ m + 9 by omega), stI_ne (show m + 1 ≠ m by omega), stI_aj (show 7 ≠ 6 by decide), stI_aj (show 7 ≠ 1764 + n by omega)]
  have gI : ∀ q, P + 5 ≤ q → q < P + 10 → I' q = x0_openPart I (P + 5) (nI c) q := fun q q1 q2 => r4 q (by omega) (by omega)
  have hd4 : I' (P + 5) 4 = mxF (I (P + 5) 4) (nI (l + 2)) := by rw [gI _ (by omega) (by omega), hA, stI_at]
  refine ⟨I', _, k', y', x', a, hJ, ⟨TS_dep2 t2 rfl rfl rfl (fun j hj => ?_) ?_, ⟨fun q q1 q2 q3 => ((r4 q q1 q2).trans (fI q q3)).trans (f1 q q1 q2 q3), fun j j1 j2 j3 => ?_, ?_⟩, ?_, ?_⟩, r2, ?_⟩
  · rw [stI_ne (by omega), stI_ne (by omega), stI_ne (by omega), stI_aj (by omega), stI_ne (by omega), stI_ne (by omega)]
  · rw [stI_ne (by omega), stI_ne (by omega), stI_ne (by omega), stI_ne (by omega), stI_ne (by omega), stI_ne (by omega)]
  · rw [stI_aj j3, stI_ne (by omega), stI_ne (by omega), stI_ne (by omega), stI_aj j2, stI_aj (by omega), r5 _ (by omega)]; exact f2 j j1 j2 j3
  · rw [stI_at, j17, mxF_1n, hd4]
  · refine DLs_open hl hl3 (show opC (nI c) from ⟨c, rfl, hc⟩) ?_ ?_ ?_ ?_ ?_ ?_ ?_ ?_ ?_ ?_ ?_ ?_ ?_
    · rw [gI _ (by omega) (by omega), hA, stI_aj (by decide), stI_at]
    · rw [gI _ (by omega) (by omega), hA, stI_aj (by decide), stI_aj (by decide), stI_ne (by omega), stI_ne (by omega), stI_aj (by decide), stI_ne (by omega)]
    · rw [gI _ (by omega) (by omega), hA, stI_ne (by omega), stI_ne (by omega), stI_ne (by omega), stI_ne (by omega), stI_ne (by omega), stI_ne (by omega)]
    · rw [gI _ (by omega) (by omega), hA, stI_ne (by omega), stI_ne (by omega), stI_ne (by omega), stI_at]
    · intro i hi; rw [gI _ (by omega) (by omega), hA, stI_ne (by omega), stI_ne (by omega), stI_ne (by omega), stI_aj (by omega), stI_ne (by omega), stI_ne (by omega)]
    · rw [gI _ (by omega) (by omega), hA, stI_ne (by omega), stI_ne (by omega), stI_at]
    · intro i hi; rw [gI _ (by omega) (by omega), hA, stI_ne (by omega), stI_ne (by omega), stI_aj (by omega), stI_ne (by omega), stI_ne (by omega), stI_ne (by omega)]
    · rw [stI_ne (by omega), stI_ne (by omega), stI_ne (by omega), stI_at]
    · rw [stI_ne (by omega), stI_at]
    · intro i hi; rw [stI_ne (by omega), stI_aj (by omega), stI_ne (by omega), stI_ne (by omega), stI_ne (by omega), stI_ne (by omega), r5 _ (by omega)]
    · rw [stI_ne (by omega), stI_ne (by omega), stI_ne (by omega), stI_ne (by omega), stI_ne (by omega), stI_ne (by omega), r5 _ (by omega)]
    · rw [stI_ne (by omega), stI_ne (by omega), stI_at]
    · intro i hi; rw [stI_ne (by omega), stI_ne (by omega), stI_aj (by omega), stI_ne (by omega), stI_ne (by omega), stI_ne (by omega), r5 _ (by omega)]
  · have := hB y' r2
    refine DPb_mk n5 (show pOK (nI c) from ⟨c, rfl, by omega⟩) ?_ ?_ ?_ ?_ ?_ ?_ (by omega) (by omega)
    · rw [gI _ (by omega) (by omega), hA, stI_aj (by decide), stI_aj (by decide), stI_ne (by omega), stI_ne (by omega), stI_at]
    · rw [stI_aj (by decide), stI_ne (by omega), stI_ne (by omega), stI_ne (by omega), stI_at]
    · rw [gI _ (by omega) (by omega), hA, stI_ne (by omega), stI_ne (by omega), stI_ne (by omega), stI_ne (by omega), stI_ne (by omega), stI_at]
    · intro j hj; rw [gI _ (by omega) (by omega), hA, stI_ne (by omega), stI_ne (by omega), stI_ne (by omega), stI_ne (by omega), stI_ne (by omega), stI_aj (by omega)]
    · rw [stI_aj (by omega), stI_ne (by omega), stI_ne (by omega), stI_ne (by omega), stI_aj (by omega), stI_at]
    · intro j hj; rw [stI_aj (by omega), stI_ne (by omega), stI_ne (by omega), stI_ne (by omega), stI_aj (by omega), stI_aj (by omega), r5 _ (by omega)]
  · rw [hd4]; exact mxF_ge _ (by omega) (by omega)
/-- the reference's loop over the picks of a part that closes -/
theorem l_close {c : Nat} (h : DLs I J d m C (l + 1) z) (hc2 : c = 101 ∨ c = 102 ∨ (201 ≤ c ∧ c ≤ 220)) (h0 : 0 < z (l + 1)) (hz : z l + pkN c (z (l + 1)) ≤ 100) : ∃ J', s_X9_closesPart_L82 m (pcd (nI c)) (nI (z (l + 1))) lf 0 J = some (nI (pkN c (z (l + 1))), J') ∧ (∀ q, q ≠ m + 7 → q ≠ m + 8 → J' q = J q) ∧ J' (m + 8) l = nI (z l + pkN c (z (l + 1))) ∧ (∀ i, i ≠ l → J' (m + 8) i = J (m + 8) i) ∧ (∀ j, j < pkN c (z (l + 1)) → J' (m + 7) (100 * l + z l + j) = J (m + 7) (100 * (l + 1) + plN c (z (l + 1)) j)) ∧ (∀ j, j < 100 * l + z l → J' (m + 7) j = J (m + 7) j) := by
  obtain ⟨⟨a1, a2, a3, a4⟩, b, cc⟩ := h
  have hn := (b (l + 1) (Nat.le_refl _)).1
  have hl := loopM (fun f J i => s_X9_closesPart_L82 m (pcd (nI c)) (nI (z (l + 1))) f i J) (fun t J' => (∀ q, q ≠ m + 7 → q ≠ m + 8 → J' q = J q) ∧ J' (m + 8) l = nI (z l + t) ∧ (∀ i, i ≠ l → J' (m + 8) i = J (m + 8) i) ∧ (∀ j, j < t → J' (m + 7) (100 * l + z l + j) = J (m + 7) (100 * (l + 1) + plN c (z (l + 1)) j)) ∧ (∀ j, ¬ (100 * l + z l ≤ j ∧ j < 100 * l + z l + t) → J' (m + 7) j = J (m + 7) j)) (fun J => (nI (pkN c (z (l + 1))), J)) 0 (pkN c (z (l + 1))) (fun f J' hJ => ?_) (fun f j J' _ hlt hJ => ?_) lf 0 J (Nat.le_refl 0) (Nat.zero_le _) (by unfold lf; omega) ⟨fun _ _ _ => rfl, (b l (by omega)).2.1, fun _ _ => rfl, fun j hj => absurd hj (Nat.not_lt_zero j), fun _ _ => rfl⟩
  · obtain ⟨J', ⟨h1, h2, h3, h4, h5⟩, h6⟩ := hl
    exact ⟨J', h6, h1, h2, h3, h4, fun j hj => h5 j (by omega)⟩
  · show s_X9_closesPart_L82 m (pcd (nI c)) (nI (z (l + 1))) (f + 1) (nI (pkN c (z (l + 1)))) J' = _
    rw [s_X9_closesPart_L82, mpwc_n hc2 h0 hn, if_pos (Int32.le_refl _)]
  · obtain ⟨h1, h2, h3, h4, h5⟩ := hJ
    obtain ⟨e1, e2⟩ := mplace_n hc2 h0 hn hlt
    show ∃ J'', _ ∧ s_X9_closesPart_L82 m (pcd (nI c)) (nI (z (l + 1))) (f + 1) (nI j) J' = _
    rw [s_X9_closesPart_L82, mpwc_n hc2 h0 hn, if_neg (nI_ge hlt (by omega)), e1, bd_some, h1 m (by omega) (by omega), a3, m_pickOf (by omega), bd_some, show nI (l + 1) - 1 = nI l from nI_pred l, m_addsPick (by omega) h2 (by omega), bd_some, nI_1]
    refine ⟨_, ⟨fun q q1 q2 => ?_, stI_at, fun i hi => ?_, fun i hi => ?_, fun i hi => ?_⟩, rfl⟩
    · rw [stI_ne q2, stI_ne q1]; exact h1 q q1 q2
    · rw [stI_aj hi, stI_ne (by omega)]; exact h3 i hi
    · rw [stI_ne (by omega)]
      by_cases e : i = j
      · subst e; rw [Nat.add_assoc, stI_at]; exact h5 _ (by omega)
      · rw [stI_aj (by omega)]; exact h4 i (by omega)
    · rw [stI_ne (by omega), stI_aj (by omega)]; exact h5 i (by omega)
theorem pcd_100 : pcd 100 = 300 := by decide +kernel
theorem pw_100 : pw 100 = 1 := by decide +kernel
theorem d_fail (h : DS I J I0 g0 p P m N k y x B C l z) : (∃ I', s_X5_fail I p P 4 = some (false, I') ∧ ER I' (s_X9_limits J m true) p m) ∧ (∃ I', s_X5_fail I p P 1 = some (false, I') ∧ ER I' (s_X9_faults J m 1) p m) ∧ s_X9_limits J m false = J := by
  obtain ⟨r1, r2, r3, r4⟩ := e_refuses h.1
  refine ⟨?_, ?_, r4⟩
  · rw [r2]; exact e_fail (P := P) h.1 (e := 4) (by omega)
  · exact e_fail (P := P) h.1 (e := 1) (by omega)
/-- a bracket closes, its list not empty -/
theorem DS_close (hP : p + 3 ≤ P) (h : DS I J I0 g0 p P m N k y x B C (l + 1) z) (h0 : 0 < z (l + 1)) (hB5 : B ≤ 505) (hB : ∀ y', x ≤ y' → B ≤ y') : (∃ I' J' k' y' x' z', s_X5_readClosing I p P = some (true, I') ∧ s_X9_closesPart J m = some J' ∧ DS I' J' I0 g0 p P m N k' y' x' (y' + eK k') C l z' ∧ x ≤ y' ∧ 0 < z' l ∧ I' (P + 5) 4 = I (P + 5) 4) ∨ (∃ I' J', s_X5_readClosing I p P = some (false, I') ∧ s_X9_closesPart J m = some J' ∧ ER I' J' p m) := by
  have h' := h
  obtain ⟨t, ⟨f1, f2, f3⟩, hl, n, ⟨n1, n2⟩, n3, n4, n5⟩ := h
  have hb := DLs_b hl
  have hlen := hl.1.2.2.2
  have hst := DLs_start hl
  obtain ⟨c1, ⟨c, c2, c3⟩, c4⟩ := hl.2.2 l (by omega)
  have hst1 : stt z (l + 1) = stt z l + z l := rfl
  have hb1 : stt z l ≤ 100 * l := stt_b l fun i hi => (hl.2.1 i (by omega)).1
  have hzl := (hl.2.1 l (by omega)).1
  have hn := hb.2.1
  obtain ⟨hpk, hpk0⟩ := pkN_b c3 hn
  unfold s_X5_readClosing s_X9_closesPart
  rw [hst, cl_nI (by omega), gd_i rfl, hlen, cl_nI (by omega), show stt z (l + 1) + z (l + 1) - stt z (l + 1) - 1 = z (l + 1) - 1 by omega, gd_i (show nI (stt z (l + 1) + z (l + 1)) = nI (stt z (l + 1) + (z (l + 1) - 1) + 1) by congr 1; omega), gd_i (show stt z (l + 1) + (z (l + 1) - 1) + 1 ≤ 400 by omega)]
  have hstl : x0_start I (P + 5) (I (P + 5) 7 - 1) = nI (stt z l) := by
    rw [hl.1.2.1, nI_pred]
    unfold x0_start
    by_cases e : l = 0
    · subst e; rw [if_pos (show nI 0 ≤ 0 from Int32.le_refl 0)]; rfl
    · obtain ⟨l', rfl⟩ : ∃ l', l = l' + 1 := ⟨l - 1, by omega⟩
      rw [if_neg (nI_nle (by omega) (by omega)), nI_pred, atF_nI (by omega) (by omega)]; exact (hl.2.2 l' (by omega)).1
  have hcode : atF (I (P + 5 + 3)) 3 (I (P + 5) 7 - 1) = nI c := by
    rw [hl.1.2.1, nI_pred, atF_nI (by omega) (by omega)]; exact c2
  have hB2 : x0_closeB I (P + 5) = decide (z l + pkN c (z (l + 1)) ≤ 100) := by
    unfold x0_closeB
    rw [hst, hstl, hcode, hlen, nI_sub (by omega), nI_sub (by omega), show stt z (l + 1) - stt z l = z l by omega, show stt z (l + 1) + z (l + 1) - stt z (l + 1) = z (l + 1) by omega, pwc_n c3 h0 hn, nI_add]
    by_cases q : z l + pkN c (z (l + 1)) ≤ 100
    · rw [decide_eq_true q]; exact decide_eq_true (nI_le (b := 100) q (by omega))
    · rw [decide_eq_false q]; exact decide_eq_false (nI_ge (a := 100) (by omega) (by omega))
  rw [hl.1.2.2.1, gd_in (by omega) (by omega), cl_nI (by omega), lx_s (J (m + 8) (l + 1)), gd_in (by omega) (by omega), lx_s (J (m + 9) (l + 1)), (hl.2.1 (l + 1) (Nat.le_refl _)).2.1, c4, c2, if_neg (nI_ne0 h0 (by omega)), mpwc_n c3 h0 hn, show nI (l + 1) - 1 = nI l from nI_pred l, gd_in (show l < 4 by omega) (by omega), cl_nI (show l < 2 ^ 31 by omega), (hl.2.1 l (by omega)).2.1, nI_add]
  obtain ⟨⟨I4, a4, e4⟩, -, r4⟩ := d_fail h'
  by_cases q : z l + pkN c (z (l + 1)) ≤ 100
  · rw [if_neg (show ¬ (100 : Int32) < nI (pkN c (z (l + 1))) from nI_nlt (a := 100) (by omega) (by omega)), if_pos (show nI (z l + pkN c (z (l + 1))) ≤ 100 from nI_le (b := 100) q (by omega)), lx_s (s_X9_limits J m false), r4, if_pos (show J m 10 ≤ 0 by rw [t.2.2.2.1]; exact Int32.le_refl 0)]
    obtain ⟨J3, o1, o2, o3, o4, o5, o6⟩ := l_close hl c3 h0 q
    have j16 : J3 (m + 1) 6 = nI n := by rw [o2 _ (by omega) (by omega)]; exact n4
    rw [o1, bd_some]
    obtain ⟨⟨p1, p2, p3, p4⟩, p5⟩ := closeI_n (I := I) (d := P + 5) (a := stt z (l + 1)) c3 h0 hn hlen (by omega)
    have e1 : x0_closeI I (P + 5) (stt z (l + 1)) (z (l + 1) - 1) (nI c) (P + 5) 1 = nI n := by rw [p4 1 (by decide)]; exact n3
    have hA : x0_close I (P + 5) (stt z (l + 1)) (z (l + 1) - 1) = stI (stI (stI (x0_closeI I (P + 5) (stt z (l + 1)) (z (l + 1) - 1) (nI c)) (P + 5 + 1) n 100) (P + 5) 1 (nI (n + 1))) (P + 5) 7 (nI l) := by
      unfold x0_close
      rw [hB2, decide_eq_true q, if_pos rfl, hcode, addPart_n e1 (by omega)]
      congr 1
      rw [stI_aj (by decide), stI_ne (by omega), p4 7 (by decide), hl.1.2.1, nI_pred]
    generalize x0_closeI I (P + 5) (stt z (l + 1)) (z (l + 1) - 1) (nI c) = CI at p1 p2 p3 p4 p5 e1 hA
    have hD : DS (x0_close I (P + 5) (stt z (l + 1)) (z (l + 1) - 1)) (stI (stI (stI J3 (m + 1) (1764 + n) 300) (m + 1) 6 (nI (n + 1))) m 20 (nI l)) I0 g0 p P m N k y x B C l (upN z l (z l + pkN c (z (l + 1)))) := by
      have fI : ∀ q, ¬ (P + 5 ≤ q ∧ q < P + 10) → x0_close I (P + 5) (stt z (l + 1)) (z (l + 1) - 1) q = I q := fun q hq => fr_x0_close (by omega)
      refine ⟨TS_dep2 t (fI _ (by omega)) (fI _ (by omega)) (fI _ (by omega)) (fun j hj => ?_) ?_, ⟨fun q q1 q2 q3 => (fI q q3).trans (f1 q q1 q2 q3), fun j j1 j2 j3 => ?_, ?_⟩, ?_, ?_⟩
      · rw [stI_aj (by omega), stI_ne (by omega), stI_ne (by omega), o2 _ (by omega) (by omega)]
      · rw [stI_ne (by omega), stI_ne (by omega), stI_ne (by omega), o2 _ (by omega) (by omega)]
      · rw [stI_ne (by omega), stI_aj j2, stI_aj (by omega), o2 _ (by omega) (by omega)]; exact f2 j j1 j2 j3
      · rw [stI_ne (by omega), stI_aj (by decide), stI_aj (by omega), o2 _ (by omega) (by omega), f3, hA, stI_aj (by decide), stI_aj (by decide), stI_ne (by omega), p4 4 (by decide)]
      · refine DLs_close hl c2 c3 h0 q ?_ ?_ ?_ ?_ ?_ ?_ stI_at ?_ ?_ ?_ ?_ ?_
        · rw [hA, stI_at]
        · rw [hA, stI_aj (by decide), stI_aj (by decide), stI_ne (by omega)]; exact p1
        · intro j hj; rw [hA, stI_ne (by omega), stI_ne (by omega), stI_ne (by omega), p2 j (by omega)]
        · intro j hj; rw [hA, stI_ne (by omega), stI_ne (by omega), stI_ne (by omega)]; exact p5 j hj
        · rw [hA, stI_ne (by omega), stI_ne (by omega), stI_ne (by omega), p3 _ (by omega) (by omega)]
        · rw [hA, stI_ne (by omega), stI_ne (by omega), stI_ne (by omega), p3 _ (by omega) (by omega)]
        · rw [stI_ne (by omega), stI_ne (by omega), stI_ne (by omega)]; exact o3
        · intro i hi; rw [stI_ne (by omega), stI_ne (by omega), stI_ne (by omega)]; exact o4 i (by omega)
        · intro j hj; rw [stI_ne (by omega), stI_ne (by omega), stI_ne (by omega)]; exact o5 j hj
        · intro j hj; rw [stI_ne (by omega), stI_ne (by omega), stI_ne (by omega)]; exact o6 j hj
        · rw [stI_ne (by omega), stI_ne (by omega), stI_ne (by omega), o2 _ (by omega) (by omega)]
      · refine DPb_mk n5 (show pOK 100 from ⟨100, rfl, by omega⟩) ?_ ?_ ?_ ?_ ?_ ?_ (by rw [pw_100]; omega) (by omega)
        · rw [hA, stI_aj (by decide), stI_at]
        · rw [stI_ne (by omega), stI_at]
        · rw [hA, stI_ne (by omega), stI_ne (by omega), stI_at]
        · intro j hj; rw [hA, stI_ne (by omega), stI_ne (by omega), stI_aj (by omega), p3 _ (by omega) (by omega)]
        · rw [stI_ne (by omega), stI_aj (by omega), stI_at, pcd_100]
        · intro j hj; rw [stI_ne (by omega), stI_aj (by omega), stI_aj (by omega), o2 _ (by omega) (by omega)]
    have hd4 : x0_close I (P + 5) (stt z (l + 1)) (z (l + 1) - 1) (P + 5) 4 = I (P + 5) 4 := by
      rw [hA, stI_aj (by decide), stI_aj (by decide), stI_ne (by omega), p4 4 (by decide)]
    obtain ⟨I5, J5, k5, y5, x5, a5, b5, g5, l5, -, w5⟩ := d_adv hP hD (fun k' y' h1 _ => by have := hB y' h1; omega)
    left
    refine ⟨I5, J5, k5, y5, x5, _, ?_, ?_, g5, l5, ?_, ?_⟩
    · rw [hB2, decide_eq_true q, lx_s, lx_s, if_pos rfl, a5, bd_some]
    · show bd (s_X9_addsPart J3 m 300) _ = _
      rw [m_addsPart j16 (by omega), bd_some, lx_s, stI_ne (show m ≠ m + 1 by omega), stI_ne (show m ≠ m + 1 by omega), o2 m (by omega) (by omega), hl.1.2.2.1, show nI (l + 1) - 1 = nI l from nI_pred l, b5, bd_some]
    · rw [upN_eq]; have := hpk0 h0; omega
    · rw [w5 _ (by omega)]; exact hd4
  · have hA : x0_close I (P + 5) (stt z (l + 1)) (z (l + 1) - 1) = I := by
      unfold x0_close
      rw [hB2, decide_eq_false q, if_neg Bool.false_ne_true]
    right
    refine ⟨I4, s_X9_limits J m true, ?_, ?_, e4⟩
    · rw [hB2, hA, decide_eq_false q, lx_s, lx_s, if_neg Bool.false_ne_true, a4, bd2_some]
    · by_cases q2 : (100 : Int32) < nI (pkN c (z (l + 1)))
      · rw [if_pos q2, lx_s, if_neg e4.em.le]
      · rw [if_neg q2, if_neg (show ¬ nI (z l + pkN c (z (l + 1))) ≤ 100 from nI_ge (a := 100) (by omega) (by omega)), lx_s, if_neg e4.em.le]
end DKO
