/-! the law's text: its end, and the whole -/
def ldN (x : Nat) (on : Nat → Nat) : Nat → Nat
  | 0 => 0
  | j + 1 => ldN x on j + (if x.testBit (on j) then 1 else 0)
theorem ldN_le (x : Nat) (on : Nat → Nat) (j : Nat) : ldN x on j ≤ j := by
  induction j with
  | zero => exact Nat.le_refl _
  | succ j ih => rw [ldN]; split <;> omega
theorem up_bit {x k : Nat} (hx : x < 8) (hk : k < 3) : (nI x >>> (nI k &&& 31)) &&& 1 = nI (if x.testBit k then 1 else 0) := by
  have h : ∀ (x : Fin 8) (k : Fin 3), (nI x.val >>> (nI k.val &&& 31)) &&& 1 = nI (if x.val.testBit k.val then 1 else 0) := by decide +kernel
  exact h ⟨x, hx⟩ ⟨k, hk⟩
theorem upI_eq {x : Nat} {f : Nat → Int32} {on : Nat → Nat} (hx : x < 8) (h : ∀ w, w < 4 → f w = nI (on w) ∧ on w < 3) : ∀ j, j ≤ 4 → upI (nI x) f j = nI (ldN x on j) := by
  intro j
  induction j with
  | zero => intro _; rfl
  | succ j ih =>
    intro hj
    rw [upI, ih (by omega), (h j (by omega)).1, up_bit hx (h j (by omega)).2, nI_add, ldN]
def TXt (T : TP) (a b c t : Nat) : List Nat := ((TXh T ++ TXw T (tW T)) ++ (TXB T 0 ++ (TXB T 1 ++ (TXB T 2 ++ (TXC T 0 ++ (TXC T 1 ++ TXC T 2)))))) ++ TXd a b c t
/-- the text's end -/
def TE (T : TP) (pk E : List Nat) : Prop := E = [] ∨ ∃ many, (1 ≤ many ∧ many ≤ 4) ∧ (E = tb ";weave " ++ dg many ∨ E = tb ";weave " ++ (dg many ++ tb ";unweave 1")) ∧ ∀ i, i < many → ldN (tLi T (pk.getD i 0)) (tOn T) (tW T) ≤ tM T
set_option maxHeartbeats 8000000 in
theorem l_text_e {Ω : JO} {Q : JQ} {I I0 : JI} {S S0 : JS} {L0 : List Nat} {d b : Nat} {D : DP} {T : TP} {pk t : List Nat} {v : Int32} (hv : TV T) (hpk : ∀ x, x ∈ pk → x < 3) (h11 : 11 ≤ pk.length) (h : TS (fun S I => DK Ω L0 S I d D (oE Ω) (oE Ω) 0 0) L0 I0 S0 S I b t 290) (hD : DT T pk D I) (hQ : ∀ z E I' S', TE T pk E → STk S' I' z (t ++ E) → Kp (fun c => c ∉ L0) I0 S0 I' S' → ((d ∈ sL S' ∧ sK S' d = 9) ∧ sR S' d 12 = some (pA D 12) ∧ ArE 11 S' (pA D 12) (pP D)) → z ∉ L0 → sT S' = none → (∀ w, sR S' z 0 = some w → w ∉ L0) → Q (.inl (some (.ref z))) I' S') : AA Ω m_L_text (FQ Ω m_L_text Q) 110 200100 478 [(2, .ref b), (0, .ref d), (1, .int v)] [] I S := by
  obtain ⟨⟨v1, v2⟩, ⟨v3, v4⟩, v5, ⟨v6, v7⟩, ⟨v8, v9⟩, v10, v11⟩ := hv
  obtain ⟨⟨p1, p2, p3, p4⟩, p5, p6, p7, p8, p9⟩ := id hD
  have hld : ∀ {m : Nat} {D1 : DP}, (∀ i c, i < 1 + m → c < 3 → ppk D1 i = nI c → ¬ nI (pmt D1) < upI (pcd D1 c 0) (pon D1) (pW D1)) → m < 4 → ppk D1 = ppk D → pmt D1 = pmt D → pW D1 = pW D → pon D1 = pon D → (∀ k, k < 3 → pcd D1 k 0 = pcd D k 0) → ∀ i, i < 1 + m → ldN (tLi T (pk.getD i 0)) (tOn T) (tW T) ≤ tM T := by
    intro m D1 hl hm g1 g2 g3 g4 g5 i hi
    have hc : pk.getD i 0 < 3 := hpk _ (getD_mem (by omega))
    have := hl i _ hi hc (by rw [g1]; exact p7 i (by omega))
    rw [g2, g3, g4, g5 _ hc, p6 _ hc, p2, p4, upI_eq (x := tLi T (pk.getD i 0)) (Nat.lt_of_lt_of_le (v11 _ hc).1 (Nat.pow_le_pow_right (by decide) v2)) (fun x hx => ⟨p5 x hx, by have := (v10 x hx).1; omega⟩) (tW T) v9] at this
    have hle := ldN_le (tLi T (pk.getD i 0)) (tOn T) (tW T)
    rcases Nat.lt_or_ge (tM T) (ldN (tLi T (pk.getD i 0)) (tOn T) (tW T)) with e | e
    · exact absurd (nI_lt e (by omega)) this
    · exact e
  refine r_iconst (pc' := 479) (v := 1) dL_text_478 (by decide) rfl ?_
  refine r_iload_n (pc' := 480) dL_text_479 rfl 2 rfl rfl ?_
  refine r_bipush (pc' := 482) (v := 7) dL_text_480 (by decide) rfl ?_
  refine r_iushr (pc' := 483) dL_text_482 rfl ?_
  refine r_iconst (pc' := 484) (v := 3) dL_text_483 (by decide) rfl ?_
  refine r_iandM (q := 2) (pc' := 485) dL_text_484 (by decide) rfl rfl (fun m hm => ?_)
  refine r_iaddv (pc' := 486) dL_text_485 (nI_add 1 m) rfl ?_
  refine r_istore (pc' := 488) (lv' := [(9, _), (2, _), (0, _), (1, _)]) dL_text_486 (by decide) rfl rfl ?_
  refine r_aload_n (pc' := 489) dL_text_488 rfl 2 rfl rfl ?_
  refine r_callV (pc' := 492) (k' := 130) (n' := 200400) (nn := 0) (As := []) (rest := []) dL_text_489 mb_X9_copy mi_X9_copy (DK.o h.x) (by decide) rfl lk_L_120 rfl rfl rfl rfl rfl (Nat.le_of_ble_eq_true rfl) rfl (c_X9_copy h.x hD.2.2.2.2.2 (fun q D1 I1 S1 hq1 hq2 hq3 K1 => (cpR ?_)))
  have e1' : pmt D1 = pmt D := congrArg (fun q => q.1.2.2.2.2) hq2
  have e2' : pon D1 = pon D := congrArg (fun q => q.2.1) hq2
  have e3 : ppk D1 = ppk D := congrArg (fun q => q.2.2) hq2
  have e4 : pW D1 = pW D := congrArg (fun q => q.1.2.1) hq2
  refine r_astore (pc' := 494) (lv' := [(10, _), (9, _), (2, _), (0, _), (1, _)]) dL_text_492 (by decide) rfl rfl ?_
  refine r_aload (pc' := 496) dL_text_494 0 rfl rfl ?_
  refine r_iload (pc' := 498) dL_text_496 1 rfl rfl ?_
  refine r_callV (pc' := 501) (k' := 1130) (n' := 220400) (nn := 1) (As := [_]) (rest := []) dL_text_498 mb_X9_weaves mi_X9_weaves hq1.o (by decide) rfl lk_L_124 rfl rfl rfl rfl rfl (Nat.le_of_ble_eq_true rfl) rfl (c_X9_weaves hq1 (fun x hx => (K1 x hx).1) (show 1 + m ≤ 8 by omega) (fun r e1 e2 I2 S2 hr hpos hup hdk K2 => (cpI ?_)))
  have K12 : Kp (fun _ => False) I S I2 S2 := fun c hc => by
    obtain ⟨k1, k2, k3, k4⟩ := K1 c hc
    obtain ⟨g1, g2, g3, g4⟩ := K2 c k1
    obtain ⟨y1, y2, y3⟩ := k4 id
    obtain ⟨z1, z2, z3⟩ := g4 (fun q => q.1 hc)
    exact ⟨g1, g2.trans k2, g3.trans k3, fun _ => ⟨z1.trans y1, z2.trans y2, z3.trans y3⟩⟩
  have h2 : TS (fun S I => DK Ω L0 S I d D (oE Ω) (oE Ω) 0 0) L0 I0 S0 S2 I2 b t 290 := h.stF DK.tk K12 hdk.T
  refine r_iload (pc' := 503) dL_text_501 1 rfl rfl ?_
  refine r_icmp_ge (tgt := 511) (pc' := 506) dL_text_503 rfl rfl (fun h503 => ?_) (fun h503 => ?_)
  · have er : r = 1 + m := by
      rcases Nat.lt_or_ge r (1 + m) with e | e
      · exact absurd h503 (show ¬ nI (1 + m) ≤ nI r from nI_ge e (by omega))
      · omega
    have hload := hup er
    refine r_aload_n (pc' := 512) dL_text_511 rfl 3 rfl rfl ?_
    refine r_iload (pc' := 514) dL_text_512 1 rfl rfl ?_
    refine r_callV (pc' := 517) (k' := 2130) (n' := 240400) (nn := 1) (As := [_]) (rest := []) dL_text_514 mb_X9_weaves mi_X9_weaves h2.x.o (by decide) rfl lk_L_124 rfl rfl rfl rfl rfl (Nat.le_of_ble_eq_true rfl) rfl (c_X9_weaves (DK.kp h.x K12 hdk.T) h2.2.2.2.2.1 (show 1 + m ≤ 8 by omega) (fun r2 f1 f2 I3 S3 hr2 hpos2 hup2 hdk2 K3 => (cpI ?_)))
    have h3 : TS (fun S I => DK Ω L0 S I d D f1 f2 r2 r2) L0 I0 S0 S3 I3 b t 290 := h2.stp K3 hdk2.T hdk2 (fun c _ q => ⟨q.1, by rcases q.2 with e | e | e | e <;> rw [e] <;> decide, by rcases q.2 with e | e | e | e <;> rw [e] <;> decide⟩)
    have hr2p : 0 < r2 := hpos2 (by omega) (fun f hf => by obtain ⟨y, y1, y2, y3⟩ := hD.2.2.2.2.1 f hf; exact ⟨y, y1, y2, by rw [K12.gI (DK.a10 h.x).1 id]; exact y3⟩) (fun c hc hpc => by
      have := hload 0 c (by omega) hc (by rw [show ppk D1 = ppk D from e3]; exact hpc)
      rw [show pmt D1 = pmt D from e1', show pW D1 = pW D from e4, show pon D1 = pon D from e2', (hq3 c hc).1] at this; exact this)
    obtain ⟨r3, rfl⟩ : ∃ r3, r2 = r3 + 1 := ⟨r2 - 1, by omega⟩
    have h := h3
    refine r_istore (pc' := 519) (lv' := [(11, _), (10, _), (9, _), (2, _), (0, _), (1, _)]) dL_text_517 (by decide) rfl rfl ?_
    refine r_aload_n (pc' := 520) dL_text_519 rfl 3 rfl rfl ?_
    refine r_ldcS (pc' := 522) dL_text_520 sw_L_132 rfl ?_
    refine r_callV (pc' := 525) (k' := 2131) (n' := 242400) (nn := 1) (As := [_]) (rest := []) dL_text_522 mb_J4_append_15ec4 mi_J4_append_15ec4 h.o (by decide) rfl lk_L_88 rfl rfl rfl rfl rfl (Nat.le_of_ble_eq_true rfl) rfl (c_apS sw_L_132 7 h DK.tk (by decide +kernel) (by decide +kernel) (by omega) (fun I S h => (cpR ?_)))
    refine r_iload (pc' := 527) dL_text_525 2 rfl rfl ?_
    refine r_callV (pc' := 530) (k' := 2132) (n' := 244400) (nn := 1) (As := [_]) (rest := []) dL_text_527 mb_J4_append_bf812 mi_J4_append_bf812 h.o (by decide) rfl lk_L_78 rfl rfl rfl rfl rfl (Nat.le_of_ble_eq_true rfl) rfl (c_apI (u := 1 + m) h DK.tk (by omega) (by omega) (fun I S h => (cpR ?_)))
    refine r_pop (pc' := 531) dL_text_530 rfl rfl ?_
    refine r_iload_n (pc' := 532) dL_text_531 rfl 5 rfl rfl ?_
    refine r_bipush (pc' := 534) (v := 9) dL_text_532 (by decide) rfl ?_
    refine r_iushr (pc' := 535) dL_text_534 rfl ?_
    refine r_iconst (pc' := 536) (v := 1) dL_text_535 (by decide) rfl ?_
    refine r_iand (pc' := 537) dL_text_536 rfl ?_
    refine r_if_ne (tgt := 552) (pc' := 540) dL_text_537 rfl rfl (fun h537 => ?_) (fun h537 => ?_)
    · refine r_aload_n (pc' := 553) dL_text_552 rfl 3 rfl rfl ?_
      refine r_callV (pc' := 556) (k' := 2135) (n' := 247400) (nn := 0) (As := []) (rest := []) dL_text_553 mb_J4_toString_0e30d mi_J4_toString_0e30d h.o (by decide) rfl lk_L_128 rfl rfl rfl rfl rfl (Nat.le_of_ble_eq_true rfl) rfl (c_apZ h (by omega) (fun z I5 S5 hz hs K5 hT5 hw5 => (cpR ?_)))
      exact r_aret dL_text_556 rfl (Or.inl ⟨_, rfl⟩) (Or.inr ⟨_, rfl⟩) (by decide) (by decide) (hQ z _ _ _ (Or.inr ⟨1 + m, ⟨by omega, by omega⟩, Or.inl rfl, (hld hload (by omega) e3 e1' e4 e2' (fun k hk => (hq3 k hk).1))⟩) (by rw [List.append_assoc] at hs; exact hs) (h.2.1.tr (K5.mono fun _ _ e => e.elim)) ⟨K5.o (DK.o h.x), by rw [K5.gR (DK.o h.x).1 id]; exact (DK.rr h.x) 12 (by decide) (by decide), K5.ar hT5 (DK.a12 h.x)⟩ (fun q => hz (h.2.2.2.2.1 _ q)) hT5 (fun w hw q => hw5 w hw (h.2.2.2.2.1 _ q)))
    · refine r_aload_n (pc' := 541) dL_text_540 rfl 3 rfl rfl ?_
      refine r_ldcS (pc' := 543) dL_text_541 sw_L_134 rfl ?_
      refine r_callV (pc' := 546) (k' := 2133) (n' := 246400) (nn := 1) (As := [_]) (rest := []) dL_text_543 mb_J4_append_15ec4 mi_J4_append_15ec4 h.o (by decide) rfl lk_L_88 rfl rfl rfl rfl rfl (Nat.le_of_ble_eq_true rfl) rfl (c_apS sw_L_134 10 h DK.tk (by decide +kernel) (by decide +kernel) (by omega) (fun I S h => (cpR ?_)))
      refine r_pop (pc' := 547) dL_text_546 rfl rfl ?_
      refine r_aload_n (pc' := 548) dL_text_547 rfl 4 rfl rfl ?_
      refine r_iconst (pc' := 549) (v := 1) dL_text_548 (by decide) rfl ?_
      refine r_callV (pc' := 552) (k' := 2143) (n' := 246500) (nn := 1) (As := [_]) (rest := []) dL_text_549 mb_X9_unweave mi_X9_unweave (DK.o h.x) (by decide) rfl lk_L_136 rfl rfl rfl rfl rfl (Nat.le_of_ble_eq_true rfl) rfl (c_X9_unweave h.x (fun I4 S4 K4 hT4 => (cpV ?_)))
      have h4 : TS (fun _ _ => True) L0 I0 S0 S4 I4 b _ _ := h.stp K4 hT4 trivial (fun c _ q => ⟨q.1, by rcases q.2 with e | e | e | e <;> rw [e] <;> decide, by rcases q.2 with e | e | e | e <;> rw [e] <;> decide⟩)
      have g4 : (d ∈ sL S4 ∧ sK S4 d = 9) ∧ sR S4 d 12 = some (pA D 12) ∧ ArE 11 S4 (pA D 12) (pP D) := ⟨K4.o (DK.o h.x), by rw [K4.gR (DK.o h.x).1 (fun q => by rcases q.2 with e | e | e | e <;> rw [(DK.o h.x).2] at e <;> exact absurd e (by decide))]; exact (DK.rr h.x) 12 (by decide) (by decide), K4.ar hT4 (DK.a12 h.x)⟩
      refine r_aload_n (pc' := 553) dL_text_552 rfl 3 rfl rfl ?_
      refine r_callV (pc' := 556) (k' := 2146) (n' := 249500) (nn := 0) (As := []) (rest := []) dL_text_553 mb_J4_toString_0e30d mi_J4_toString_0e30d h4.o (by decide) rfl lk_L_128 rfl rfl rfl rfl rfl (Nat.le_of_ble_eq_true rfl) rfl (c_apZ h4 (by omega) (fun z I5 S5 hz hs K5 hT5 hw5 => (cpR ?_)))
      exact r_aret dL_text_556 rfl (Or.inl ⟨_, rfl⟩) (Or.inr ⟨_, rfl⟩) (by decide) (by decide) (hQ z _ _ _ (Or.inr ⟨1 + m, ⟨by omega, by omega⟩, Or.inr rfl, (hld hload (by omega) e3 e1' e4 e2' (fun k hk => (hq3 k hk).1))⟩) (by rw [List.append_assoc, List.append_assoc] at hs; exact hs) (h4.2.1.tr (K5.mono fun _ _ e => e.elim)) ⟨K5.o g4.1, by rw [K5.gR g4.1.1 id]; exact g4.2.1, K5.ar hT5 g4.2.2⟩ (fun q => hz (h4.2.2.2.2.1 _ q)) hT5 (fun w hw q => hw5 w hw (h4.2.2.2.2.1 _ q)))
  · refine r_aload_n (pc' := 507) dL_text_506 rfl 2 rfl rfl ?_
    refine r_callV (pc' := 510) (k' := 1133) (n' := 223400) (nn := 0) (As := []) (rest := []) dL_text_507 mb_J4_toString_0e30d mi_J4_toString_0e30d h2.o (by decide) rfl lk_L_128 rfl rfl rfl rfl rfl (Nat.le_of_ble_eq_true rfl) rfl (c_apZ h2 (by omega) (fun z I3 S3 hz hs K3 hT3 hw3 => (cpR ?_)))
    exact r_aret dL_text_510 rfl (Or.inl ⟨_, rfl⟩) (Or.inr ⟨_, rfl⟩) (by decide) (by decide) (hQ z [] _ _ (Or.inl rfl) (by rw [List.append_nil]; exact hs) (h2.2.1.tr (K3.mono fun _ _ e => e.elim)) ⟨K3.o (DK.o h2.x), by rw [K3.gR (DK.o h2.x).1 id]; exact (DK.rr h2.x) 12 (by decide) (by decide), K3.ar hT3 (DK.a12 h2.x)⟩ (fun q => hz (h2.2.2.2.2.1 _ q)) hT3 (fun w hw q => hw3 w hw (h2.2.2.2.2.1 _ q)))
theorem c_L_text {Ω : JO} {I : JI} {S : JS} {Q : JQ} {L0 : List Nat} {d : Nat} {A C : Nat → Nat} {T : TP} {v : Int32} (h0 : LQ Ω L0 S I d A C T) (hT : sT S = none) (hL : ∀ x, x ∈ L0 → x ∈ sL S) (hQ : ∀ z a b c t E I' S', a < 3 → b < 3 → c < 3 → (t = 1 ∨ t = 2) → TE T (PK a b c t) E → STk S' I' z (TXt T a b c t ++ E) → Kp (fun c => c ∉ L0) I S I' S' → (∃ zp, (d ∈ sL S' ∧ sK S' d = 9) ∧ sR S' d 12 = some zp ∧ ArE 11 S' zp (PK a b c t).length) → z ∉ L0 → sT S' = none → (∀ w, sR S' z 0 = some w → w ∉ L0) → Q (.inl (some (.ref z))) I' S') : Call Ω m_L_text [.ref d, .int v] I S Q := by
  refine call_of (by decide +kernel) rfl (Nat.le_of_ble_eq_true rfl) ?_
  change AA Ω m_L_text (FQ Ω m_L_text Q) 0 0 0 [(0, .ref d), (1, .int v)] [] I S
  refine l_text_a h0 hT hL (fun I1 S1 b h => ?_)
  refine l_text_b h0.tv h (fun I2 S2 h => ?_)
  refine l_text_c h (fun a0 b0 c0 t0 ha hb hc ht I3 S3 h => ?_)
  rcases ht with rfl | rfl
  · refine l_text_d1 ha hb hc h (fun I4 S4 D h hD => ?_)
    exact l_text_e h0.tv (PK_lt ha hb hc) (by simp [PK]) h hD (fun z E I' S' g1 g2 g3 g4 g5 g6 g7 => hQ z a0 b0 c0 1 E I' S' ha hb hc (Or.inl rfl) g1 g2 g3 ⟨pA D 12, g4.1, g4.2.1, hD.1.2.2.1 ▸ g4.2.2⟩ g5 g6 g7)
  · refine l_text_d2 ha hb hc h (fun I4 S4 D h hD => ?_)
    exact l_text_e h0.tv (PK_lt ha hb hc) (by simp [PK]) h hD (fun z E I' S' g1 g2 g3 g4 g5 g6 g7 => hQ z a0 b0 c0 2 E I' S' ha hb hc (Or.inr rfl) g1 g2 g3 ⟨pA D 12, g4.1, g4.2.1, hD.1.2.2.1 ▸ g4.2.2⟩ g5 g6 g7)
