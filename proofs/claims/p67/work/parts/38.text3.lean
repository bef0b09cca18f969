/-! the law's text: picks, weaving -/
def PK (a b c t : Nat) : List Nat := a :: (if t = 1 then [b, c] else [b, c, b, c]) ++ [a, b, c, b, a, c, c, a]
theorem PK_lt {a b c t : Nat} (ha : a < 3) (hb : b < 3) (hc : c < 3) : ∀ x, x ∈ PK a b c t → x < 3 := by
  intro x hx
  unfold PK at hx
  by_cases h : t = 1
  · simp only [h, if_true, List.cons_append, List.nil_append, List.mem_cons, List.not_mem_nil, or_false] at hx
    omega
  · simp only [h, if_false, List.cons_append, List.nil_append, List.mem_cons, List.not_mem_nil, or_false] at hx
    omega
theorem stR_nwN {S : JS} {z ki m d j : Nat} {r : Option Nat} (h : d ≠ z) : stR (nwN S z ki m) d j r = nwN (stR S d j r) z ki m := by
  unfold stR nwN noT nwS
  simp only [sL, sK, sN, sR, sX, sY, sT]
  refine Prod.ext rfl (Prod.ext rfl (Prod.ext rfl (Prod.ext ?_ rfl)))
  funext b i
  show (if b = d then if i = j then r else (if b = z then none else S.2.2.2.1 b i) else (if b = z then none else S.2.2.2.1 b i)) = if b = z then none else (if b = d then if i = j then r else S.2.2.2.1 b i else S.2.2.2.1 b i)
  by_cases e1 : b = d
  · subst e1
    rw [if_pos rfl, if_neg h, if_neg h, if_pos rfl]
  · rw [if_neg e1]
    by_cases e2 : b = z
    · rw [if_pos e2, if_pos e2]
    · rw [if_neg e2, if_neg e2, if_neg e1]
section LQ12
variable {Ω : JO} {L0 : List Nat} {S S' : JS} {I I' : JI} {d z : Nat} {A C : Nat → Nat} {T : TP}
theorem LQ.put12 (h : LQ Ω L0 S I d A C T) (r : Option Nat) : LQ Ω L0 (stR S d 12 r) I d A C T := by
  have n13 : A 13 ≠ d := kne h.l13.1.2 h.o.2 (by decide)
  have n14 : A 14 ≠ d := kne h.l14.1.2 h.o.2 (by decide)
  have n11 : A 11 ≠ d := kne h.a11.2.1 h.o.2 (by decide)
  refine ⟨h.o, fun j h1 h2 h3 => by rw [stR_R2 h3]; exact h.rr j h1 h2 h3, h.2.2.1, fun k hk => ?_, h.2.2.2.2.1, h.wv, h.yv, h.zv, ⟨h.l13.1, by rw [stR_R3 n13]; exact h.l13.2.1, h.l13.2.2⟩, ⟨h.l14.1, by rw [stR_R3 n14]; exact h.l14.2.1, h.l14.2.2⟩, h.dx, h.tv⟩
  obtain ⟨c1, c2, c3⟩ := h.cr k hk
  exact ⟨by rw [stR_R3 n11]; exact c1, c2, c3⟩
end LQ12
section TS12
variable {X X' : JS → JI → Prop} {L0 : List Nat} {I0 I I' : JI} {S0 S S' : JS} {b d j m : Nat} {t : List Nat} {r : Option Nat} {P : Nat → Prop}
theorem TS.stp (h : TS X L0 I0 S0 S I b t m) (x : Kp P I S I' S') (hT : sT S' = none) (hx : X' S' I') (hP : ∀ c, c ∈ sL S → P c → c ∉ L0 ∧ sK S c ≠ 10 ∧ sK S c ≠ 16) : TS X' L0 I0 S0 S' I' b t m := by
  obtain ⟨h1, h2, h3, ⟨v, cap, g, hv⟩, h5, h6⟩ := h
  exact ⟨hx, fun c hc => by
    obtain ⟨k1, k2, k3, k4⟩ := h2 c hc
    obtain ⟨x1, x2, x3, x4⟩ := x c k1
    refine ⟨x1, x2.trans k2, x3.trans k3, fun hn => ?_⟩
    obtain ⟨y1, y2, y3⟩ := x4 (fun q => hn (hP c k1 q).1)
    obtain ⟨w1, w2, w3⟩ := k4 hn
    exact ⟨y1.trans w1, y2.trans w2, y3.trans w3⟩, h3, ⟨v, cap, g.kp x hT (fun q => (hP b g.o.1 q).2.2 g.o.2) (fun q => (hP v g.arr.1 q).2.1 g.arr.2.1), hv⟩, fun y hy => (x y (h5 y hy)).1, h6⟩
theorem TS.stF (h : TS X L0 I0 S0 S I b t m) (hX : TK X) (x : Kp (fun _ => False) I S I' S') (hT : sT S' = none) : TS X L0 I0 S0 S' I' b t m := h.stp x hT (hX _ _ _ _ _ h.1 x hT (fun _ _ e => e.elim)) (fun _ _ e => e.elim)
end TS12
theorem DK.tk {Ω : JO} {L0 : List Nat} {d e1 e2 n1 n2 : Nat} {D : DP} : TK (fun S I => DK Ω L0 S I d D e1 e2 n1 n2) := fun S S' I I' P h x hT hP => by
  have np : ∀ c y, c ∈ sL S → sK S c = y → y ≠ 10 → y ≠ 16 → ¬ P c := fun c y hc hy h1 h2 q => (hP c hc q).elim (fun e => h1 (hy.symm.trans e)) (fun e => h2 (hy.symm.trans e))
  have p1 := fun (q : e1 ∈ sL S) (p : P e1) => (hP e1 q p)
  refine h.kpG x hT (np d 9 h.o.1 h.o.2 (by decide) (by decide)) (np _ 11 h.a8.1 h.a8.2.1 (by decide) (by decide)) (np _ 11 h.a12.1 h.a12.2.1 (by decide) (by decide)) (np _ 20 h.a11.1 h.a11.2.1 (by decide) (by decide)) (fun k hk => np _ 11 (h.cr k hk).2.1.1 (h.cr k hk).2.1.2.1 (by decide) (by decide)) ⟨h.l13.kp x hT (np _ 18 h.l13.1.1 h.l13.1.2 (by decide) (by decide)), fun i hi => ?_⟩ ⟨h.l14.kp x hT (np _ 18 h.l14.1.1 h.l14.1.2 (by decide) (by decide)), fun i hi => ?_⟩
  · have he : ArE 19 S e1 10 := h.l13.2.2.2.2.elim (fun q => absurd hi (by omega)) (fun q => q.1)
    exact h.elk x hT (fun q => np e1 19 he.1 he.2.1 (by decide) (by decide)) i hi
  · have he : ArE 19 S e2 10 := h.l14.2.2.2.2.elim (fun q => absurd hi (by omega)) (fun q => q.1)
    exact h.ewk x (fun q => np e2 19 he.1 he.2.1 (by decide) (by decide)) i hi
/-- what the picks' loom is, beside the text's numbers -/
def DT (T : TP) (pk : List Nat) (D : DP) (I : JI) : Prop := (pH D = tH T ∧ pW D = tW T ∧ pP D = pk.length ∧ pmt D = tM T) ∧ (∀ w, w < 4 → pon D w = nI (tOn T w)) ∧ (∀ k, k < 3 → pcd D k 0 = nI (tLi T k)) ∧ (∀ i, i < pk.length → ppk D i = nI (pk.getD i 0)) ∧ YC D I ∧ (∀ j, j < pH D → fits .boolean (.int (I (pA D 4) j)) = true) ∧ (∀ j, j < pH D → fits .boolean (.int (I (pA D 5) j)) = true) ∧ ∀ j, j < pW D → fits .boolean (.int (I (pA D 6) j)) = true
theorem nin_ne2 {L : List Nat} {x y : Nat} (h1 : x ∈ L) (h2 : y ∉ L) : x ≠ y := fun e => h2 (e ▸ h1)
set_option maxHeartbeats 8000000 in
theorem l_text_d1 {Ω : JO} {Q : JQ} {I I0 : JI} {S S0 : JS} {L0 : List Nat} {d : Nat} {A C : Nat → Nat} {T : TP} {v : Int32} {b a0 b0 c0 : Nat} {t : List Nat} (ha : a0 < 3) (hb3 : b0 < 3) (hc : c0 < 3) (h : TS (fun S I => LQ Ω L0 S I d A C T) L0 I0 S0 S I b t 290) (hk : ∀ I' S' D, TS (fun S I => DK Ω L0 S I d D (oE Ω) (oE Ω) 0 0) L0 I0 S0 S' I' b t 290 → DT T (PK a0 b0 c0 1) D I' → AA Ω m_L_text (FQ Ω m_L_text Q) 110 200100 478 [(2, .ref b), (0, .ref d), (1, .int v)] [] I' S') : AA Ω m_L_text (FQ Ω m_L_text Q) 100 200000 320 [(2, .ref b), (0, .ref d), (1, .int v), (3, .int (nI a0)), (4, .int (nI b0)), (5, .int (nI c0)), (6, .int (nI 1))] [] I S := by
  refine r_aload_n (pc' := 321) dL_text_320 rfl 1 rfl rfl ?_
  refine r_iconst (pc' := 322) (v := 1) dL_text_321 (by decide) rfl ?_
  refine r_iconst (pc' := 323) (v := 2) dL_text_322 (by decide) rfl ?_
  refine r_iload (pc' := 325) dL_text_323 6 rfl rfl ?_
  refine r_imulv (pc' := 326) dL_text_325 (show (2 : Int32) * nI 1 = nI 2 from by decide) rfl ?_
  refine r_iaddv (pc' := 327) dL_text_326 (show (1 : Int32) + nI 2 = nI 3 from by decide) rfl ?_
  refine r_bipush (pc' := 329) (v := 8) dL_text_327 (by decide) rfl ?_
  refine r_iaddv (pc' := 330) dL_text_329 (show nI 3 + (8 : Int32) = nI 11 from by decide) rfl ?_
  refine r_newIG (pc' := 332) (N := 11) dL_text_330 (by decide) (by decide) (by decide) (Nat.le_of_ble_eq_true rfl) (Nat.le_of_ble_eq_true rfl) rfl (fun zp hz0 => aa_widen (k' := 101) (n' := 200011) (by decide) (by decide) ?_)
  have hzp : zp ∉ sL S := notin_of hz0
  have hdz : d ≠ zp := fun e => hzp (e ▸ (LQ.o h.x).1)
  refine r_putNR (pc' := 335) dL_text_332 fn_L_117 ((Kp.nw (P := fun _ => False) (I := I) hzp).o (LQ.o h.x)) rfl rfl ⟨rfl, rfl⟩ rfl ?_
  rw [stR_nwN hdz]
  have hxp : LQ Ω L0 (stR S d 12 (some zp)) I d A C T := LQ.put12 h.x (some zp)
  have hzp2 : zp ∉ sL (stR S d 12 (some zp)) := hzp
  replace h : TS (fun S I => LQ Ω L0 S I d A C T) L0 I0 S0 (stR S d 12 (some zp)) I b t 290 := h.stp (Kp.stR (P := fun c => c = d) rfl) h.T hxp (fun c _ e => by subst e; exact ⟨(LQ.dx h.x).2.2.2.2, by rw [(LQ.o h.x).2]; decide, by rw [(LQ.o h.x).2]; decide⟩)
  have hd12 : sR (stR S d 12 (some zp)) d 12 = some zp := stR_R1
  obtain ⟨Sb, hSb⟩ : ∃ Sb, Sb = stR S d 12 (some zp) := ⟨_, rfl⟩
  rw [← hSb] at hxp hzp2 h hd12 ⊢
  have bb : BD I Sb (nwI I zp) (nwN Sb zp 11 11) [] [(11, zp, 11)] [] [(11, zp)] [zp] := (BD.rf h.T).nw (ki := 11) (m := 11) hzp2 (Kp.nw hzp2)
  have bx := bb
  refine r_iconst (pc' := 336) (v := 0) dL_text_335 (by decide) rfl ?_
  refine r_istore (pc' := 338) (lv' := [(7, _), (2, _), (0, _), (1, _), (3, _), (4, _), (5, _), (6, _)]) dL_text_336 (by decide) rfl rfl ?_
  refine r_aload_n (pc' := 339) dL_text_338 rfl 2 rfl rfl ?_
  refine r_getNO (pc' := 342) dL_text_339 fn_L_117 ((bx.K.mono fun c hc q => q hc : Kp (fun _ => False) _ _ _ _).o (LQ.o hxp)) rfl (by rw [(bx.K.mono fun c hc q => q hc : Kp (fun _ => False) _ _ _ _).gR (LQ.o hxp).1 id]; exact hd12) rfl ?_
  refine r_iload (pc' := 344) dL_text_342 0 rfl rfl ?_
  refine r_iinc (pc' := 347) (lv' := [(7, _), (2, _), (0, _), (1, _), (3, _), (4, _), (5, _), (6, _)]) dL_text_344 0 rfl rfl (by decide) rfl rfl ?_
  refine aa_lv (lv' := [(7, .int (nI 1)), (2, _), (0, _), (1, _), (3, _), (4, _), (5, _), (6, _)]) rfl ?_
  refine r_iload_n (pc' := 348) dL_text_347 rfl 4 rfl rfl ?_
  refine r_iastN (pc' := 349) (d := 0) dL_text_348 (bx.ar 0 rfl) rfl (by decide) (by decide) rfl ?_
  replace bx := bx.putI (a := zp) (j := 0) (x := nI a0) (bx.n 0 rfl).2 (bx.n 0 rfl).1 (by simp)
  refine r_iconst (pc' := 350) (v := 0) dL_text_349 (by decide) rfl ?_
  refine r_istore (pc' := 352) (lv' := [(8, _), (7, _), (2, _), (0, _), (1, _), (3, _), (4, _), (5, _), (6, _)]) dL_text_350 (by decide) rfl rfl ?_
  refine r_iload (pc' := 354) dL_text_352 0 rfl rfl ?_
  refine r_iload (pc' := 356) dL_text_354 8 rfl rfl ?_
  refine r_icmp_ge (tgt := 389) (pc' := 359) dL_text_356 rfl rfl (fun h356 => ?_) (fun h356 => ?_)
  · exact absurd h356 (by decide)
  · refine r_aload_n (pc' := 360) dL_text_359 rfl 3 rfl rfl ?_
    refine r_getNO (pc' := 363) dL_text_360 fn_L_117 ((bx.K.mono fun c hc q => q hc : Kp (fun _ => False) _ _ _ _).o (LQ.o hxp)) rfl (by rw [(bx.K.mono fun c hc q => q hc : Kp (fun _ => False) _ _ _ _).gR (LQ.o hxp).1 id]; exact hd12) rfl ?_
    refine r_iload (pc' := 365) dL_text_363 1 rfl rfl ?_
    refine r_iinc (pc' := 368) (lv' := [(7, _), (8, _), (2, _), (0, _), (1, _), (3, _), (4, _), (5, _), (6, _)]) dL_text_365 1 rfl rfl (by decide) rfl rfl ?_
    refine aa_lv (lv' := [(7, .int (nI 2)), (8, _), (2, _), (0, _), (1, _), (3, _), (4, _), (5, _), (6, _)]) rfl ?_
    refine r_iload (pc' := 370) dL_text_368 6 rfl rfl ?_
    refine r_iastN (pc' := 371) (d := 1) dL_text_370 (bx.ar 0 rfl) rfl (by decide) (by decide) rfl ?_
    replace bx := bx.putI (a := zp) (j := 1) (x := nI b0) (bx.n 0 rfl).2 (bx.n 0 rfl).1 (by simp)
    refine r_aload_n (pc' := 372) dL_text_371 rfl 3 rfl rfl ?_
    refine r_getNO (pc' := 375) dL_text_372 fn_L_117 ((bx.K.mono fun c hc q => q hc : Kp (fun _ => False) _ _ _ _).o (LQ.o hxp)) rfl (by rw [(bx.K.mono fun c hc q => q hc : Kp (fun _ => False) _ _ _ _).gR (LQ.o hxp).1 id]; exact hd12) rfl ?_
    refine r_iload (pc' := 377) dL_text_375 0 rfl rfl ?_
    refine r_iinc (pc' := 380) (lv' := [(7, _), (8, _), (2, _), (0, _), (1, _), (3, _), (4, _), (5, _), (6, _)]) dL_text_377 0 rfl rfl (by decide) rfl rfl ?_
    refine aa_lv (lv' := [(7, .int (nI 3)), (8, _), (2, _), (0, _), (1, _), (3, _), (4, _), (5, _), (6, _)]) rfl ?_
    refine r_iload (pc' := 382) dL_text_380 7 rfl rfl ?_
    refine r_iastN (pc' := 383) (d := 2) dL_text_382 (bx.ar 0 rfl) rfl (by decide) (by decide) rfl ?_
    replace bx := bx.putI (a := zp) (j := 2) (x := nI c0) (bx.n 0 rfl).2 (bx.n 0 rfl).1 (by simp)
    refine r_iinc (pc' := 386) (lv' := [(8, _), (7, _), (2, _), (0, _), (1, _), (3, _), (4, _), (5, _), (6, _)]) dL_text_383 1 rfl rfl (by decide) rfl rfl ?_
    refine aa_lv (lv' := [(8, .int (nI 1)), (7, _), (2, _), (0, _), (1, _), (3, _), (4, _), (5, _), (6, _)]) rfl ?_
    refine r_goto (tgt := 352) dL_text_386 rfl ?_
    refine r_iload (pc' := 354) dL_text_352 0 rfl rfl ?_
    refine r_iload (pc' := 356) dL_text_354 8 rfl rfl ?_
    refine r_icmp_ge (tgt := 389) (pc' := 359) dL_text_356 rfl rfl (fun h356 => ?_) (fun h356 => ?_)
    · refine r_bipush (pc' := 391) (v := 8) dL_text_389 (by decide) rfl ?_
      refine r_newIG (pc' := 393) (N := 8) dL_text_391 (by decide) (by decide) (by decide) (Nat.le_of_ble_eq_true rfl) (Nat.le_of_ble_eq_true rfl) rfl (fun za hzz => aa_widen (k' := 102) (n' := 200050) (by decide) (by decide) ?_)
      have hza := notin_of hzz
      replace bx := bx.nw (ki := 11) (m := 8) hza (Kp.nw hza)
      refine r_dup (pc' := 394) dL_text_393 rfl rfl ?_
      refine r_iconst (pc' := 395) (v := 0) dL_text_394 (by decide) rfl ?_
      refine r_iload_n (pc' := 396) dL_text_395 rfl 5 rfl rfl ?_
      refine r_iastN (pc' := 397) (d := 0) dL_text_396 (bx.ar 0 rfl) rfl (by decide) (by decide) rfl ?_
      replace bx := bx.putI (a := za) (j := 0) (x := nI a0) (bx.n 0 rfl).2 (bx.n 0 rfl).1 (by simp [(bx.ne 1 0 rfl rfl (by decide))])
      refine r_dup (pc' := 398) dL_text_397 rfl rfl ?_
      refine r_iconst (pc' := 399) (v := 1) dL_text_398 (by decide) rfl ?_
      refine r_iload (pc' := 401) dL_text_399 6 rfl rfl ?_
      refine r_iastN (pc' := 402) (d := 1) dL_text_401 (bx.ar 0 rfl) rfl (by decide) (by decide) rfl ?_
      replace bx := bx.putI (a := za) (j := 1) (x := nI b0) (bx.n 0 rfl).2 (bx.n 0 rfl).1 (by simp [(bx.ne 1 0 rfl rfl (by decide))])
      refine r_dup (pc' := 403) dL_text_402 rfl rfl ?_
      refine r_iconst (pc' := 404) (v := 2) dL_text_403 (by decide) rfl ?_
      refine r_iload (pc' := 406) dL_text_404 7 rfl rfl ?_
      refine r_iastN (pc' := 407) (d := 2) dL_text_406 (bx.ar 0 rfl) rfl (by decide) (by decide) rfl ?_
      replace bx := bx.putI (a := za) (j := 2) (x := nI c0) (bx.n 0 rfl).2 (bx.n 0 rfl).1 (by simp [(bx.ne 1 0 rfl rfl (by decide))])
      refine r_dup (pc' := 408) dL_text_407 rfl rfl ?_
      refine r_iconst (pc' := 409) (v := 3) dL_text_408 (by decide) rfl ?_
      refine r_iload (pc' := 411) dL_text_409 6 rfl rfl ?_
      refine r_iastN (pc' := 412) (d := 3) dL_text_411 (bx.ar 0 rfl) rfl (by decide) (by decide) rfl ?_
      replace bx := bx.putI (a := za) (j := 3) (x := nI b0) (bx.n 0 rfl).2 (bx.n 0 rfl).1 (by simp)
      refine r_dup (pc' := 413) dL_text_412 rfl rfl ?_
      refine r_iconst (pc' := 414) (v := 4) dL_text_413 (by decide) rfl ?_
      refine r_iload_n (pc' := 415) dL_text_414 rfl 5 rfl rfl ?_
      refine r_iastN (pc' := 416) (d := 4) dL_text_415 (bx.ar 0 rfl) rfl (by decide) (by decide) rfl ?_
      replace bx := bx.putI (a := za) (j := 4) (x := nI a0) (bx.n 0 rfl).2 (bx.n 0 rfl).1 (by simp)
      refine r_dup (pc' := 417) dL_text_416 rfl rfl ?_
      refine r_iconst (pc' := 418) (v := 5) dL_text_417 (by decide) rfl ?_
      refine r_iload (pc' := 420) dL_text_418 7 rfl rfl ?_
      refine r_iastN (pc' := 421) (d := 5) dL_text_420 (bx.ar 0 rfl) rfl (by decide) (by decide) rfl ?_
      replace bx := bx.putI (a := za) (j := 5) (x := nI c0) (bx.n 0 rfl).2 (bx.n 0 rfl).1 (by simp)
      refine r_dup (pc' := 422) dL_text_421 rfl rfl ?_
      refine r_bipush (pc' := 424) (v := 6) dL_text_422 (by decide) rfl ?_
      refine r_iload (pc' := 426) dL_text_424 7 rfl rfl ?_
      refine r_iastN (pc' := 427) (d := 6) dL_text_426 (bx.ar 0 rfl) rfl (by decide) (by decide) rfl ?_
      replace bx := bx.putI (a := za) (j := 6) (x := nI c0) (bx.n 0 rfl).2 (bx.n 0 rfl).1 (by simp)
      refine r_dup (pc' := 428) dL_text_427 rfl rfl ?_
      refine r_bipush (pc' := 430) (v := 7) dL_text_428 (by decide) rfl ?_
      refine r_iload_n (pc' := 431) dL_text_430 rfl 5 rfl rfl ?_
      refine r_iastN (pc' := 432) (d := 7) dL_text_431 (bx.ar 0 rfl) rfl (by decide) (by decide) rfl ?_
      replace bx := bx.putI (a := za) (j := 7) (x := nI a0) (bx.n 0 rfl).2 (bx.n 0 rfl).1 (by simp)
      refine r_astore (pc' := 434) (lv' := [(8, _), (7, _), (2, _), (0, _), (1, _), (3, _), (4, _), (5, _), (6, _)]) dL_text_432 (by decide) rfl rfl ?_
      refine r_aload (pc' := 436) dL_text_434 0 rfl rfl ?_
      refine r_astore (pc' := 438) (lv' := [(9, _), (8, _), (7, _), (2, _), (0, _), (1, _), (3, _), (4, _), (5, _), (6, _)]) dL_text_436 (by decide) rfl rfl ?_
      refine r_aload (pc' := 440) dL_text_438 0 rfl rfl ?_
      refine r_alen (pc' := 441) (v := 8) dL_text_440 (bx.ar 0 rfl) (by decide) rfl rfl ?_
      refine r_istore (pc' := 443) (lv' := [(10, _), (9, _), (8, _), (7, _), (2, _), (0, _), (1, _), (3, _), (4, _), (5, _), (6, _)]) dL_text_441 (by decide) rfl rfl ?_
      refine r_iconst (pc' := 444) (v := 0) dL_text_443 (by decide) rfl ?_
      refine r_istore (pc' := 446) (lv' := [(11, _), (10, _), (9, _), (8, _), (7, _), (2, _), (0, _), (1, _), (3, _), (4, _), (5, _), (6, _)]) dL_text_444 (by decide) rfl rfl ?_
      refine r_iload (pc' := 448) dL_text_446 0 rfl rfl ?_
      refine r_iload (pc' := 450) dL_text_448 1 rfl rfl ?_
      refine r_icmp_ge (tgt := 478) (pc' := 453) dL_text_450 rfl rfl (fun h450 => ?_) (fun h450 => ?_)
      · exact absurd h450 (by decide)
      · refine r_aload (pc' := 455) dL_text_453 2 rfl rfl ?_
        refine r_iload (pc' := 457) dL_text_455 0 rfl rfl ?_
        refine r_ialoadN (pc' := 458) (d := 0) dL_text_457 (bx.ar 0 rfl) (by decide) (by decide) (bx.f 7 rfl) rfl ?_
        refine r_istore (pc' := 460) (lv' := [(12, _), (11, _), (10, _), (9, _), (8, _), (7, _), (2, _), (0, _), (1, _), (3, _), (4, _), (5, _), (6, _)]) dL_text_458 (by decide) rfl rfl ?_
        refine r_aload_n (pc' := 461) dL_text_460 rfl 7 rfl rfl ?_
        refine r_getNO (pc' := 464) dL_text_461 fn_L_117 ((bx.K.mono fun c hc q => q hc : Kp (fun _ => False) _ _ _ _).o (LQ.o hxp)) rfl (by rw [(bx.K.mono fun c hc q => q hc : Kp (fun _ => False) _ _ _ _).gR (LQ.o hxp).1 id]; exact hd12) rfl ?_
        refine r_iload (pc' := 466) dL_text_464 5 rfl rfl ?_
        refine r_iinc (pc' := 469) (lv' := [(7, _), (12, _), (11, _), (10, _), (9, _), (8, _), (2, _), (0, _), (1, _), (3, _), (4, _), (5, _), (6, _)]) dL_text_466 5 rfl rfl (by decide) rfl rfl ?_
        refine aa_lv (lv' := [(7, .int (nI 4)), (12, _), (11, _), (10, _), (9, _), (8, _), (2, _), (0, _), (1, _), (3, _), (4, _), (5, _), (6, _)]) rfl ?_
        refine r_iload (pc' := 471) dL_text_469 1 rfl rfl ?_
        refine r_iastN (pc' := 472) (d := 3) dL_text_471 (bx.ar 1 rfl) rfl (by decide) (by decide) rfl ?_
        replace bx := bx.putI (a := zp) (j := 3) (x := nI a0) (bx.n 1 rfl).2 (bx.n 1 rfl).1 (by simp [(bx.ne 0 1 rfl rfl (by decide))])
        refine r_iinc (pc' := 475) (lv' := [(11, _), (7, _), (12, _), (10, _), (9, _), (8, _), (2, _), (0, _), (1, _), (3, _), (4, _), (5, _), (6, _)]) dL_text_472 2 rfl rfl (by decide) rfl rfl ?_
        refine aa_lv (lv' := [(11, .int (nI 1)), (7, _), (12, _), (10, _), (9, _), (8, _), (2, _), (0, _), (1, _), (3, _), (4, _), (5, _), (6, _)]) rfl ?_
        refine r_goto (tgt := 446) dL_text_475 rfl ?_
        refine r_iload (pc' := 448) dL_text_446 0 rfl rfl ?_
        refine r_iload (pc' := 450) dL_text_448 3 rfl rfl ?_
        refine r_icmp_ge (tgt := 478) (pc' := 453) dL_text_450 rfl rfl (fun h450 => ?_) (fun h450 => ?_)
        · exact absurd h450 (by decide)
        · refine r_aload (pc' := 455) dL_text_453 4 rfl rfl ?_
          refine r_iload (pc' := 457) dL_text_455 0 rfl rfl ?_
          refine r_ialoadN (pc' := 458) (d := 1) dL_text_457 (bx.ar 0 rfl) (by decide) (by decide) (bx.f 7 rfl) rfl ?_
          refine r_istore (pc' := 460) (lv' := [(12, _), (11, _), (7, _), (10, _), (9, _), (8, _), (2, _), (0, _), (1, _), (3, _), (4, _), (5, _), (6, _)]) dL_text_458 (by decide) rfl rfl ?_
          refine r_aload_n (pc' := 461) dL_text_460 rfl 7 rfl rfl ?_
          refine r_getNO (pc' := 464) dL_text_461 fn_L_117 ((bx.K.mono fun c hc q => q hc : Kp (fun _ => False) _ _ _ _).o (LQ.o hxp)) rfl (by rw [(bx.K.mono fun c hc q => q hc : Kp (fun _ => False) _ _ _ _).gR (LQ.o hxp).1 id]; exact hd12) rfl ?_
          refine r_iload (pc' := 466) dL_text_464 2 rfl rfl ?_
          refine r_iinc (pc' := 469) (lv' := [(7, _), (12, _), (11, _), (10, _), (9, _), (8, _), (2, _), (0, _), (1, _), (3, _), (4, _), (5, _), (6, _)]) dL_text_466 2 rfl rfl (by decide) rfl rfl ?_
          refine aa_lv (lv' := [(7, .int (nI 5)), (12, _), (11, _), (10, _), (9, _), (8, _), (2, _), (0, _), (1, _), (3, _), (4, _), (5, _), (6, _)]) rfl ?_
          refine r_iload (pc' := 471) dL_text_469 1 rfl rfl ?_
          refine r_iastN (pc' := 472) (d := 4) dL_text_471 (bx.ar 1 rfl) rfl (by decide) (by decide) rfl ?_
          replace bx := bx.putI (a := zp) (j := 4) (x := nI b0) (bx.n 1 rfl).2 (bx.n 1 rfl).1 (by simp [(bx.ne 0 1 rfl rfl (by decide))])
          refine r_iinc (pc' := 475) (lv' := [(11, _), (7, _), (12, _), (10, _), (9, _), (8, _), (2, _), (0, _), (1, _), (3, _), (4, _), (5, _), (6, _)]) dL_text_472 2 rfl rfl (by decide) rfl rfl ?_
          refine aa_lv (lv' := [(11, .int (nI 2)), (7, _), (12, _), (10, _), (9, _), (8, _), (2, _), (0, _), (1, _), (3, _), (4, _), (5, _), (6, _)]) rfl ?_
          refine r_goto (tgt := 446) dL_text_475 rfl ?_
          refine r_iload (pc' := 448) dL_text_446 0 rfl rfl ?_
          refine r_iload (pc' := 450) dL_text_448 3 rfl rfl ?_
          refine r_icmp_ge (tgt := 478) (pc' := 453) dL_text_450 rfl rfl (fun h450 => ?_) (fun h450 => ?_)
          · exact absurd h450 (by decide)
          · refine r_aload (pc' := 455) dL_text_453 4 rfl rfl ?_
            refine r_iload (pc' := 457) dL_text_455 0 rfl rfl ?_
            refine r_ialoadN (pc' := 458) (d := 2) dL_text_457 (bx.ar 0 rfl) (by decide) (by decide) (bx.f 7 rfl) rfl ?_
            refine r_istore (pc' := 460) (lv' := [(12, _), (11, _), (7, _), (10, _), (9, _), (8, _), (2, _), (0, _), (1, _), (3, _), (4, _), (5, _), (6, _)]) dL_text_458 (by decide) rfl rfl ?_
            refine r_aload_n (pc' := 461) dL_text_460 rfl 7 rfl rfl ?_
            refine r_getNO (pc' := 464) dL_text_461 fn_L_117 ((bx.K.mono fun c hc q => q hc : Kp (fun _ => False) _ _ _ _).o (LQ.o hxp)) rfl (by rw [(bx.K.mono fun c hc q => q hc : Kp (fun _ => False) _ _ _ _).gR (LQ.o hxp).1 id]; exact hd12) rfl ?_
            refine r_iload (pc' := 466) dL_text_464 2 rfl rfl ?_
            refine r_iinc (pc' := 469) (lv' := [(7, _), (12, _), (11, _), (10, _), (9, _), (8, _), (2, _), (0, _), (1, _), (3, _), (4, _), (5, _), (6, _)]) dL_text_466 2 rfl rfl (by decide) rfl rfl ?_
            refine aa_lv (lv' := [(7, .int (nI 6)), (12, _), (11, _), (10, _), (9, _), (8, _), (2, _), (0, _), (1, _), (3, _), (4, _), (5, _), (6, _)]) rfl ?_
            refine r_iload (pc' := 471) dL_text_469 1 rfl rfl ?_
            refine r_iastN (pc' := 472) (d := 5) dL_text_471 (bx.ar 1 rfl) rfl (by decide) (by decide) rfl ?_
            replace bx := bx.putI (a := zp) (j := 5) (x := nI c0) (bx.n 1 rfl).2 (bx.n 1 rfl).1 (by simp [(bx.ne 0 1 rfl rfl (by decide))])
            refine r_iinc (pc' := 475) (lv' := [(11, _), (7, _), (12, _), (10, _), (9, _), (8, _), (2, _), (0, _), (1, _), (3, _), (4, _), (5, _), (6, _)]) dL_text_472 2 rfl rfl (by decide) rfl rfl ?_
            refine aa_lv (lv' := [(11, .int (nI 3)), (7, _), (12, _), (10, _), (9, _), (8, _), (2, _), (0, _), (1, _), (3, _), (4, _), (5, _), (6, _)]) rfl ?_
            refine r_goto (tgt := 446) dL_text_475 rfl ?_
            refine r_iload (pc' := 448) dL_text_446 0 rfl rfl ?_
            refine r_iload (pc' := 450) dL_text_448 3 rfl rfl ?_
            refine r_icmp_ge (tgt := 478) (pc' := 453) dL_text_450 rfl rfl (fun h450 => ?_) (fun h450 => ?_)
            · exact absurd h450 (by decide)
            · refine r_aload (pc' := 455) dL_text_453 4 rfl rfl ?_
              refine r_iload (pc' := 457) dL_text_455 0 rfl rfl ?_
              refine r_ialoadN (pc' := 458) (d := 3) dL_text_457 (bx.ar 0 rfl) (by decide) (by decide) (bx.f 7 rfl) rfl ?_
              refine r_istore (pc' := 460) (lv' := [(12, _), (11, _), (7, _), (10, _), (9, _), (8, _), (2, _), (0, _), (1, _), (3, _), (4, _), (5, _), (6, _)]) dL_text_458 (by decide) rfl rfl ?_
              refine r_aload_n (pc' := 461) dL_text_460 rfl 7 rfl rfl ?_
              refine r_getNO (pc' := 464) dL_text_461 fn_L_117 ((bx.K.mono fun c hc q => q hc : Kp (fun _ => False) _ _ _ _).o (LQ.o hxp)) rfl (by rw [(bx.K.mono fun c hc q => q hc : Kp (fun _ => False) _ _ _ _).gR (LQ.o hxp).1 id]; exact hd12) rfl ?_
              refine r_iload (pc' := 466) dL_text_464 2 rfl rfl ?_
              refine r_iinc (pc' := 469) (lv' := [(7, _), (12, _), (11, _), (10, _), (9, _), (8, _), (2, _), (0, _), (1, _), (3, _), (4, _), (5, _), (6, _)]) dL_text_466 2 rfl rfl (by decide) rfl rfl ?_
              refine aa_lv (lv' := [(7, .int (nI 7)), (12, _), (11, _), (10, _), (9, _), (8, _), (2, _), (0, _), (1, _), (3, _), (4, _), (5, _), (6, _)]) rfl ?_
              refine r_iload (pc' := 471) dL_text_469 1 rfl rfl ?_
              refine r_iastN (pc' := 472) (d := 6) dL_text_471 (bx.ar 1 rfl) rfl (by decide) (by decide) rfl ?_
              replace bx := bx.putI (a := zp) (j := 6) (x := nI b0) (bx.n 1 rfl).2 (bx.n 1 rfl).1 (by simp [(bx.ne 0 1 rfl rfl (by decide))])
              refine r_iinc (pc' := 475) (lv' := [(11, _), (7, _), (12, _), (10, _), (9, _), (8, _), (2, _), (0, _), (1, _), (3, _), (4, _), (5, _), (6, _)]) dL_text_472 2 rfl rfl (by decide) rfl rfl ?_
              refine aa_lv (lv' := [(11, .int (nI 4)), (7, _), (12, _), (10, _), (9, _), (8, _), (2, _), (0, _), (1, _), (3, _), (4, _), (5, _), (6, _)]) rfl ?_
              refine r_goto (tgt := 446) dL_text_475 rfl ?_
              refine r_iload (pc' := 448) dL_text_446 0 rfl rfl ?_
              refine r_iload (pc' := 450) dL_text_448 3 rfl rfl ?_
              refine r_icmp_ge (tgt := 478) (pc' := 453) dL_text_450 rfl rfl (fun h450 => ?_) (fun h450 => ?_)
              · exact absurd h450 (by decide)
              · refine r_aload (pc' := 455) dL_text_453 4 rfl rfl ?_
                refine r_iload (pc' := 457) dL_text_455 0 rfl rfl ?_
                refine r_ialoadN (pc' := 458) (d := 4) dL_text_457 (bx.ar 0 rfl) (by decide) (by decide) (bx.f 7 rfl) rfl ?_
                refine r_istore (pc' := 460) (lv' := [(12, _), (11, _), (7, _), (10, _), (9, _), (8, _), (2, _), (0, _), (1, _), (3, _), (4, _), (5, _), (6, _)]) dL_text_458 (by decide) rfl rfl ?_
                refine r_aload_n (pc' := 461) dL_text_460 rfl 7 rfl rfl ?_
                refine r_getNO (pc' := 464) dL_text_461 fn_L_117 ((bx.K.mono fun c hc q => q hc : Kp (fun _ => False) _ _ _ _).o (LQ.o hxp)) rfl (by rw [(bx.K.mono fun c hc q => q hc : Kp (fun _ => False) _ _ _ _).gR (LQ.o hxp).1 id]; exact hd12) rfl ?_
                refine r_iload (pc' := 466) dL_text_464 2 rfl rfl ?_
                refine r_iinc (pc' := 469) (lv' := [(7, _), (12, _), (11, _), (10, _), (9, _), (8, _), (2, _), (0, _), (1, _), (3, _), (4, _), (5, _), (6, _)]) dL_text_466 2 rfl rfl (by decide) rfl rfl ?_
                refine aa_lv (lv' := [(7, .int (nI 8)), (12, _), (11, _), (10, _), (9, _), (8, _), (2, _), (0, _), (1, _), (3, _), (4, _), (5, _), (6, _)]) rfl ?_
                refine r_iload (pc' := 471) dL_text_469 1 rfl rfl ?_
                refine r_iastN (pc' := 472) (d := 7) dL_text_471 (bx.ar 1 rfl) rfl (by decide) (by decide) rfl ?_
                replace bx := bx.putI (a := zp) (j := 7) (x := nI a0) (bx.n 1 rfl).2 (bx.n 1 rfl).1 (by simp [(bx.ne 0 1 rfl rfl (by decide))])
                refine r_iinc (pc' := 475) (lv' := [(11, _), (7, _), (12, _), (10, _), (9, _), (8, _), (2, _), (0, _), (1, _), (3, _), (4, _), (5, _), (6, _)]) dL_text_472 2 rfl rfl (by decide) rfl rfl ?_
                refine aa_lv (lv' := [(11, .int (nI 5)), (7, _), (12, _), (10, _), (9, _), (8, _), (2, _), (0, _), (1, _), (3, _), (4, _), (5, _), (6, _)]) rfl ?_
                refine r_goto (tgt := 446) dL_text_475 rfl ?_
                refine r_iload (pc' := 448) dL_text_446 0 rfl rfl ?_
                refine r_iload (pc' := 450) dL_text_448 3 rfl rfl ?_
                refine r_icmp_ge (tgt := 478) (pc' := 453) dL_text_450 rfl rfl (fun h450 => ?_) (fun h450 => ?_)
                · exact absurd h450 (by decide)
                · refine r_aload (pc' := 455) dL_text_453 4 rfl rfl ?_
                  refine r_iload (pc' := 457) dL_text_455 0 rfl rfl ?_
                  refine r_ialoadN (pc' := 458) (d := 5) dL_text_457 (bx.ar 0 rfl) (by decide) (by decide) (bx.f 7 rfl) rfl ?_
                  refine r_istore (pc' := 460) (lv' := [(12, _), (11, _), (7, _), (10, _), (9, _), (8, _), (2, _), (0, _), (1, _), (3, _), (4, _), (5, _), (6, _)]) dL_text_458 (by decide) rfl rfl ?_
                  refine r_aload_n (pc' := 461) dL_text_460 rfl 7 rfl rfl ?_
                  refine r_getNO (pc' := 464) dL_text_461 fn_L_117 ((bx.K.mono fun c hc q => q hc : Kp (fun _ => False) _ _ _ _).o (LQ.o hxp)) rfl (by rw [(bx.K.mono fun c hc q => q hc : Kp (fun _ => False) _ _ _ _).gR (LQ.o hxp).1 id]; exact hd12) rfl ?_
                  refine r_iload (pc' := 466) dL_text_464 2 rfl rfl ?_
                  refine r_iinc (pc' := 469) (lv' := [(7, _), (12, _), (11, _), (10, _), (9, _), (8, _), (2, _), (0, _), (1, _), (3, _), (4, _), (5, _), (6, _)]) dL_text_466 2 rfl rfl (by decide) rfl rfl ?_
                  refine aa_lv (lv' := [(7, .int (nI 9)), (12, _), (11, _), (10, _), (9, _), (8, _), (2, _), (0, _), (1, _), (3, _), (4, _), (5, _), (6, _)]) rfl ?_
                  refine r_iload (pc' := 471) dL_text_469 1 rfl rfl ?_
                  refine r_iastN (pc' := 472) (d := 8) dL_text_471 (bx.ar 1 rfl) rfl (by decide) (by decide) rfl ?_
                  replace bx := bx.putI (a := zp) (j := 8) (x := nI c0) (bx.n 1 rfl).2 (bx.n 1 rfl).1 (by simp)
                  refine r_iinc (pc' := 475) (lv' := [(11, _), (7, _), (12, _), (10, _), (9, _), (8, _), (2, _), (0, _), (1, _), (3, _), (4, _), (5, _), (6, _)]) dL_text_472 2 rfl rfl (by decide) rfl rfl ?_
                  refine aa_lv (lv' := [(11, .int (nI 6)), (7, _), (12, _), (10, _), (9, _), (8, _), (2, _), (0, _), (1, _), (3, _), (4, _), (5, _), (6, _)]) rfl ?_
                  refine r_goto (tgt := 446) dL_text_475 rfl ?_
                  refine r_iload (pc' := 448) dL_text_446 0 rfl rfl ?_
                  refine r_iload (pc' := 450) dL_text_448 3 rfl rfl ?_
                  refine r_icmp_ge (tgt := 478) (pc' := 453) dL_text_450 rfl rfl (fun h450 => ?_) (fun h450 => ?_)
                  · exact absurd h450 (by decide)
                  · refine r_aload (pc' := 455) dL_text_453 4 rfl rfl ?_
                    refine r_iload (pc' := 457) dL_text_455 0 rfl rfl ?_
                    refine r_ialoadN (pc' := 458) (d := 6) dL_text_457 (bx.ar 0 rfl) (by decide) (by decide) (bx.f 7 rfl) rfl ?_
                    refine r_istore (pc' := 460) (lv' := [(12, _), (11, _), (7, _), (10, _), (9, _), (8, _), (2, _), (0, _), (1, _), (3, _), (4, _), (5, _), (6, _)]) dL_text_458 (by decide) rfl rfl ?_
                    refine r_aload_n (pc' := 461) dL_text_460 rfl 7 rfl rfl ?_
                    refine r_getNO (pc' := 464) dL_text_461 fn_L_117 ((bx.K.mono fun c hc q => q hc : Kp (fun _ => False) _ _ _ _).o (LQ.o hxp)) rfl (by rw [(bx.K.mono fun c hc q => q hc : Kp (fun _ => False) _ _ _ _).gR (LQ.o hxp).1 id]; exact hd12) rfl ?_
                    refine r_iload (pc' := 466) dL_text_464 2 rfl rfl ?_
                    refine r_iinc (pc' := 469) (lv' := [(7, _), (12, _), (11, _), (10, _), (9, _), (8, _), (2, _), (0, _), (1, _), (3, _), (4, _), (5, _), (6, _)]) dL_text_466 2 rfl rfl (by decide) rfl rfl ?_
                    refine aa_lv (lv' := [(7, .int (nI 10)), (12, _), (11, _), (10, _), (9, _), (8, _), (2, _), (0, _), (1, _), (3, _), (4, _), (5, _), (6, _)]) rfl ?_
                    refine r_iload (pc' := 471) dL_text_469 1 rfl rfl ?_
                    refine r_iastN (pc' := 472) (d := 9) dL_text_471 (bx.ar 1 rfl) rfl (by decide) (by decide) rfl ?_
                    replace bx := bx.putI (a := zp) (j := 9) (x := nI c0) (bx.n 1 rfl).2 (bx.n 1 rfl).1 (by simp)
                    refine r_iinc (pc' := 475) (lv' := [(11, _), (7, _), (12, _), (10, _), (9, _), (8, _), (2, _), (0, _), (1, _), (3, _), (4, _), (5, _), (6, _)]) dL_text_472 2 rfl rfl (by decide) rfl rfl ?_
                    refine aa_lv (lv' := [(11, .int (nI 7)), (7, _), (12, _), (10, _), (9, _), (8, _), (2, _), (0, _), (1, _), (3, _), (4, _), (5, _), (6, _)]) rfl ?_
                    refine r_goto (tgt := 446) dL_text_475 rfl ?_
                    refine r_iload (pc' := 448) dL_text_446 0 rfl rfl ?_
                    refine r_iload (pc' := 450) dL_text_448 3 rfl rfl ?_
                    refine r_icmp_ge (tgt := 478) (pc' := 453) dL_text_450 rfl rfl (fun h450 => ?_) (fun h450 => ?_)
                    · exact absurd h450 (by decide)
                    · refine r_aload (pc' := 455) dL_text_453 4 rfl rfl ?_
                      refine r_iload (pc' := 457) dL_text_455 0 rfl rfl ?_
                      refine r_ialoadN (pc' := 458) (d := 7) dL_text_457 (bx.ar 0 rfl) (by decide) (by decide) (bx.f 7 rfl) rfl ?_
                      refine r_istore (pc' := 460) (lv' := [(12, _), (11, _), (7, _), (10, _), (9, _), (8, _), (2, _), (0, _), (1, _), (3, _), (4, _), (5, _), (6, _)]) dL_text_458 (by decide) rfl rfl ?_
                      refine r_aload_n (pc' := 461) dL_text_460 rfl 7 rfl rfl ?_
                      refine r_getNO (pc' := 464) dL_text_461 fn_L_117 ((bx.K.mono fun c hc q => q hc : Kp (fun _ => False) _ _ _ _).o (LQ.o hxp)) rfl (by rw [(bx.K.mono fun c hc q => q hc : Kp (fun _ => False) _ _ _ _).gR (LQ.o hxp).1 id]; exact hd12) rfl ?_
                      refine r_iload (pc' := 466) dL_text_464 2 rfl rfl ?_
                      refine r_iinc (pc' := 469) (lv' := [(7, _), (12, _), (11, _), (10, _), (9, _), (8, _), (2, _), (0, _), (1, _), (3, _), (4, _), (5, _), (6, _)]) dL_text_466 2 rfl rfl (by decide) rfl rfl ?_
                      refine aa_lv (lv' := [(7, .int (nI 11)), (12, _), (11, _), (10, _), (9, _), (8, _), (2, _), (0, _), (1, _), (3, _), (4, _), (5, _), (6, _)]) rfl ?_
                      refine r_iload (pc' := 471) dL_text_469 1 rfl rfl ?_
                      refine r_iastN (pc' := 472) (d := 10) dL_text_471 (bx.ar 1 rfl) rfl (by decide) (by decide) rfl ?_
                      replace bx := bx.putI (a := zp) (j := 10) (x := nI a0) (bx.n 1 rfl).2 (bx.n 1 rfl).1 (by simp)
                      refine r_iinc (pc' := 475) (lv' := [(11, _), (7, _), (12, _), (10, _), (9, _), (8, _), (2, _), (0, _), (1, _), (3, _), (4, _), (5, _), (6, _)]) dL_text_472 2 rfl rfl (by decide) rfl rfl ?_
                      refine aa_lv (lv' := [(11, .int (nI 8)), (7, _), (12, _), (10, _), (9, _), (8, _), (2, _), (0, _), (1, _), (3, _), (4, _), (5, _), (6, _)]) rfl ?_
                      refine r_goto (tgt := 446) dL_text_475 rfl ?_
                      refine r_iload (pc' := 448) dL_text_446 0 rfl rfl ?_
                      refine r_iload (pc' := 450) dL_text_448 3 rfl rfl ?_
                      refine r_icmp_ge (tgt := 478) (pc' := 453) dL_text_450 rfl rfl (fun h450 => ?_) (fun h450 => ?_)
                      · refine aa_locs (ks := [6, 7, 8]) (lv' := [(2, _), (0, _), (1, _)]) rfl ?_
                        refine aa_widen (k' := 110) (n' := 200100) (by decide) (by decide) ?_
                        have key : ∀ (I3 : JI) (S3 : JS), BD I Sb I3 S3 [] [(11, za, 8), (11, zp, 11)] [(zp, 10, nI a0), (zp, 9, nI c0), (zp, 8, nI c0), (zp, 7, nI a0), (zp, 6, nI b0), (zp, 5, nI c0), (zp, 4, nI b0), (zp, 3, nI a0), (za, 7, nI a0), (za, 6, nI c0), (za, 5, nI c0), (za, 4, nI a0), (za, 3, nI b0), (za, 2, nI c0), (za, 1, nI b0), (za, 0, nI a0), (zp, 2, nI c0), (zp, 1, nI b0), (zp, 0, nI a0)] [(11, za), (11, zp)] [za, zp] → DK Ω L0 S3 I3 d (fun j => if j = 12 then zp else A j, C, (tH T, tW T, 11, tS T, tM T), I3 (A 8), I3 zp, fun k => I3 (C k)) (oE Ω) (oE Ω) 0 0 ∧ DT T (PK a0 b0 c0 1) (fun j => if j = 12 then zp else A j, C, (tH T, tW T, 11, tS T, tM T), I3 (A 8), I3 zp, fun k => I3 (C k)) I3 := by
                          clear bx
                          intro I3 S3 b1
                          have kF : Kp (fun _ => False) I Sb I3 S3 := b1.K.mono fun c hc q => q hc
                          have hx3 : LQ Ω L0 S3 I3 d A C T := hxp.kp kF b1.T (fun _ _ e => e.elim)
                          obtain ⟨⟨v1, v2⟩, ⟨v3, v4⟩, v5, ⟨v6, v7⟩, ⟨v8, v9⟩, v10, v11⟩ := hx3.tv
                          have hpk : ∀ i, i < 11 → I3 zp i = nI ((PK a0 b0 c0 1).getD i 0) := by
                            intro i hi
                            rcases (show i = 0 ∨ i = 1 ∨ i = 2 ∨ i = 3 ∨ i = 4 ∨ i = 5 ∨ i = 6 ∨ i = 7 ∨ i = 8 ∨ i = 9 ∨ i = 10 by omega) with rfl | rfl | rfl | rfl | rfl | rfl | rfl | rfl | rfl | rfl | rfl
                            · exact (b1.f 18 rfl)
                            · exact (b1.f 17 rfl)
                            · exact (b1.f 16 rfl)
                            · exact (b1.f 7 rfl)
                            · exact (b1.f 6 rfl)
                            · exact (b1.f 5 rfl)
                            · exact (b1.f 4 rfl)
                            · exact (b1.f 3 rfl)
                            · exact (b1.f 2 rfl)
                            · exact (b1.f 1 rfl)
                            · exact (b1.f 0 rfl)
                          refine ⟨⟨hx3.o, fun j h1 h2 => ?_, ⟨hx3.a4, hx3.a5, hx3.a6, hx3.a7, hx3.a8, hx3.a9, hx3.a10, hx3.a11, (b1.ar 1 rfl)⟩, fun k hk => ⟨(hx3.cr k hk).1, (hx3.cr k hk).2.1, rfl⟩, ⟨hx3.f0, hx3.f2, hx3.f3, rfl, rfl⟩, ⟨⟨hx3.l13.1, hx3.l13.2.1, hx3.l13.2.2, b1.T, Or.inl ⟨rfl, rfl⟩⟩, fun i hi => absurd hi (Nat.not_lt_zero i)⟩, ⟨⟨hx3.l14.1, hx3.l14.2.1, hx3.l14.2.2, b1.T, Or.inl ⟨rfl, rfl⟩⟩, fun i hi => absurd hi (Nat.not_lt_zero i)⟩, Or.inr rfl, ⟨⟨(by obtain ⟨g1, g2, g3, g4, g5, g6⟩ := hx3.dx.1 4 (by decide); exact ⟨g1, g2, g3, nin_ne2 hxp.a4.1 hzp2, g4, g5, g6⟩), (by obtain ⟨g1, g2, g3, g4, g5, g6⟩ := hx3.dx.1 5 (by decide); exact ⟨g1, g2, g3, nin_ne2 hxp.a5.1 hzp2, g4, g5, g6⟩), (by obtain ⟨g1, g2, g3, g4, g5, g6⟩ := hx3.dx.1 6 (by decide); exact ⟨g1, g2, g3, nin_ne2 hxp.a6.1 hzp2, g4, g5, g6⟩), (by obtain ⟨g1, g2, g3, g4, g5, g6⟩ := hx3.dx.1 7 (by decide); exact ⟨g1, g2, g3, nin_ne2 hxp.a7.1 hzp2, g4, g5, g6⟩), (by obtain ⟨g1, g2, g3, g4, g5, g6⟩ := hx3.dx.1 10 (by decide); exact ⟨g1, g2, g3, nin_ne2 hxp.a10.1 hzp2, g4, g5, g6⟩)⟩, hx3.dx.2.1, hx3.dx.2.2.1, hx3.dx.2.2.2.1⟩, ⟨⟨v2, v9, by show 10 ≤ 11; decide, by show 11 ≤ 20; decide, v5⟩, fun j hj => ⟨tOn T j, (v10 j (by have : j < tW T := hj; omega)).1, (hx3.wv j (by have : j < tW T := hj; omega)).1⟩, fun j hj => ⟨(PK a0 b0 c0 1).getD j 0, PK_lt ha hb3 hc _ (getD_mem hj), hpk j hj⟩, fun k hk => ⟨tWe T k, (v11 k hk).2.1, (hx3.cr k hk).2.2.2⟩⟩⟩, ⟨rfl, rfl, rfl, rfl⟩, fun x hx => (hx3.wv x hx).1, fun k hk => (hx3.cr k hk).2.2.1, fun i hi => hpk i hi, fun f hf => ⟨tYa T f, by have := (v11 f hf).2.2.1; show tW T ≤ tYa T f; omega, by have := (v11 f hf).2.2.2; omega, hx3.yv f hf⟩, fun j hj => ?_, fun j hj => ?_, fun j hj => ?_⟩
                          · by_cases e : j = 12
                            · subst e; show sR S3 d 12 = some zp; rw [kF.gR hxp.o.1 id]; exact hd12
                            · show sR S3 d j = some (if j = 12 then zp else A j); rw [if_neg e]; exact hx3.rr j h1 h2 e
                          · have : j < tH T := hj
                            show fits .boolean (.int (I3 (A 4) j)) = true
                            rw [(hx3.zv j (by omega)).1]; decide
                          · have : j < tH T := hj
                            show fits .boolean (.int (I3 (A 5) j)) = true
                            rw [(hx3.zv j (by omega)).2.1]; decide
                          · have : j < tW T := hj
                            show fits .boolean (.int (I3 (A 6) j)) = true
                            rw [(hx3.zv j (by omega)).2.2]; decide
                        exact hk _ _ _ (h.stp (bx.K.mono fun c hc q => q hc : Kp (fun _ => False) _ _ _ _) bx.T (key _ _ bx).1 (fun _ _ e => e.elim)) (key _ _ bx).2
                      · exact absurd (show (8 : Int32) ≤ nI 8 by decide) h450
    · exact absurd (show nI 1 ≤ nI 1 by decide) h356
set_option maxHeartbeats 8000000 in
theorem l_text_d2 {Ω : JO} {Q : JQ} {I I0 : JI} {S S0 : JS} {L0 : List Nat} {d : Nat} {A C : Nat → Nat} {T : TP} {v : Int32} {b a0 b0 c0 : Nat} {t : List Nat} (ha : a0 < 3) (hb3 : b0 < 3) (hc : c0 < 3) (h : TS (fun S I => LQ Ω L0 S I d A C T) L0 I0 S0 S I b t 290) (hk : ∀ I' S' D, TS (fun S I => DK Ω L0 S I d D (oE Ω) (oE Ω) 0 0) L0 I0 S0 S' I' b t 290 → DT T (PK a0 b0 c0 2) D I' → AA Ω m_L_text (FQ Ω m_L_text Q) 110 200100 478 [(2, .ref b), (0, .ref d), (1, .int v)] [] I' S') : AA Ω m_L_text (FQ Ω m_L_text Q) 100 200000 320 [(2, .ref b), (0, .ref d), (1, .int v), (3, .int (nI a0)), (4, .int (nI b0)), (5, .int (nI c0)), (6, .int (nI 2))] [] I S := by
  refine r_aload_n (pc' := 321) dL_text_320 rfl 1 rfl rfl ?_
  refine r_iconst (pc' := 322) (v := 1) dL_text_321 (by decide) rfl ?_
  refine r_iconst (pc' := 323) (v := 2) dL_text_322 (by decide) rfl ?_
  refine r_iload (pc' := 325) dL_text_323 6 rfl rfl ?_
  refine r_imulv (pc' := 326) dL_text_325 (show (2 : Int32) * nI 2 = nI 4 from by decide) rfl ?_
  refine r_iaddv (pc' := 327) dL_text_326 (show (1 : Int32) + nI 4 = nI 5 from by decide) rfl ?_
  refine r_bipush (pc' := 329) (v := 8) dL_text_327 (by decide) rfl ?_
  refine r_iaddv (pc' := 330) dL_text_329 (show nI 5 + (8 : Int32) = nI 13 from by decide) rfl ?_
  refine r_newIG (pc' := 332) (N := 13) dL_text_330 (by decide) (by decide) (by decide) (Nat.le_of_ble_eq_true rfl) (Nat.le_of_ble_eq_true rfl) rfl (fun zp hz0 => aa_widen (k' := 101) (n' := 200013) (by decide) (by decide) ?_)
  have hzp : zp ∉ sL S := notin_of hz0
  have hdz : d ≠ zp := fun e => hzp (e ▸ (LQ.o h.x).1)
  refine r_putNR (pc' := 335) dL_text_332 fn_L_117 ((Kp.nw (P := fun _ => False) (I := I) hzp).o (LQ.o h.x)) rfl rfl ⟨rfl, rfl⟩ rfl ?_
  rw [stR_nwN hdz]
  have hxp : LQ Ω L0 (stR S d 12 (some zp)) I d A C T := LQ.put12 h.x (some zp)
  have hzp2 : zp ∉ sL (stR S d 12 (some zp)) := hzp
  replace h : TS (fun S I => LQ Ω L0 S I d A C T) L0 I0 S0 (stR S d 12 (some zp)) I b t 290 := h.stp (Kp.stR (P := fun c => c = d) rfl) h.T hxp (fun c _ e => by subst e; exact ⟨(LQ.dx h.x).2.2.2.2, by rw [(LQ.o h.x).2]; decide, by rw [(LQ.o h.x).2]; decide⟩)
  have hd12 : sR (stR S d 12 (some zp)) d 12 = some zp := stR_R1
  obtain ⟨Sb, hSb⟩ : ∃ Sb, Sb = stR S d 12 (some zp) := ⟨_, rfl⟩
  rw [← hSb] at hxp hzp2 h hd12 ⊢
  have bb : BD I Sb (nwI I zp) (nwN Sb zp 11 13) [] [(11, zp, 13)] [] [(11, zp)] [zp] := (BD.rf h.T).nw (ki := 11) (m := 13) hzp2 (Kp.nw hzp2)
  have bx := bb
  refine r_iconst (pc' := 336) (v := 0) dL_text_335 (by decide) rfl ?_
  refine r_istore (pc' := 338) (lv' := [(7, _), (2, _), (0, _), (1, _), (3, _), (4, _), (5, _), (6, _)]) dL_text_336 (by decide) rfl rfl ?_
  refine r_aload_n (pc' := 339) dL_text_338 rfl 2 rfl rfl ?_
  refine r_getNO (pc' := 342) dL_text_339 fn_L_117 ((bx.K.mono fun c hc q => q hc : Kp (fun _ => False) _ _ _ _).o (LQ.o hxp)) rfl (by rw [(bx.K.mono fun c hc q => q hc : Kp (fun _ => False) _ _ _ _).gR (LQ.o hxp).1 id]; exact hd12) rfl ?_
  refine r_iload (pc' := 344) dL_text_342 0 rfl rfl ?_
  refine r_iinc (pc' := 347) (lv' := [(7, _), (2, _), (0, _), (1, _), (3, _), (4, _), (5, _), (6, _)]) dL_text_344 0 rfl rfl (by decide) rfl rfl ?_
  refine aa_lv (lv' := [(7, .int (nI 1)), (2, _), (0, _), (1, _), (3, _), (4, _), (5, _), (6, _)]) rfl ?_
  refine r_iload_n (pc' := 348) dL_text_347 rfl 4 rfl rfl ?_
  refine r_iastN (pc' := 349) (d := 0) dL_text_348 (bx.ar 0 rfl) rfl (by decide) (by decide) rfl ?_
  replace bx := bx.putI (a := zp) (j := 0) (x := nI a0) (bx.n 0 rfl).2 (bx.n 0 rfl).1 (by simp)
  refine r_iconst (pc' := 350) (v := 0) dL_text_349 (by decide) rfl ?_
  refine r_istore (pc' := 352) (lv' := [(8, _), (7, _), (2, _), (0, _), (1, _), (3, _), (4, _), (5, _), (6, _)]) dL_text_350 (by decide) rfl rfl ?_
  refine r_iload (pc' := 354) dL_text_352 0 rfl rfl ?_
  refine r_iload (pc' := 356) dL_text_354 8 rfl rfl ?_
  refine r_icmp_ge (tgt := 389) (pc' := 359) dL_text_356 rfl rfl (fun h356 => ?_) (fun h356 => ?_)
  · exact absurd h356 (by decide)
  · refine r_aload_n (pc' := 360) dL_text_359 rfl 3 rfl rfl ?_
    refine r_getNO (pc' := 363) dL_text_360 fn_L_117 ((bx.K.mono fun c hc q => q hc : Kp (fun _ => False) _ _ _ _).o (LQ.o hxp)) rfl (by rw [(bx.K.mono fun c hc q => q hc : Kp (fun _ => False) _ _ _ _).gR (LQ.o hxp).1 id]; exact hd12) rfl ?_
    refine r_iload (pc' := 365) dL_text_363 1 rfl rfl ?_
    refine r_iinc (pc' := 368) (lv' := [(7, _), (8, _), (2, _), (0, _), (1, _), (3, _), (4, _), (5, _), (6, _)]) dL_text_365 1 rfl rfl (by decide) rfl rfl ?_
    refine aa_lv (lv' := [(7, .int (nI 2)), (8, _), (2, _), (0, _), (1, _), (3, _), (4, _), (5, _), (6, _)]) rfl ?_
    refine r_iload (pc' := 370) dL_text_368 6 rfl rfl ?_
    refine r_iastN (pc' := 371) (d := 1) dL_text_370 (bx.ar 0 rfl) rfl (by decide) (by decide) rfl ?_
    replace bx := bx.putI (a := zp) (j := 1) (x := nI b0) (bx.n 0 rfl).2 (bx.n 0 rfl).1 (by simp)
    refine r_aload_n (pc' := 372) dL_text_371 rfl 3 rfl rfl ?_
    refine r_getNO (pc' := 375) dL_text_372 fn_L_117 ((bx.K.mono fun c hc q => q hc : Kp (fun _ => False) _ _ _ _).o (LQ.o hxp)) rfl (by rw [(bx.K.mono fun c hc q => q hc : Kp (fun _ => False) _ _ _ _).gR (LQ.o hxp).1 id]; exact hd12) rfl ?_
    refine r_iload (pc' := 377) dL_text_375 0 rfl rfl ?_
    refine r_iinc (pc' := 380) (lv' := [(7, _), (8, _), (2, _), (0, _), (1, _), (3, _), (4, _), (5, _), (6, _)]) dL_text_377 0 rfl rfl (by decide) rfl rfl ?_
    refine aa_lv (lv' := [(7, .int (nI 3)), (8, _), (2, _), (0, _), (1, _), (3, _), (4, _), (5, _), (6, _)]) rfl ?_
    refine r_iload (pc' := 382) dL_text_380 7 rfl rfl ?_
    refine r_iastN (pc' := 383) (d := 2) dL_text_382 (bx.ar 0 rfl) rfl (by decide) (by decide) rfl ?_
    replace bx := bx.putI (a := zp) (j := 2) (x := nI c0) (bx.n 0 rfl).2 (bx.n 0 rfl).1 (by simp)
    refine r_iinc (pc' := 386) (lv' := [(8, _), (7, _), (2, _), (0, _), (1, _), (3, _), (4, _), (5, _), (6, _)]) dL_text_383 1 rfl rfl (by decide) rfl rfl ?_
    refine aa_lv (lv' := [(8, .int (nI 1)), (7, _), (2, _), (0, _), (1, _), (3, _), (4, _), (5, _), (6, _)]) rfl ?_
    refine r_goto (tgt := 352) dL_text_386 rfl ?_
    refine r_iload (pc' := 354) dL_text_352 0 rfl rfl ?_
    refine r_iload (pc' := 356) dL_text_354 8 rfl rfl ?_
    refine r_icmp_ge (tgt := 389) (pc' := 359) dL_text_356 rfl rfl (fun h356 => ?_) (fun h356 => ?_)
    · exact absurd h356 (by decide)
    · refine r_aload_n (pc' := 360) dL_text_359 rfl 3 rfl rfl ?_
      refine r_getNO (pc' := 363) dL_text_360 fn_L_117 ((bx.K.mono fun c hc q => q hc : Kp (fun _ => False) _ _ _ _).o (LQ.o hxp)) rfl (by rw [(bx.K.mono fun c hc q => q hc : Kp (fun _ => False) _ _ _ _).gR (LQ.o hxp).1 id]; exact hd12) rfl ?_
      refine r_iload (pc' := 365) dL_text_363 1 rfl rfl ?_
      refine r_iinc (pc' := 368) (lv' := [(7, _), (8, _), (2, _), (0, _), (1, _), (3, _), (4, _), (5, _), (6, _)]) dL_text_365 1 rfl rfl (by decide) rfl rfl ?_
      refine aa_lv (lv' := [(7, .int (nI 4)), (8, _), (2, _), (0, _), (1, _), (3, _), (4, _), (5, _), (6, _)]) rfl ?_
      refine r_iload (pc' := 370) dL_text_368 6 rfl rfl ?_
      refine r_iastN (pc' := 371) (d := 3) dL_text_370 (bx.ar 0 rfl) rfl (by decide) (by decide) rfl ?_
      replace bx := bx.putI (a := zp) (j := 3) (x := nI b0) (bx.n 0 rfl).2 (bx.n 0 rfl).1 (by simp)
      refine r_aload_n (pc' := 372) dL_text_371 rfl 3 rfl rfl ?_
      refine r_getNO (pc' := 375) dL_text_372 fn_L_117 ((bx.K.mono fun c hc q => q hc : Kp (fun _ => False) _ _ _ _).o (LQ.o hxp)) rfl (by rw [(bx.K.mono fun c hc q => q hc : Kp (fun _ => False) _ _ _ _).gR (LQ.o hxp).1 id]; exact hd12) rfl ?_
      refine r_iload (pc' := 377) dL_text_375 0 rfl rfl ?_
      refine r_iinc (pc' := 380) (lv' := [(7, _), (8, _), (2, _), (0, _), (1, _), (3, _), (4, _), (5, _), (6, _)]) dL_text_377 0 rfl rfl (by decide) rfl rfl ?_
      refine aa_lv (lv' := [(7, .int (nI 5)), (8, _), (2, _), (0, _), (1, _), (3, _), (4, _), (5, _), (6, _)]) rfl ?_
      refine r_iload (pc' := 382) dL_text_380 7 rfl rfl ?_
      refine r_iastN (pc' := 383) (d := 4) dL_text_382 (bx.ar 0 rfl) rfl (by decide) (by decide) rfl ?_
      replace bx := bx.putI (a := zp) (j := 4) (x := nI c0) (bx.n 0 rfl).2 (bx.n 0 rfl).1 (by simp)
      refine r_iinc (pc' := 386) (lv' := [(8, _), (7, _), (2, _), (0, _), (1, _), (3, _), (4, _), (5, _), (6, _)]) dL_text_383 1 rfl rfl (by decide) rfl rfl ?_
      refine aa_lv (lv' := [(8, .int (nI 2)), (7, _), (2, _), (0, _), (1, _), (3, _), (4, _), (5, _), (6, _)]) rfl ?_
      refine r_goto (tgt := 352) dL_text_386 rfl ?_
      refine r_iload (pc' := 354) dL_text_352 0 rfl rfl ?_
      refine r_iload (pc' := 356) dL_text_354 8 rfl rfl ?_
      refine r_icmp_ge (tgt := 389) (pc' := 359) dL_text_356 rfl rfl (fun h356 => ?_) (fun h356 => ?_)
      · refine r_bipush (pc' := 391) (v := 8) dL_text_389 (by decide) rfl ?_
        refine r_newIG (pc' := 393) (N := 8) dL_text_391 (by decide) (by decide) (by decide) (Nat.le_of_ble_eq_true rfl) (Nat.le_of_ble_eq_true rfl) rfl (fun za hzz => aa_widen (k' := 102) (n' := 200050) (by decide) (by decide) ?_)
        have hza := notin_of hzz
        replace bx := bx.nw (ki := 11) (m := 8) hza (Kp.nw hza)
        refine r_dup (pc' := 394) dL_text_393 rfl rfl ?_
        refine r_iconst (pc' := 395) (v := 0) dL_text_394 (by decide) rfl ?_
        refine r_iload_n (pc' := 396) dL_text_395 rfl 5 rfl rfl ?_
        refine r_iastN (pc' := 397) (d := 0) dL_text_396 (bx.ar 0 rfl) rfl (by decide) (by decide) rfl ?_
        replace bx := bx.putI (a := za) (j := 0) (x := nI a0) (bx.n 0 rfl).2 (bx.n 0 rfl).1 (by simp [(bx.ne 1 0 rfl rfl (by decide))])
        refine r_dup (pc' := 398) dL_text_397 rfl rfl ?_
        refine r_iconst (pc' := 399) (v := 1) dL_text_398 (by decide) rfl ?_
        refine r_iload (pc' := 401) dL_text_399 6 rfl rfl ?_
        refine r_iastN (pc' := 402) (d := 1) dL_text_401 (bx.ar 0 rfl) rfl (by decide) (by decide) rfl ?_
        replace bx := bx.putI (a := za) (j := 1) (x := nI b0) (bx.n 0 rfl).2 (bx.n 0 rfl).1 (by simp [(bx.ne 1 0 rfl rfl (by decide))])
        refine r_dup (pc' := 403) dL_text_402 rfl rfl ?_
        refine r_iconst (pc' := 404) (v := 2) dL_text_403 (by decide) rfl ?_
        refine r_iload (pc' := 406) dL_text_404 7 rfl rfl ?_
        refine r_iastN (pc' := 407) (d := 2) dL_text_406 (bx.ar 0 rfl) rfl (by decide) (by decide) rfl ?_
        replace bx := bx.putI (a := za) (j := 2) (x := nI c0) (bx.n 0 rfl).2 (bx.n 0 rfl).1 (by simp [(bx.ne 1 0 rfl rfl (by decide))])
        refine r_dup (pc' := 408) dL_text_407 rfl rfl ?_
        refine r_iconst (pc' := 409) (v := 3) dL_text_408 (by decide) rfl ?_
        refine r_iload (pc' := 411) dL_text_409 6 rfl rfl ?_
        refine r_iastN (pc' := 412) (d := 3) dL_text_411 (bx.ar 0 rfl) rfl (by decide) (by decide) rfl ?_
        replace bx := bx.putI (a := za) (j := 3) (x := nI b0) (bx.n 0 rfl).2 (bx.n 0 rfl).1 (by simp [(bx.ne 1 0 rfl rfl (by decide))])
        refine r_dup (pc' := 413) dL_text_412 rfl rfl ?_
        refine r_iconst (pc' := 414) (v := 4) dL_text_413 (by decide) rfl ?_
        refine r_iload_n (pc' := 415) dL_text_414 rfl 5 rfl rfl ?_
        refine r_iastN (pc' := 416) (d := 4) dL_text_415 (bx.ar 0 rfl) rfl (by decide) (by decide) rfl ?_
        replace bx := bx.putI (a := za) (j := 4) (x := nI a0) (bx.n 0 rfl).2 (bx.n 0 rfl).1 (by simp [(bx.ne 1 0 rfl rfl (by decide))])
        refine r_dup (pc' := 417) dL_text_416 rfl rfl ?_
        refine r_iconst (pc' := 418) (v := 5) dL_text_417 (by decide) rfl ?_
        refine r_iload (pc' := 420) dL_text_418 7 rfl rfl ?_
        refine r_iastN (pc' := 421) (d := 5) dL_text_420 (bx.ar 0 rfl) rfl (by decide) (by decide) rfl ?_
        replace bx := bx.putI (a := za) (j := 5) (x := nI c0) (bx.n 0 rfl).2 (bx.n 0 rfl).1 (by simp)
        refine r_dup (pc' := 422) dL_text_421 rfl rfl ?_
        refine r_bipush (pc' := 424) (v := 6) dL_text_422 (by decide) rfl ?_
        refine r_iload (pc' := 426) dL_text_424 7 rfl rfl ?_
        refine r_iastN (pc' := 427) (d := 6) dL_text_426 (bx.ar 0 rfl) rfl (by decide) (by decide) rfl ?_
        replace bx := bx.putI (a := za) (j := 6) (x := nI c0) (bx.n 0 rfl).2 (bx.n 0 rfl).1 (by simp)
        refine r_dup (pc' := 428) dL_text_427 rfl rfl ?_
        refine r_bipush (pc' := 430) (v := 7) dL_text_428 (by decide) rfl ?_
        refine r_iload_n (pc' := 431) dL_text_430 rfl 5 rfl rfl ?_
        refine r_iastN (pc' := 432) (d := 7) dL_text_431 (bx.ar 0 rfl) rfl (by decide) (by decide) rfl ?_
        replace bx := bx.putI (a := za) (j := 7) (x := nI a0) (bx.n 0 rfl).2 (bx.n 0 rfl).1 (by simp)
        refine r_astore (pc' := 434) (lv' := [(8, _), (7, _), (2, _), (0, _), (1, _), (3, _), (4, _), (5, _), (6, _)]) dL_text_432 (by decide) rfl rfl ?_
        refine r_aload (pc' := 436) dL_text_434 0 rfl rfl ?_
        refine r_astore (pc' := 438) (lv' := [(9, _), (8, _), (7, _), (2, _), (0, _), (1, _), (3, _), (4, _), (5, _), (6, _)]) dL_text_436 (by decide) rfl rfl ?_
        refine r_aload (pc' := 440) dL_text_438 0 rfl rfl ?_
        refine r_alen (pc' := 441) (v := 8) dL_text_440 (bx.ar 0 rfl) (by decide) rfl rfl ?_
        refine r_istore (pc' := 443) (lv' := [(10, _), (9, _), (8, _), (7, _), (2, _), (0, _), (1, _), (3, _), (4, _), (5, _), (6, _)]) dL_text_441 (by decide) rfl rfl ?_
        refine r_iconst (pc' := 444) (v := 0) dL_text_443 (by decide) rfl ?_
        refine r_istore (pc' := 446) (lv' := [(11, _), (10, _), (9, _), (8, _), (7, _), (2, _), (0, _), (1, _), (3, _), (4, _), (5, _), (6, _)]) dL_text_444 (by decide) rfl rfl ?_
        refine r_iload (pc' := 448) dL_text_446 0 rfl rfl ?_
        refine r_iload (pc' := 450) dL_text_448 1 rfl rfl ?_
        refine r_icmp_ge (tgt := 478) (pc' := 453) dL_text_450 rfl rfl (fun h450 => ?_) (fun h450 => ?_)
        · exact absurd h450 (by decide)
        · refine r_aload (pc' := 455) dL_text_453 2 rfl rfl ?_
          refine r_iload (pc' := 457) dL_text_455 0 rfl rfl ?_
          refine r_ialoadN (pc' := 458) (d := 0) dL_text_457 (bx.ar 0 rfl) (by decide) (by decide) (bx.f 7 rfl) rfl ?_
          refine r_istore (pc' := 460) (lv' := [(12, _), (11, _), (10, _), (9, _), (8, _), (7, _), (2, _), (0, _), (1, _), (3, _), (4, _), (5, _), (6, _)]) dL_text_458 (by decide) rfl rfl ?_
          refine r_aload_n (pc' := 461) dL_text_460 rfl 7 rfl rfl ?_
          refine r_getNO (pc' := 464) dL_text_461 fn_L_117 ((bx.K.mono fun c hc q => q hc : Kp (fun _ => False) _ _ _ _).o (LQ.o hxp)) rfl (by rw [(bx.K.mono fun c hc q => q hc : Kp (fun _ => False) _ _ _ _).gR (LQ.o hxp).1 id]; exact hd12) rfl ?_
          refine r_iload (pc' := 466) dL_text_464 5 rfl rfl ?_
          refine r_iinc (pc' := 469) (lv' := [(7, _), (12, _), (11, _), (10, _), (9, _), (8, _), (2, _), (0, _), (1, _), (3, _), (4, _), (5, _), (6, _)]) dL_text_466 5 rfl rfl (by decide) rfl rfl ?_
          refine aa_lv (lv' := [(7, .int (nI 6)), (12, _), (11, _), (10, _), (9, _), (8, _), (2, _), (0, _), (1, _), (3, _), (4, _), (5, _), (6, _)]) rfl ?_
          refine r_iload (pc' := 471) dL_text_469 1 rfl rfl ?_
          refine r_iastN (pc' := 472) (d := 5) dL_text_471 (bx.ar 1 rfl) rfl (by decide) (by decide) rfl ?_
          replace bx := bx.putI (a := zp) (j := 5) (x := nI a0) (bx.n 1 rfl).2 (bx.n 1 rfl).1 (by simp [(bx.ne 0 1 rfl rfl (by decide))])
          refine r_iinc (pc' := 475) (lv' := [(11, _), (7, _), (12, _), (10, _), (9, _), (8, _), (2, _), (0, _), (1, _), (3, _), (4, _), (5, _), (6, _)]) dL_text_472 2 rfl rfl (by decide) rfl rfl ?_
          refine aa_lv (lv' := [(11, .int (nI 1)), (7, _), (12, _), (10, _), (9, _), (8, _), (2, _), (0, _), (1, _), (3, _), (4, _), (5, _), (6, _)]) rfl ?_
          refine r_goto (tgt := 446) dL_text_475 rfl ?_
          refine r_iload (pc' := 448) dL_text_446 0 rfl rfl ?_
          refine r_iload (pc' := 450) dL_text_448 3 rfl rfl ?_
          refine r_icmp_ge (tgt := 478) (pc' := 453) dL_text_450 rfl rfl (fun h450 => ?_) (fun h450 => ?_)
          · exact absurd h450 (by decide)
          · refine r_aload (pc' := 455) dL_text_453 4 rfl rfl ?_
            refine r_iload (pc' := 457) dL_text_455 0 rfl rfl ?_
            refine r_ialoadN (pc' := 458) (d := 1) dL_text_457 (bx.ar 0 rfl) (by decide) (by decide) (bx.f 7 rfl) rfl ?_
            refine r_istore (pc' := 460) (lv' := [(12, _), (11, _), (7, _), (10, _), (9, _), (8, _), (2, _), (0, _), (1, _), (3, _), (4, _), (5, _), (6, _)]) dL_text_458 (by decide) rfl rfl ?_
            refine r_aload_n (pc' := 461) dL_text_460 rfl 7 rfl rfl ?_
            refine r_getNO (pc' := 464) dL_text_461 fn_L_117 ((bx.K.mono fun c hc q => q hc : Kp (fun _ => False) _ _ _ _).o (LQ.o hxp)) rfl (by rw [(bx.K.mono fun c hc q => q hc : Kp (fun _ => False) _ _ _ _).gR (LQ.o hxp).1 id]; exact hd12) rfl ?_
            refine r_iload (pc' := 466) dL_text_464 2 rfl rfl ?_
            refine r_iinc (pc' := 469) (lv' := [(7, _), (12, _), (11, _), (10, _), (9, _), (8, _), (2, _), (0, _), (1, _), (3, _), (4, _), (5, _), (6, _)]) dL_text_466 2 rfl rfl (by decide) rfl rfl ?_
            refine aa_lv (lv' := [(7, .int (nI 7)), (12, _), (11, _), (10, _), (9, _), (8, _), (2, _), (0, _), (1, _), (3, _), (4, _), (5, _), (6, _)]) rfl ?_
            refine r_iload (pc' := 471) dL_text_469 1 rfl rfl ?_
            refine r_iastN (pc' := 472) (d := 6) dL_text_471 (bx.ar 1 rfl) rfl (by decide) (by decide) rfl ?_
            replace bx := bx.putI (a := zp) (j := 6) (x := nI b0) (bx.n 1 rfl).2 (bx.n 1 rfl).1 (by simp [(bx.ne 0 1 rfl rfl (by decide))])
            refine r_iinc (pc' := 475) (lv' := [(11, _), (7, _), (12, _), (10, _), (9, _), (8, _), (2, _), (0, _), (1, _), (3, _), (4, _), (5, _), (6, _)]) dL_text_472 2 rfl rfl (by decide) rfl rfl ?_
            refine aa_lv (lv' := [(11, .int (nI 2)), (7, _), (12, _), (10, _), (9, _), (8, _), (2, _), (0, _), (1, _), (3, _), (4, _), (5, _), (6, _)]) rfl ?_
            refine r_goto (tgt := 446) dL_text_475 rfl ?_
            refine r_iload (pc' := 448) dL_text_446 0 rfl rfl ?_
            refine r_iload (pc' := 450) dL_text_448 3 rfl rfl ?_
            refine r_icmp_ge (tgt := 478) (pc' := 453) dL_text_450 rfl rfl (fun h450 => ?_) (fun h450 => ?_)
            · exact absurd h450 (by decide)
            · refine r_aload (pc' := 455) dL_text_453 4 rfl rfl ?_
              refine r_iload (pc' := 457) dL_text_455 0 rfl rfl ?_
              refine r_ialoadN (pc' := 458) (d := 2) dL_text_457 (bx.ar 0 rfl) (by decide) (by decide) (bx.f 7 rfl) rfl ?_
              refine r_istore (pc' := 460) (lv' := [(12, _), (11, _), (7, _), (10, _), (9, _), (8, _), (2, _), (0, _), (1, _), (3, _), (4, _), (5, _), (6, _)]) dL_text_458 (by decide) rfl rfl ?_
              refine r_aload_n (pc' := 461) dL_text_460 rfl 7 rfl rfl ?_
              refine r_getNO (pc' := 464) dL_text_461 fn_L_117 ((bx.K.mono fun c hc q => q hc : Kp (fun _ => False) _ _ _ _).o (LQ.o hxp)) rfl (by rw [(bx.K.mono fun c hc q => q hc : Kp (fun _ => False) _ _ _ _).gR (LQ.o hxp).1 id]; exact hd12) rfl ?_
              refine r_iload (pc' := 466) dL_text_464 2 rfl rfl ?_
              refine r_iinc (pc' := 469) (lv' := [(7, _), (12, _), (11, _), (10, _), (9, _), (8, _), (2, _), (0, _), (1, _), (3, _), (4, _), (5, _), (6, _)]) dL_text_466 2 rfl rfl (by decide) rfl rfl ?_
              refine aa_lv (lv' := [(7, .int (nI 8)), (12, _), (11, _), (10, _), (9, _), (8, _), (2, _), (0, _), (1, _), (3, _), (4, _), (5, _), (6, _)]) rfl ?_
              refine r_iload (pc' := 471) dL_text_469 1 rfl rfl ?_
              refine r_iastN (pc' := 472) (d := 7) dL_text_471 (bx.ar 1 rfl) rfl (by decide) (by decide) rfl ?_
              replace bx := bx.putI (a := zp) (j := 7) (x := nI c0) (bx.n 1 rfl).2 (bx.n 1 rfl).1 (by simp [(bx.ne 0 1 rfl rfl (by decide))])
              refine r_iinc (pc' := 475) (lv' := [(11, _), (7, _), (12, _), (10, _), (9, _), (8, _), (2, _), (0, _), (1, _), (3, _), (4, _), (5, _), (6, _)]) dL_text_472 2 rfl rfl (by decide) rfl rfl ?_
              refine aa_lv (lv' := [(11, .int (nI 3)), (7, _), (12, _), (10, _), (9, _), (8, _), (2, _), (0, _), (1, _), (3, _), (4, _), (5, _), (6, _)]) rfl ?_
              refine r_goto (tgt := 446) dL_text_475 rfl ?_
              refine r_iload (pc' := 448) dL_text_446 0 rfl rfl ?_
              refine r_iload (pc' := 450) dL_text_448 3 rfl rfl ?_
              refine r_icmp_ge (tgt := 478) (pc' := 453) dL_text_450 rfl rfl (fun h450 => ?_) (fun h450 => ?_)
              · exact absurd h450 (by decide)
              · refine r_aload (pc' := 455) dL_text_453 4 rfl rfl ?_
                refine r_iload (pc' := 457) dL_text_455 0 rfl rfl ?_
                refine r_ialoadN (pc' := 458) (d := 3) dL_text_457 (bx.ar 0 rfl) (by decide) (by decide) (bx.f 7 rfl) rfl ?_
                refine r_istore (pc' := 460) (lv' := [(12, _), (11, _), (7, _), (10, _), (9, _), (8, _), (2, _), (0, _), (1, _), (3, _), (4, _), (5, _), (6, _)]) dL_text_458 (by decide) rfl rfl ?_
                refine r_aload_n (pc' := 461) dL_text_460 rfl 7 rfl rfl ?_
                refine r_getNO (pc' := 464) dL_text_461 fn_L_117 ((bx.K.mono fun c hc q => q hc : Kp (fun _ => False) _ _ _ _).o (LQ.o hxp)) rfl (by rw [(bx.K.mono fun c hc q => q hc : Kp (fun _ => False) _ _ _ _).gR (LQ.o hxp).1 id]; exact hd12) rfl ?_
                refine r_iload (pc' := 466) dL_text_464 2 rfl rfl ?_
                refine r_iinc (pc' := 469) (lv' := [(7, _), (12, _), (11, _), (10, _), (9, _), (8, _), (2, _), (0, _), (1, _), (3, _), (4, _), (5, _), (6, _)]) dL_text_466 2 rfl rfl (by decide) rfl rfl ?_
                refine aa_lv (lv' := [(7, .int (nI 9)), (12, _), (11, _), (10, _), (9, _), (8, _), (2, _), (0, _), (1, _), (3, _), (4, _), (5, _), (6, _)]) rfl ?_
                refine r_iload (pc' := 471) dL_text_469 1 rfl rfl ?_
                refine r_iastN (pc' := 472) (d := 8) dL_text_471 (bx.ar 1 rfl) rfl (by decide) (by decide) rfl ?_
                replace bx := bx.putI (a := zp) (j := 8) (x := nI b0) (bx.n 1 rfl).2 (bx.n 1 rfl).1 (by simp)
                refine r_iinc (pc' := 475) (lv' := [(11, _), (7, _), (12, _), (10, _), (9, _), (8, _), (2, _), (0, _), (1, _), (3, _), (4, _), (5, _), (6, _)]) dL_text_472 2 rfl rfl (by decide) rfl rfl ?_
                refine aa_lv (lv' := [(11, .int (nI 4)), (7, _), (12, _), (10, _), (9, _), (8, _), (2, _), (0, _), (1, _), (3, _), (4, _), (5, _), (6, _)]) rfl ?_
                refine r_goto (tgt := 446) dL_text_475 rfl ?_
                refine r_iload (pc' := 448) dL_text_446 0 rfl rfl ?_
                refine r_iload (pc' := 450) dL_text_448 3 rfl rfl ?_
                refine r_icmp_ge (tgt := 478) (pc' := 453) dL_text_450 rfl rfl (fun h450 => ?_) (fun h450 => ?_)
                · exact absurd h450 (by decide)
                · refine r_aload (pc' := 455) dL_text_453 4 rfl rfl ?_
                  refine r_iload (pc' := 457) dL_text_455 0 rfl rfl ?_
                  refine r_ialoadN (pc' := 458) (d := 4) dL_text_457 (bx.ar 0 rfl) (by decide) (by decide) (bx.f 7 rfl) rfl ?_
                  refine r_istore (pc' := 460) (lv' := [(12, _), (11, _), (7, _), (10, _), (9, _), (8, _), (2, _), (0, _), (1, _), (3, _), (4, _), (5, _), (6, _)]) dL_text_458 (by decide) rfl rfl ?_
                  refine r_aload_n (pc' := 461) dL_text_460 rfl 7 rfl rfl ?_
                  refine r_getNO (pc' := 464) dL_text_461 fn_L_117 ((bx.K.mono fun c hc q => q hc : Kp (fun _ => False) _ _ _ _).o (LQ.o hxp)) rfl (by rw [(bx.K.mono fun c hc q => q hc : Kp (fun _ => False) _ _ _ _).gR (LQ.o hxp).1 id]; exact hd12) rfl ?_
                  refine r_iload (pc' := 466) dL_text_464 2 rfl rfl ?_
                  refine r_iinc (pc' := 469) (lv' := [(7, _), (12, _), (11, _), (10, _), (9, _), (8, _), (2, _), (0, _), (1, _), (3, _), (4, _), (5, _), (6, _)]) dL_text_466 2 rfl rfl (by decide) rfl rfl ?_
                  refine aa_lv (lv' := [(7, .int (nI 10)), (12, _), (11, _), (10, _), (9, _), (8, _), (2, _), (0, _), (1, _), (3, _), (4, _), (5, _), (6, _)]) rfl ?_
                  refine r_iload (pc' := 471) dL_text_469 1 rfl rfl ?_
                  refine r_iastN (pc' := 472) (d := 9) dL_text_471 (bx.ar 1 rfl) rfl (by decide) (by decide) rfl ?_
                  replace bx := bx.putI (a := zp) (j := 9) (x := nI a0) (bx.n 1 rfl).2 (bx.n 1 rfl).1 (by simp)
                  refine r_iinc (pc' := 475) (lv' := [(11, _), (7, _), (12, _), (10, _), (9, _), (8, _), (2, _), (0, _), (1, _), (3, _), (4, _), (5, _), (6, _)]) dL_text_472 2 rfl rfl (by decide) rfl rfl ?_
                  refine aa_lv (lv' := [(11, .int (nI 5)), (7, _), (12, _), (10, _), (9, _), (8, _), (2, _), (0, _), (1, _), (3, _), (4, _), (5, _), (6, _)]) rfl ?_
                  refine r_goto (tgt := 446) dL_text_475 rfl ?_
                  refine r_iload (pc' := 448) dL_text_446 0 rfl rfl ?_
                  refine r_iload (pc' := 450) dL_text_448 3 rfl rfl ?_
                  refine r_icmp_ge (tgt := 478) (pc' := 453) dL_text_450 rfl rfl (fun h450 => ?_) (fun h450 => ?_)
                  · exact absurd h450 (by decide)
                  · refine r_aload (pc' := 455) dL_text_453 4 rfl rfl ?_
                    refine r_iload (pc' := 457) dL_text_455 0 rfl rfl ?_
                    refine r_ialoadN (pc' := 458) (d := 5) dL_text_457 (bx.ar 0 rfl) (by decide) (by decide) (bx.f 7 rfl) rfl ?_
                    refine r_istore (pc' := 460) (lv' := [(12, _), (11, _), (7, _), (10, _), (9, _), (8, _), (2, _), (0, _), (1, _), (3, _), (4, _), (5, _), (6, _)]) dL_text_458 (by decide) rfl rfl ?_
                    refine r_aload_n (pc' := 461) dL_text_460 rfl 7 rfl rfl ?_
                    refine r_getNO (pc' := 464) dL_text_461 fn_L_117 ((bx.K.mono fun c hc q => q hc : Kp (fun _ => False) _ _ _ _).o (LQ.o hxp)) rfl (by rw [(bx.K.mono fun c hc q => q hc : Kp (fun _ => False) _ _ _ _).gR (LQ.o hxp).1 id]; exact hd12) rfl ?_
                    refine r_iload (pc' := 466) dL_text_464 2 rfl rfl ?_
                    refine r_iinc (pc' := 469) (lv' := [(7, _), (12, _), (11, _), (10, _), (9, _), (8, _), (2, _), (0, _), (1, _), (3, _), (4, _), (5, _), (6, _)]) dL_text_466 2 rfl rfl (by decide) rfl rfl ?_
                    refine aa_lv (lv' := [(7, .int (nI 11)), (12, _), (11, _), (10, _), (9, _), (8, _), (2, _), (0, _), (1, _), (3, _), (4, _), (5, _), (6, _)]) rfl ?_
                    refine r_iload (pc' := 471) dL_text_469 1 rfl rfl ?_
                    refine r_iastN (pc' := 472) (d := 10) dL_text_471 (bx.ar 1 rfl) rfl (by decide) (by decide) rfl ?_
                    replace bx := bx.putI (a := zp) (j := 10) (x := nI c0) (bx.n 1 rfl).2 (bx.n 1 rfl).1 (by simp)
                    refine r_iinc (pc' := 475) (lv' := [(11, _), (7, _), (12, _), (10, _), (9, _), (8, _), (2, _), (0, _), (1, _), (3, _), (4, _), (5, _), (6, _)]) dL_text_472 2 rfl rfl (by decide) rfl rfl ?_
                    refine aa_lv (lv' := [(11, .int (nI 6)), (7, _), (12, _), (10, _), (9, _), (8, _), (2, _), (0, _), (1, _), (3, _), (4, _), (5, _), (6, _)]) rfl ?_
                    refine r_goto (tgt := 446) dL_text_475 rfl ?_
                    refine r_iload (pc' := 448) dL_text_446 0 rfl rfl ?_
                    refine r_iload (pc' := 450) dL_text_448 3 rfl rfl ?_
                    refine r_icmp_ge (tgt := 478) (pc' := 453) dL_text_450 rfl rfl (fun h450 => ?_) (fun h450 => ?_)
                    · exact absurd h450 (by decide)
                    · refine r_aload (pc' := 455) dL_text_453 4 rfl rfl ?_
                      refine r_iload (pc' := 457) dL_text_455 0 rfl rfl ?_
                      refine r_ialoadN (pc' := 458) (d := 6) dL_text_457 (bx.ar 0 rfl) (by decide) (by decide) (bx.f 7 rfl) rfl ?_
                      refine r_istore (pc' := 460) (lv' := [(12, _), (11, _), (7, _), (10, _), (9, _), (8, _), (2, _), (0, _), (1, _), (3, _), (4, _), (5, _), (6, _)]) dL_text_458 (by decide) rfl rfl ?_
                      refine r_aload_n (pc' := 461) dL_text_460 rfl 7 rfl rfl ?_
                      refine r_getNO (pc' := 464) dL_text_461 fn_L_117 ((bx.K.mono fun c hc q => q hc : Kp (fun _ => False) _ _ _ _).o (LQ.o hxp)) rfl (by rw [(bx.K.mono fun c hc q => q hc : Kp (fun _ => False) _ _ _ _).gR (LQ.o hxp).1 id]; exact hd12) rfl ?_
                      refine r_iload (pc' := 466) dL_text_464 2 rfl rfl ?_
                      refine r_iinc (pc' := 469) (lv' := [(7, _), (12, _), (11, _), (10, _), (9, _), (8, _), (2, _), (0, _), (1, _), (3, _), (4, _), (5, _), (6, _)]) dL_text_466 2 rfl rfl (by decide) rfl rfl ?_
                      refine aa_lv (lv' := [(7, .int (nI 12)), (12, _), (11, _), (10, _), (9, _), (8, _), (2, _), (0, _), (1, _), (3, _), (4, _), (5, _), (6, _)]) rfl ?_
                      refine r_iload (pc' := 471) dL_text_469 1 rfl rfl ?_
                      refine r_iastN (pc' := 472) (d := 11) dL_text_471 (bx.ar 1 rfl) rfl (by decide) (by decide) rfl ?_
                      replace bx := bx.putI (a := zp) (j := 11) (x := nI c0) (bx.n 1 rfl).2 (bx.n 1 rfl).1 (by simp)
                      refine r_iinc (pc' := 475) (lv' := [(11, _), (7, _), (12, _), (10, _), (9, _), (8, _), (2, _), (0, _), (1, _), (3, _), (4, _), (5, _), (6, _)]) dL_text_472 2 rfl rfl (by decide) rfl rfl ?_
                      refine aa_lv (lv' := [(11, .int (nI 7)), (7, _), (12, _), (10, _), (9, _), (8, _), (2, _), (0, _), (1, _), (3, _), (4, _), (5, _), (6, _)]) rfl ?_
                      refine r_goto (tgt := 446) dL_text_475 rfl ?_
                      refine r_iload (pc' := 448) dL_text_446 0 rfl rfl ?_
                      refine r_iload (pc' := 450) dL_text_448 3 rfl rfl ?_
                      refine r_icmp_ge (tgt := 478) (pc' := 453) dL_text_450 rfl rfl (fun h450 => ?_) (fun h450 => ?_)
                      · exact absurd h450 (by decide)
                      · refine r_aload (pc' := 455) dL_text_453 4 rfl rfl ?_
                        refine r_iload (pc' := 457) dL_text_455 0 rfl rfl ?_
                        refine r_ialoadN (pc' := 458) (d := 7) dL_text_457 (bx.ar 0 rfl) (by decide) (by decide) (bx.f 7 rfl) rfl ?_
                        refine r_istore (pc' := 460) (lv' := [(12, _), (11, _), (7, _), (10, _), (9, _), (8, _), (2, _), (0, _), (1, _), (3, _), (4, _), (5, _), (6, _)]) dL_text_458 (by decide) rfl rfl ?_
                        refine r_aload_n (pc' := 461) dL_text_460 rfl 7 rfl rfl ?_
                        refine r_getNO (pc' := 464) dL_text_461 fn_L_117 ((bx.K.mono fun c hc q => q hc : Kp (fun _ => False) _ _ _ _).o (LQ.o hxp)) rfl (by rw [(bx.K.mono fun c hc q => q hc : Kp (fun _ => False) _ _ _ _).gR (LQ.o hxp).1 id]; exact hd12) rfl ?_
                        refine r_iload (pc' := 466) dL_text_464 2 rfl rfl ?_
                        refine r_iinc (pc' := 469) (lv' := [(7, _), (12, _), (11, _), (10, _), (9, _), (8, _), (2, _), (0, _), (1, _), (3, _), (4, _), (5, _), (6, _)]) dL_text_466 2 rfl rfl (by decide) rfl rfl ?_
                        refine aa_lv (lv' := [(7, .int (nI 13)), (12, _), (11, _), (10, _), (9, _), (8, _), (2, _), (0, _), (1, _), (3, _), (4, _), (5, _), (6, _)]) rfl ?_
                        refine r_iload (pc' := 471) dL_text_469 1 rfl rfl ?_
                        refine r_iastN (pc' := 472) (d := 12) dL_text_471 (bx.ar 1 rfl) rfl (by decide) (by decide) rfl ?_
                        replace bx := bx.putI (a := zp) (j := 12) (x := nI a0) (bx.n 1 rfl).2 (bx.n 1 rfl).1 (by simp)
                        refine r_iinc (pc' := 475) (lv' := [(11, _), (7, _), (12, _), (10, _), (9, _), (8, _), (2, _), (0, _), (1, _), (3, _), (4, _), (5, _), (6, _)]) dL_text_472 2 rfl rfl (by decide) rfl rfl ?_
                        refine aa_lv (lv' := [(11, .int (nI 8)), (7, _), (12, _), (10, _), (9, _), (8, _), (2, _), (0, _), (1, _), (3, _), (4, _), (5, _), (6, _)]) rfl ?_
                        refine r_goto (tgt := 446) dL_text_475 rfl ?_
                        refine r_iload (pc' := 448) dL_text_446 0 rfl rfl ?_
                        refine r_iload (pc' := 450) dL_text_448 3 rfl rfl ?_
                        refine r_icmp_ge (tgt := 478) (pc' := 453) dL_text_450 rfl rfl (fun h450 => ?_) (fun h450 => ?_)
                        · refine aa_locs (ks := [6, 7, 8]) (lv' := [(2, _), (0, _), (1, _)]) rfl ?_
                          refine aa_widen (k' := 110) (n' := 200100) (by decide) (by decide) ?_
                          have key : ∀ (I3 : JI) (S3 : JS), BD I Sb I3 S3 [] [(11, za, 8), (11, zp, 13)] [(zp, 12, nI a0), (zp, 11, nI c0), (zp, 10, nI c0), (zp, 9, nI a0), (zp, 8, nI b0), (zp, 7, nI c0), (zp, 6, nI b0), (zp, 5, nI a0), (za, 7, nI a0), (za, 6, nI c0), (za, 5, nI c0), (za, 4, nI a0), (za, 3, nI b0), (za, 2, nI c0), (za, 1, nI b0), (za, 0, nI a0), (zp, 4, nI c0), (zp, 3, nI b0), (zp, 2, nI c0), (zp, 1, nI b0), (zp, 0, nI a0)] [(11, za), (11, zp)] [za, zp] → DK Ω L0 S3 I3 d (fun j => if j = 12 then zp else A j, C, (tH T, tW T, 13, tS T, tM T), I3 (A 8), I3 zp, fun k => I3 (C k)) (oE Ω) (oE Ω) 0 0 ∧ DT T (PK a0 b0 c0 2) (fun j => if j = 12 then zp else A j, C, (tH T, tW T, 13, tS T, tM T), I3 (A 8), I3 zp, fun k => I3 (C k)) I3 := by
                            clear bx
                            intro I3 S3 b1
                            have kF : Kp (fun _ => False) I Sb I3 S3 := b1.K.mono fun c hc q => q hc
                            have hx3 : LQ Ω L0 S3 I3 d A C T := hxp.kp kF b1.T (fun _ _ e => e.elim)
                            obtain ⟨⟨v1, v2⟩, ⟨v3, v4⟩, v5, ⟨v6, v7⟩, ⟨v8, v9⟩, v10, v11⟩ := hx3.tv
                            have hpk : ∀ i, i < 13 → I3 zp i = nI ((PK a0 b0 c0 2).getD i 0) := by
                              intro i hi
                              rcases (show i = 0 ∨ i = 1 ∨ i = 2 ∨ i = 3 ∨ i = 4 ∨ i = 5 ∨ i = 6 ∨ i = 7 ∨ i = 8 ∨ i = 9 ∨ i = 10 ∨ i = 11 ∨ i = 12 by omega) with rfl | rfl | rfl | rfl | rfl | rfl | rfl | rfl | rfl | rfl | rfl | rfl | rfl
                              · exact (b1.f 20 rfl)
                              · exact (b1.f 19 rfl)
                              · exact (b1.f 18 rfl)
                              · exact (b1.f 17 rfl)
                              · exact (b1.f 16 rfl)
                              · exact (b1.f 7 rfl)
                              · exact (b1.f 6 rfl)
                              · exact (b1.f 5 rfl)
                              · exact (b1.f 4 rfl)
                              · exact (b1.f 3 rfl)
                              · exact (b1.f 2 rfl)
                              · exact (b1.f 1 rfl)
                              · exact (b1.f 0 rfl)
                            refine ⟨⟨hx3.o, fun j h1 h2 => ?_, ⟨hx3.a4, hx3.a5, hx3.a6, hx3.a7, hx3.a8, hx3.a9, hx3.a10, hx3.a11, (b1.ar 1 rfl)⟩, fun k hk => ⟨(hx3.cr k hk).1, (hx3.cr k hk).2.1, rfl⟩, ⟨hx3.f0, hx3.f2, hx3.f3, rfl, rfl⟩, ⟨⟨hx3.l13.1, hx3.l13.2.1, hx3.l13.2.2, b1.T, Or.inl ⟨rfl, rfl⟩⟩, fun i hi => absurd hi (Nat.not_lt_zero i)⟩, ⟨⟨hx3.l14.1, hx3.l14.2.1, hx3.l14.2.2, b1.T, Or.inl ⟨rfl, rfl⟩⟩, fun i hi => absurd hi (Nat.not_lt_zero i)⟩, Or.inr rfl, ⟨⟨(by obtain ⟨g1, g2, g3, g4, g5, g6⟩ := hx3.dx.1 4 (by decide); exact ⟨g1, g2, g3, nin_ne2 hxp.a4.1 hzp2, g4, g5, g6⟩), (by obtain ⟨g1, g2, g3, g4, g5, g6⟩ := hx3.dx.1 5 (by decide); exact ⟨g1, g2, g3, nin_ne2 hxp.a5.1 hzp2, g4, g5, g6⟩), (by obtain ⟨g1, g2, g3, g4, g5, g6⟩ := hx3.dx.1 6 (by decide); exact ⟨g1, g2, g3, nin_ne2 hxp.a6.1 hzp2, g4, g5, g6⟩), (by obtain ⟨g1, g2, g3, g4, g5, g6⟩ := hx3.dx.1 7 (by decide); exact ⟨g1, g2, g3, nin_ne2 hxp.a7.1 hzp2, g4, g5, g6⟩), (by obtain ⟨g1, g2, g3, g4, g5, g6⟩ := hx3.dx.1 10 (by decide); exact ⟨g1, g2, g3, nin_ne2 hxp.a10.1 hzp2, g4, g5, g6⟩)⟩, hx3.dx.2.1, hx3.dx.2.2.1, hx3.dx.2.2.2.1⟩, ⟨⟨v2, v9, by show 10 ≤ 13; decide, by show 13 ≤ 20; decide, v5⟩, fun j hj => ⟨tOn T j, (v10 j (by have : j < tW T := hj; omega)).1, (hx3.wv j (by have : j < tW T := hj; omega)).1⟩, fun j hj => ⟨(PK a0 b0 c0 2).getD j 0, PK_lt ha hb3 hc _ (getD_mem hj), hpk j hj⟩, fun k hk => ⟨tWe T k, (v11 k hk).2.1, (hx3.cr k hk).2.2.2⟩⟩⟩, ⟨rfl, rfl, rfl, rfl⟩, fun x hx => (hx3.wv x hx).1, fun k hk => (hx3.cr k hk).2.2.1, fun i hi => hpk i hi, fun f hf => ⟨tYa T f, by have := (v11 f hf).2.2.1; show tW T ≤ tYa T f; omega, by have := (v11 f hf).2.2.2; omega, hx3.yv f hf⟩, fun j hj => ?_, fun j hj => ?_, fun j hj => ?_⟩
                            · by_cases e : j = 12
                              · subst e; show sR S3 d 12 = some zp; rw [kF.gR hxp.o.1 id]; exact hd12
                              · show sR S3 d j = some (if j = 12 then zp else A j); rw [if_neg e]; exact hx3.rr j h1 h2 e
                            · have : j < tH T := hj
                              show fits .boolean (.int (I3 (A 4) j)) = true
                              rw [(hx3.zv j (by omega)).1]; decide
                            · have : j < tH T := hj
                              show fits .boolean (.int (I3 (A 5) j)) = true
                              rw [(hx3.zv j (by omega)).2.1]; decide
                            · have : j < tW T := hj
                              show fits .boolean (.int (I3 (A 6) j)) = true
                              rw [(hx3.zv j (by omega)).2.2]; decide
                          exact hk _ _ _ (h.stp (bx.K.mono fun c hc q => q hc : Kp (fun _ => False) _ _ _ _) bx.T (key _ _ bx).1 (fun _ _ e => e.elim)) (key _ _ bx).2
                        · exact absurd (show (8 : Int32) ≤ nI 8 by decide) h450
      · exact absurd (show nI 2 ≤ nI 2 by decide) h356
