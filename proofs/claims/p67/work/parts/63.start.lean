/-! the law's beginning -/
def jS0 (c : Nat) : JS := ([], fun _ => 0, fun _ => 0, fun _ _ => none, fun _ _ => 0, fun _ _ => 0, some c)
/-- objects are as they were -/
def KQ (S S' : JS) : Prop := sT S' = none ∧ ∀ b, b ∈ sL S → b ∈ sL S' ∧ sK S' b = sK S b ∧ sN S' b = sN S b ∧ sR S' b = sR S b
section KQS
variable {S S' S2 : JS} {I I' : JI} {a ty n ci lo hi c L P z ki m : Nat} {Pr : Nat → Prop}
theorem KQ.tr (h : KQ S S') (g : KQ S' S2) : KQ S S2 := ⟨g.1, fun b hb => by
  obtain ⟨a1, a2, a3, a4⟩ := h.2 b hb
  obtain ⟨b1, b2, b3, b4⟩ := g.2 b a1
  exact ⟨b1, b2.trans a2, b3.trans a3, b4.trans a4⟩⟩
theorem KQ.kp (h : Kp Pr I S I' S') (hT : sT S' = none) (hn : ∀ b, b ∈ sL S → ¬ Pr b) : KQ S S' := ⟨hT, fun b hb => by
  obtain ⟨a1, a2, a3, a4⟩ := h b hb
  exact ⟨a1, a2, a3, (a4 (hn b hb)).2.1⟩⟩
theorem KQ.nw (hz : z ∉ sL S) : KQ S (nwN S z ki m) := KQ.kp (Kp.nw (P := fun _ => False) (I := fun _ _ => 0) hz) rfl (fun _ _ h => h)
theorem KQ.o (x : KQ S S') (h : a ∈ sL S ∧ sK S a = ci) : a ∈ sL S' ∧ sK S' a = ci := ⟨(x.2 a h.1).1, (x.2 a h.1).2.1.trans h.2⟩
theorem KQ.ar (x : KQ S S') (h : ArE ty S a n) : ArE ty S' a n := ⟨(x.2 a h.1).1, (x.2 a h.1).2.1.trans h.2.1, (x.2 a h.1).2.2.1.trans h.2.2.1, x.1⟩
theorem KQ.r {j : Nat} {r : Option Nat} (x : KQ S S') (h : a ∈ sL S) (hr : sR S a j = r) : sR S' a j = r := by rw [(x.2 a h).2.2.2]; exact hr
theorem Is0.kq (h : Is0 S a) (x : KQ S S') : Is0 S' a := by
  obtain ⟨h0, ⟨r0, c0⟩, ⟨r1, c1⟩, ⟨r2, c2⟩, ⟨r3, c3⟩⟩ := h
  exact ⟨x.o h0, ⟨x.r h0.1 r0, x.ar c0⟩, ⟨x.r h0.1 r1, x.ar c1⟩, ⟨x.r h0.1 r2, x.ar c2⟩, ⟨x.r h0.1 r3, x.ar c3⟩⟩
theorem Is2.kq (h : Is2 S a) (x : KQ S S') : Is2 S' a := by
  obtain ⟨h0, ⟨r0, c0⟩⟩ := h
  exact ⟨x.o h0, ⟨x.r h0.1 r0, x.ar c0⟩⟩
theorem Is4.kq (h : Is4 S a) (x : KQ S S') : Is4 S' a := by
  obtain ⟨h0, ⟨r0, c0⟩⟩ := h
  exact ⟨x.o h0, ⟨x.r h0.1 r0, x.ar c0⟩⟩
theorem Is7.kq (h : Is7 S a) (x : KQ S S') : Is7 S' a := by
  obtain ⟨h0, ⟨r0, c0⟩, ⟨r1, c1⟩, ⟨r2, c2⟩, ⟨r3, c3⟩, ⟨r4, c4⟩, ⟨r5, c5⟩⟩ := h
  exact ⟨x.o h0, ⟨x.r h0.1 r0, x.ar c0⟩, ⟨x.r h0.1 r1, x.ar c1⟩, ⟨x.r h0.1 r2, x.ar c2⟩, ⟨x.r h0.1 r3, x.ar c3⟩, ⟨x.r h0.1 r4, x.ar c4⟩, ⟨x.r h0.1 r5, x.ar c5⟩⟩
theorem Is6.kq (h : Is6 S a) (x : KQ S S') : Is6 S' a := by
  obtain ⟨h0, ⟨r0, c0⟩⟩ := h
  exact ⟨x.o h0, ⟨x.r h0.1 r0, c0.kq x⟩⟩
theorem Is3.kq (h : Is3 S a) (x : KQ S S') : Is3 S' a := by
  obtain ⟨h0, ⟨r0, c0⟩, ⟨r1, c1⟩, ⟨r2, c2⟩, ⟨r3, c3⟩, ⟨r4, c4⟩, ⟨r5, c5⟩, ⟨r6, c6⟩⟩ := h
  exact ⟨x.o h0, ⟨x.r h0.1 r0, x.ar c0⟩, ⟨x.r h0.1 r1, x.ar c1⟩, ⟨x.r h0.1 r2, x.ar c2⟩, ⟨x.r h0.1 r3, x.ar c3⟩, ⟨x.r h0.1 r4, c4.kq x⟩, ⟨x.r h0.1 r5, c5.kq x⟩, ⟨x.r h0.1 r6, c6.kq x⟩⟩
theorem Is1.kq (h : Is1 S a) (x : KQ S S') : Is1 S' a := by
  obtain ⟨h0, ⟨r0, c0⟩, hs⟩ := h
  exact ⟨x.o h0, ⟨x.r h0.1 r0, x.ar c0⟩, fun i hi => ⟨x.r c0.1 (hs i hi).1, (hs i hi).2.kq x⟩⟩
theorem Is8.kq (h : Is8 S c L P) (x : KQ S S') : Is8 S' c L P := by
  obtain ⟨h0, ⟨r0, ⟨p0, ⟨pr0, pc0⟩, ⟨pr1, pc1⟩⟩⟩, ⟨r1, c1⟩, ⟨r2, c2⟩, ⟨r3, c3⟩, ⟨r4, c4⟩, ⟨r5, c5⟩, he, ht⟩ := h
  exact ⟨x.o h0, ⟨x.r h0.1 r0, ⟨x.o p0, ⟨x.r p0.1 pr0, pc0.kq x⟩, ⟨x.r p0.1 pr1, pc1.kq x⟩⟩⟩, ⟨x.r h0.1 r1, c1.kq x⟩, ⟨x.r h0.1 r2, c2.kq x⟩, ⟨x.r h0.1 r3, c3.kq x⟩, ⟨x.r h0.1 r4, c4.kq x⟩, ⟨x.r h0.1 r5, c5.kq x⟩, he, x.1⟩
/-- places of the class's object -/
theorem Is8.mem (h : Is8 S c L P) : c + 2 ∈ sL S ∧ c + 3 ∈ sL S ∧ c + 30 ∈ sL S ∧ c + 104 ∈ sL S := by
  obtain ⟨h0, ⟨r0, ⟨p0, ⟨pr0, pc0⟩, ⟨pr1, pc1⟩⟩⟩, ⟨r1, c1⟩, ⟨r2, c2⟩, ⟨r3, c3⟩, ⟨r4, c4⟩, ⟨r5, c5⟩, he, ht⟩ := h
  refine ⟨pc0.1.1, pc0.2.2.1, c2.1.1, ?_⟩
  rcases he with ⟨rfl, rfl⟩ | ⟨rfl, rfl⟩
  · exact c5.1.1
  · exact pc1.1.1
end KQS
theorem inl_v {x : Int32} {P : Int32 → Prop} (h : P x) : ∀ v, (Sum.inl x : Int32 ⊕ String) = .inl v → P v := fun v hv => by cases hv; exact h
theorem LZ_id {S : JS} {wa ia : Nat} : S = LZ S wa ia (sX S wa) (sX S ia) := by
  unfold LZ stA
  refine Prod.ext rfl (Prod.ext rfl (Prod.ext rfl (Prod.ext rfl (Prod.ext ?_ rfl))))
  funext b j
  simp only [sX]
  by_cases hb : b = ia
  · subst hb; simp; intro _ e _; rw [e]
  · by_cases hb2 : b = wa
    · subst hb2; simp [hb]
    · simp [hb, hb2]
theorem tb_l {x : String} {l : List Nat} (h : tb x = l) : (tb x).length = l.length := by rw [h]
theorem TXw_len (T : TP) (h : ∀ w, (dg (tOn T w)).length ≤ 2) : ∀ j, (TXw T j).length ≤ 10 * j := by
  intro j
  induction j with
  | zero => exact Nat.le_refl _
  | succ j ih =>
    have := h j
    rw [TXw, List.length_append]
    unfold TXA
    simp only [List.length_append, List.length_singleton, tb_l tx_warp]
    simp only [List.length_cons, List.length_nil]
    omega
theorem TXl_len (x : Nat) : ∀ j, (TXl x j).length ≤ 3 * j := by
  intro j
  induction j with
  | zero => exact Nat.le_refl _
  | succ j ih =>
    have := (dg_le j).2
    rw [TXl, List.length_append]
    split
    · simp only [List.length_append, List.length_singleton]; omega
    · simp only [List.length_nil]; omega
theorem TXt_len {T : TP} {a b k t : Nat} {E : List Nat} (hW : tW T ≤ 4) (hE : TE T (PK a b k t) E) : (TXt T a b k t ++ E).length ≤ 400 := by
  have d : ∀ u, (dg u).length ≤ 2 := fun u => (dg_le u).2
  have hw := TXw_len T (fun w => d _) (tW T)
  have l0 := TXl_len (tLi T 0) 3
  have l1 := TXl_len (tLi T 1) 3
  have l2 := TXl_len (tLi T 2) 3
  have hEl : E.length ≤ 19 := by
    rcases hE with rfl | ⟨many, _, rfl | rfl, _⟩
    · exact Nat.zero_le _
    · have := d many
      simp only [List.length_append, tb_l tx_weave]
      simp only [List.length_cons, List.length_nil]
      omega
    · have := d many
      simp only [List.length_append, tb_l tx_weave, tb_l tx_unweave1]
      simp only [List.length_cons, List.length_nil]
      omega
  unfold TXt TXh TXd TXB TXC
  have e0 := d (tH T); have e1 := d (tL T); have e2 := d (tS T); have e3 := d (tM T); have e4 := d (tYa T 0); have e5 := d (tYa T 1); have e6 := d (tYa T 2); have e7 := d a; have e8 := d b; have e9 := d k; have e10 := d t
  simp only [List.length_append, List.length_singleton, tb_l tx_loom, tb_l tx_strain, tb_l tx_motor, tb_l tx_card, tb_l tx_yarn, tb_l tx_deck, tb_l tx_rep, tb_l tx_op, tb_l tx_mid, tb_l tx_back, tb_l tx_rep2, tb_l tx_end]
  simp only [List.length_cons, List.length_nil]
  omega
theorem KQ.tr2 {S S' S2 : JS} {I I' : JI} (h : KQ S S') (K : Kp (fun c => c ∉ sL S) I S' I' S2) (hT : sT S2 = none) (hL : ∀ x, x ∈ sL S → x ∈ sL S') : KQ S S2 := ⟨hT, fun b hb => by
  obtain ⟨a1, a2, a3, a4⟩ := h.2 b hb
  obtain ⟨b1, b2, b3, b4⟩ := K b a1
  exact ⟨b1, b2.trans a2, b3.trans a3, ((b4 (fun q => q hb)).2.1).trans a4⟩⟩
set_option maxRecDepth 100000 in
set_option maxHeartbeats 8000000 in
theorem law_start {Ω : JO} {F : JF} {c : Nat} {I : JI} (hend : ∀ (k n : Nat) (lv : List (Nat × Value)) (I : JI) (S : JS), k ≤ 600086 → n ≤ 7301442 → AA Ω m_L_law F k n 683 lv [.int 1] I S) : AA Ω m_L_law F 0 0 0 [(0, .ref (oS Ω).1)] [] I (jS0 c) := by
  refine r_new (ci := 8) (pc' := 3) dL_law_0 cw_L_14 nwX8 rfl (by decide) (by decide) rfl ?_
  refine r_dup (pc' := 4) dL_law_3 rfl rfl ?_
  refine r_callI (pc' := 7) (k' := 128) (n' := 5414) (nn := 0) (As := []) (rest := [_]) dL_law_4 mb_X8_init mc_X8_init lk_L_207 rfl rfl rfl rfl rfl (Nat.le_of_ble_eq_true rfl) rfl (c_X8_init ⟨mem_z, by rw [nwS_K, if_pos rfl]⟩ rfl (fun I1 S1 l8 x1 t1 f1 f2 f3 f4 f5 f6 f7 f8 f9 => cpV ?_))
  refine r_astore_n (pc' := 8) (lv' := [(1, .ref c), (0, .ref (oS Ω).1)]) dL_law_7 rfl (by decide) rfl rfl ?_
  refine aa_noT ?_
  refine aa_widen (k' := 129) (n' := 5500) (by decide) (by decide) ?_
  refine r_bipush (pc' := 10) (v := 7) dL_law_8 (by decide) rfl ?_
  refine r_newIG (pc' := 12) (N := 7) dL_law_10 (by decide) rfl (by decide) (Nat.le_of_ble_eq_true rfl) (Nat.le_of_ble_eq_true rfl) rfl (fun M hM => aa_widen (k' := 200) (n' := 6000) (by decide) (by decide) ?_)
  have hMn : M ∉ sL (noT S1) := notin_of hM
  have hc2 : Is8 (nwN (noT S1) M 11 7) c (c + 104) (c + 4) := l8.no.kq (KQ.nw hMn)
  have hM2 : ArE 11 (nwN (noT S1) M 11 7) M 7 := nwN_ar
  obtain ⟨m1, m2, m3, m4⟩ := l8.no.mem
  have n1 : M ≠ c + 2 := fun e => by have := hM _ m1; omega
  have n2 : M ≠ c + 3 := fun e => by have := hM _ m2; omega
  have n3 : M ≠ c + 30 := fun e => by have := hM _ m3; omega
  refine r_astore_n (pc' := 13) (lv' := [(2, _), (1, _), (0, _)]) dL_law_12 rfl (by decide) rfl rfl ?_
  refine r_aload_n (pc' := 14) dL_law_13 rfl 2 rfl rfl ?_
  refine r_callS (pc' := 17) (k' := 240) (n' := 7000) (nn := 1) (As := [_]) (rest := []) dL_law_14 mb_L_loom ms_L_loom lk_L_208 rfl rfl rfl rfl rfl (Nat.le_of_ble_eq_true rfl) rfl (c_L_loom rfl (fun d A C T I3 S3 hq K3 => (cpR ?_)))
  have hT3 : sT S3 = none := hq.a4.2.2.2
  have q3 : KQ (nwN (noT S1) M 11 7) S3 := KQ.kp K3 hT3 (fun _ _ h => h)
  have hL3 : ∀ x, x ∈ sL (nwN (noT S1) M 11 7) → x ∈ sL S3 := fun x hx => (q3.2 x hx).1
  refine r_astore_n (pc' := 18) (lv' := [(3, _), (2, _), (1, _), (0, _)]) dL_law_17 rfl (by decide) rfl rfl ?_
  refine r_aload_n (pc' := 19) dL_law_18 rfl 0 rfl rfl ?_
  refine r_aload_n (pc' := 20) dL_law_19 rfl 3 rfl rfl ?_
  refine r_iconst (pc' := 21) (v := 5) dL_law_20 (by decide) rfl ?_
  refine r_callS (pc' := 24) (k' := 240) (n' := 7000) (nn := 2) (As := [_, _]) (rest := [_]) dL_law_21 mb_L_cell ms_L_cell lk_L_28 rfl rfl rfl rfl rfl (Nat.le_of_ble_eq_true rfl) rfl (c_L_cell (i := 5) (by decide) (fun v => (cpI ?_)))
  refine r_callS (pc' := 27) (k' := 5240) (n' := 1007000) (nn := 2) (As := [_, _]) (rest := []) dL_law_24 mb_L_text ms_L_text lk_L_212 rfl rfl rfl rfl rfl (Nat.le_of_ble_eq_true rfl) rfl (c_L_text hq hT3 hL3 (fun z a b k t E I4 S4 ha hb hk ht hE hs K4 hzp hz0 hT4 hw4 => cpR ?_))
  have q4 : KQ (nwN (noT S1) M 11 7) S4 := q3.tr2 K4 hT4 hL3
  have hc4 := hc2.kq q4
  have hM4 := q4.ar hM2
  have mem2 : ∀ x, x ∈ sL (noT S1) → x ∈ sL (nwN (noT S1) M 11 7) := fun x hx => List.mem_append_left _ hx
  have memM : M ∈ sL (nwN (noT S1) M 11 7) := List.mem_append_right _ (List.mem_singleton.mpr rfl)
  have eI : ∀ x, x ∈ sL (nwN (noT S1) M 11 7) → I4 x = nwI I1 M x := fun x hx => by rw [K4.gI (hL3 x hx) (fun h => h hx), K3.gI hx (fun h => h)]
  have eI2 : I4 (c + 2) 1 = 0 := by rw [eI _ (mem2 _ m1), nwI_o n1.symm]; exact f4
  have eI30 : I4 (c + 30) 1 = 0 := by rw [eI _ (mem2 _ m3), nwI_o n3.symm]; exact f6
  have eIM : ∀ j, I4 M j = 0 := fun j => by rw [eI _ memM, nwI_z]
  have hlen := TXt_len (T := T) (a := a) (b := b) (k := k) (t := t) hq.tv.2.2.2.2.1.2 hE
  obtain ⟨zp, hd4, hr4, hzp4⟩ := hzp
  have nd0 : d ≠ c := fun e => by have h1 := hc4.o.2; rw [← e, hd4.2] at h1; exact absurd h1 (by decide)
  have nd1 : d ≠ c + 1 := fun e => by have h1 := hc4.c0.o.2; rw [← e, hd4.2] at h1; exact absurd h1 (by decide)
  have hz : ∀ J, PUf I4 J M c → STk S4 J z (TXt T a b k t ++ E) := fun J hJ => by
    obtain ⟨s1, w, s2, s3, s4, s5, s6⟩ := hs
    have w0 := hw4 w s2
    refine ⟨s1, w, s2, s3, ?_, fun j hj => ?_, s6⟩
    · rw [hJ z (fun e => hz0 (e ▸ mem2 _ m1)) (fun e => hz0 (e ▸ mem2 _ m2)) (fun e => hz0 (e ▸ memM))]; exact s4
    · rw [hJ w (fun e => w0 (e ▸ mem2 _ m1)) (fun e => w0 (e ▸ mem2 _ m2)) (fun e => w0 (e ▸ memM))]; exact s5 j hj
  have hPU : PU I4 M c (fun j => (TXt T a b k t ++ E).getD j 32) 0 := ⟨Nat.zero_le _, eI2, fun j hj => absurd hj (Nat.not_lt_zero j), eIM 5, eIM 6, fun i hi => absurd hi (Nat.not_lt_zero i)⟩
  refine r_astore (pc' := 29) (lv' := [(4, _), (3, _), (2, _), (1, _), (0, _)]) dL_law_27 (by decide) rfl rfl ?_
  refine r_aload_n (pc' := 30) dL_law_29 rfl 3 rfl rfl ?_
  refine r_aload_n (pc' := 31) dL_law_30 rfl 3 rfl rfl ?_
  refine r_aload_n (pc' := 32) dL_law_31 rfl 2 rfl rfl ?_
  refine r_aload (pc' := 34) dL_law_32 0 rfl rfl ?_
  refine r_callS (pc' := 37) (k' := 5240) (n' := 1007000) (nn := 3) (As := [_, _, _]) (rest := [_]) dL_law_34 mb_L_told ms_L_told lk_L_216 rfl rfl rfl rfl rfl (Nat.le_of_ble_eq_true rfl) rfl (c_L_told hc4 hM4 n2 (show _ ≤ 480 by omega) hz hPU (fun n J g1 g2 g3 g4 g5 => (cpI ?_)))
  have g4' : ∀ j, j < (TXt T a b k t ++ E).length → J (c + 3) j = nI ((TXt T a b k t ++ E).getD j 0) := fun j hj => by
    rw [g4 j (by omega), List.getD_eq_getElem?_getD, List.getD_eq_getElem?_getD, List.getElem?_eq_getElem hj]; rfl
  have g6 : J (c + 30) 1 = 0 := by rw [g5 _ (by omega) (by omega) n3.symm]; exact eI30
  obtain ⟨J2, e1, hi⟩ := setup_read hq.tv ha hb hk ht hE g4' g1 g2 g3 g6
  refine r_callV (pc' := 40) (k' := 5242) (n' := 1007012) (nn := 1) (As := [_]) (rest := []) dL_law_37 mb_X8_parseSetup mi_X8_parseSetup hc4.o (by decide) rfl lk_L_220 rfl rfl rfl rfl rfl (Nat.le_of_ble_eq_true rfl) rfl (c_X8_parseSetup hc4 hc4.t e1 ⟨inl_v (cpI ?_), fun E h => by cases h⟩)
  refine r_aload_n (pc' := 41) dL_law_40 rfl 1 rfl rfl ?_
  refine r_getNO (pc' := 44) dL_law_41 fn_L_117 (show d ∈ sL S4 ∧ sK S4 d = 9 from hd4) rfl (by rw [stR_R3 nd0, stR_R3 nd1]; exact hr4) rfl ?_
  have hzp5 : ArE 11 (stR (stR S4 (c + 1) 1 (some (c + 104))) c 5 (some (c + 4))) zp (PK a b k t).length := hzp4
  refine r_alen (pc' := 45) dL_law_44 hzp5 (by decide) rfl rfl ?_
  refine r_icmp_eq (tgt := 50) (pc' := 48) dL_law_45 rfl rfl (fun h45 => ?_) (fun h45 => ?_)
  · have hc5 := Is8_swap hc4
    refine r_bipush (pc' := 52) (v := 50) dL_law_50 (by decide) rfl ?_
    refine r_newLG (pc' := 54) (N := 50) dL_law_52 (by decide) rfl (by decide) (Nat.le_of_ble_eq_true rfl) (Nat.le_of_ble_eq_true rfl) rfl (fun wa hwa => aa_widen (k' := 7000) (n' := 1200000) (by decide) (by decide) ?_)
    refine r_astore (pc' := 56) (lv' := [(5, _), (4, _), (3, _), (2, _), (1, _), (0, _)]) dL_law_54 (by decide) rfl rfl ?_
    refine r_bipush (pc' := 58) (v := 50) dL_law_56 (by decide) rfl ?_
    refine r_newLG (pc' := 60) (N := 50) dL_law_58 (by decide) rfl (by decide) (Nat.le_of_ble_eq_true rfl) (Nat.le_of_ble_eq_true rfl) rfl (fun ia hia => aa_widen (k' := 7100) (n' := 1200100) (by decide) (by decide) ?_)
    refine r_astore (pc' := 62) (lv' := [(6, _), (5, _), (4, _), (3, _), (2, _), (1, _), (0, _)]) dL_law_60 (by decide) rfl rfl ?_
    refine r_iconst (pc' := 63) (v := 0) dL_law_62 (by decide) rfl ?_
    refine r_istore (pc' := 65) (lv' := [(7, _), (6, _), (5, _), (4, _), (3, _), (2, _), (1, _), (0, _)]) dL_law_63 (by decide) rfl rfl ?_
    refine aa_locs (ks := [0, 7, 6, 2, 1]) (lv' := [(7, _), (0, _), (1, _), (5, _), (6, _)]) rfl ?_
    have hwn := notin_of hwa
    have hin := notin_of hia
    have hc7 := (hc5.kq (KQ.nw (ki := 14) (m := 50) hwn)).kq (KQ.nw (ki := 14) (m := 50) hin)
    have hA7 := (KQ.nw (ki := 14) (m := 50) hin).ar (nwN_ar (S := stR (stR S4 (c + 1) 1 (some (c + 104))) c 5 (some (c + 4))) (z := wa) (ki := 14) (m := 50))
    have hB7 : ArE 14 (nwN (nwN (stR (stR S4 (c + 1) 1 (some (c + 104))) c 5 (some (c + 4))) wa 14 50) ia 14 50) ia 50 := nwN_ar
    have w1 : c + 104 < wa := hwa _ hc5.mem.2.2.2
    have w2 : wa < ia := hia _ (List.mem_append_right _ (List.mem_singleton.mpr rfl))
    have eJ : ∀ x, x < c + 104 → nwI (nwI J2 wa) ia x = J2 x := fun x hx => by rw [nwI_o (by omega), nwI_o (by omega)]
    have hi7 : INV 300 (nwI (nwI J2 wa) ia) c (c + 4) (tH T) (tW T) := hi.st (fun x hx => eJ x (by omega)) (by rw [eJ _ (by omega)]; exact hi.2.2.2.2.1) (by rw [eJ _ (by omega)]; exact hi.2.2.2.2.2.1) (hi.s.se (fun i j hi hj => by have : i < 7 := hi; rw [eJ _ (by omega)]) (fun x x1 x2 => by rw [eJ x (by omega)])) hi.nn
    refine aa_S (LZ_id (wa := wa) (ia := ia)) ?_
    exact law_loop (S := nwN (nwN (stR (stR S4 (c + 1) 1 (some (c + 104))) c 5 (some (c + 4))) wa 14 50) ia 14 50) (c := c) (wa := wa) (ia := ia) (fun f g => hc7) (fun f g => hA7) (fun f g => hB7) (by omega) hend 20 0 7100 1200100 300 _ _ _ (by decide) (by decide) (by decide) (by decide) hi7
  · exact absurd rfl h45
