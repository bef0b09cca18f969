/-! the law's text -/
/-- pieces of the text -/
def TXh (T : TP) : List Nat := tb "loom " ++ (dg (tH T) ++ ([32] ++ (dg (tL T) ++ (tb ";strain " ++ (dg (tS T) ++ (tb ";motor " ++ dg (tM T)))))))
def TXA (T : TP) (j : Nat) : List Nat := tb ";warp " ++ ([97 + tCo T j] ++ ([32] ++ dg (tOn T j)))
def TXw (T : TP) : Nat → List Nat
  | 0 => []
  | j + 1 => TXw T j ++ TXA T j
def TXl (x : Nat) : Nat → List Nat
  | 0 => []
  | k + 1 => TXl x k ++ (if x.testBit k then [32] ++ dg k else [])
def TXB (T : TP) (k : Nat) : List Nat := tb ";card " ++ ([97 + tWe T k] ++ TXl (tLi T k) 3)
def TXC (T : TP) (k : Nat) : List Nat := tb ";yarn " ++ ([97 + k] ++ ([32] ++ dg (tYa T k)))
def TXd (a b c t : Nat) : List Nat := tb ";deck " ++ (dg a ++ (tb " repeat " ++ (dg t ++ (tb " (" ++ (dg b ++ ([32] ++ (dg c ++ (tb ");deck mirror (" ++ (dg a ++ ([32] ++ (dg b ++ ([32] ++ (dg c ++ (tb ") back (" ++ (dg a ++ (tb " repeat 2 (" ++ (dg c ++ tb "))")))))))))))))))))
/-- while the text grows: X of the loom, the bytes, at most m of them -/
def TS (X : JS → JI → Prop) (L0 : List Nat) (I0 : JI) (S0 S : JS) (I : JI) (b : Nat) (t : List Nat) (m : Nat) : Prop := X S I ∧ Kp (fun c => c ∉ L0) I0 S0 I S ∧ b ∉ L0 ∧ (∃ v cap, SBk S I b v cap t ∧ v ∉ L0) ∧ (∀ x, x ∈ L0 → x ∈ sL S) ∧ t.length ≤ m
/-- what appending leaves alone -/
def TK (X : JS → JI → Prop) : Prop := ∀ (S S' : JS) (I I' : JI) (P : Nat → Prop), X S I → Kp P I S I' S' → sT S' = none → (∀ c, c ∈ sL S → P c → sK S c = 10 ∨ sK S c = 16) → X S' I'
section TSS
variable {X : JS → JI → Prop} {L0 : List Nat} {I0 I I' : JI} {S0 S S' : JS} {b v m q : Nat} {t u : List Nat}
theorem TS.x (h : TS X L0 I0 S0 S I b t m) : X S I := h.1
theorem TS.o (h : TS X L0 I0 S0 S I b t m) : b ∈ sL S ∧ sK S b = 16 := by
  obtain ⟨v, cap, g, _⟩ := h.2.2.2.1; exact g.o
theorem TS.T (h : TS X L0 I0 S0 S I b t m) : sT S = none := by
  obtain ⟨v, cap, g, _⟩ := h.2.2.2.1; exact g.T
theorem TS.app (h : TS X L0 I0 S0 S I b t m) (hX : TK X) {cap : Nat} (g : SBk S I b v cap t) (hv : v ∉ L0) (hp : SBp b v I S I' S' (t ++ u)) (hu : u.length ≤ q) : TS X L0 I0 S0 S' I' b (t ++ u) (m + q) := by
  obtain ⟨h1, h2, h3, _, h5, h6⟩ := h
  obtain ⟨v', cap', p1, p2, p3⟩ := hp
  refine ⟨hX _ _ _ _ _ h1 p3 p1.T (fun c hc e => e.elim (fun e => by subst e; exact Or.inr g.o.2) (fun e => by subst e; exact Or.inl g.arr.2.1)), h2.tr (p3.mono fun c hc e => e.elim (fun e => by subst e; exact h3) (fun e => by subst e; exact hv)), h3, ⟨v', cap', p1, ?_⟩, fun x hx => (p3 x (h5 x hx)).1, ?_⟩
  · rcases p2 with rfl | p2
    · exact hv
    · exact fun e => p2 (h5 _ e)
  · rw [List.length_append]; omega
theorem TS.len (h : TS X L0 I0 S0 S I b t m) : t.length ≤ m := h.2.2.2.2.2
theorem TS.weak {m' : Nat} (h : TS X L0 I0 S0 S I b t m) (hm : m ≤ m') : TS X L0 I0 S0 S I b t m' := ⟨h.1, h.2.1, h.2.2.1, h.2.2.2.1, h.2.2.2.2.1, Nat.le_trans h.2.2.2.2.2 hm⟩
theorem TS.eq {t' : List Nat} (h : TS X L0 I0 S0 S I b t m) (e : t = t') : TS X L0 I0 S0 S I b t' m := e ▸ h
end TSS
section TSC
variable {Ω : JO} {Q : JQ} {X : JS → JI → Prop} {L0 : List Nat} {I0 I : JI} {S0 S : JS} {b m c u : Nat} {t : List Nat}
theorem c_apS {own : String} {sk : Nat} {tx : String} (ht : Cond.stringRef own sk tx ∈ lw_tbl) (q : Nat) (h : TS X L0 I0 S0 S I b t m) (hX : TK X) (hs : (tb tx).all (fun x => decide (x < 128)) = true) (hq : (tb tx).length = q) (hl : m + q ≤ 1000) (hQ : ∀ I' S', TS X L0 I0 S0 S' I' b (t ++ tb tx) (m + q) → Q (.inl (some (.ref b))) I' S') : Call Ω m_J4_append_15ec4 [.ref b, .ref (Ω.2.2.2.2.1 own sk).1] I S Q := by
  obtain ⟨v, cap, g, hv⟩ := h.2.2.2.1
  have hm := h.len
  exact c_J4_append_15ec4 g ht (fun x hx => of_decide_eq_true (List.all_eq_true.mp hs x hx)) (by omega) (fun I' S' hp => hQ _ _ (h.app hX g hv hp (Nat.le_of_eq hq)))
theorem c_apC (h : TS X L0 I0 S0 S I b t m) (hX : TK X) (hc : c < 128) (hl : m + 1 ≤ 1000) (hQ : ∀ I' S', TS X L0 I0 S0 S' I' b (t ++ [c]) (m + 1) → Q (.inl (some (.ref b))) I' S') : Call Ω m_J4_append_cf468 [.ref b, .int (nI c)] I S Q := by
  obtain ⟨v, cap, g, hv⟩ := h.2.2.2.1
  have hm := h.len
  exact c_J4_append_cf468 g hc (by omega) (fun I' S' hp => hQ _ _ (h.app hX g hv hp (Nat.le_refl 1)))
theorem c_apI (h : TS X L0 I0 S0 S I b t m) (hX : TK X) (hu : u < 100) (hl : m + 2 ≤ 1000) (hQ : ∀ I' S', TS X L0 I0 S0 S' I' b (t ++ dg u) (m + 2) → Q (.inl (some (.ref b))) I' S') : Call Ω m_J4_append_bf812 [.ref b, .int (nI u)] I S Q := by
  obtain ⟨v, cap, g, hv⟩ := h.2.2.2.1
  have hm := h.len
  exact c_J4_append_bf812 g hu (by omega) (fun I' S' hp => hQ _ _ (h.app hX g hv hp (dg_le u).2))
theorem c_apZ (h : TS X L0 I0 S0 S I b t m) (hl : m ≤ 1000) (hQ : ∀ z I' S', z ∉ sL S → STk S' I' z t → Kp (fun _ => False) I S I' S' → sT S' = none → (∀ w, sR S' z 0 = some w → w ∉ sL S) → Q (.inl (some (.ref z))) I' S') : Call Ω m_J4_toString_0e30d [.ref b] I S Q := by
  obtain ⟨v, cap, g, hv⟩ := h.2.2.2.1
  have hm := h.len
  exact c_J4_toString_0e30d g (by omega) hQ
end TSC
section LQS
variable {Ω : JO} {L0 : List Nat} {S S' : JS} {I I' : JI} {d : Nat} {A C : Nat → Nat} {T : TP} {P : Nat → Prop}
theorem LQ.o (h : LQ Ω L0 S I d A C T) : d ∈ sL S ∧ sK S d = 9 := h.1
theorem LQ.rr (h : LQ Ω L0 S I d A C T) : ∀ j, 4 ≤ j → j < 15 → j ≠ 12 → sR S d j = some (A j) := h.2.1
theorem LQ.a4 (h : LQ Ω L0 S I d A C T) : ArE 12 S (A 4) (tH T) := h.2.2.1.1
theorem LQ.a5 (h : LQ Ω L0 S I d A C T) : ArE 12 S (A 5) (tH T) := h.2.2.1.2.1
theorem LQ.a6 (h : LQ Ω L0 S I d A C T) : ArE 12 S (A 6) (tW T) := h.2.2.1.2.2.1
theorem LQ.a7 (h : LQ Ω L0 S I d A C T) : ArE 11 S (A 7) (tH T) := h.2.2.1.2.2.2.1
theorem LQ.a8 (h : LQ Ω L0 S I d A C T) : ArE 11 S (A 8) (tW T) := h.2.2.1.2.2.2.2.1
theorem LQ.a9 (h : LQ Ω L0 S I d A C T) : ArE 11 S (A 9) (tW T) := h.2.2.1.2.2.2.2.2.1
theorem LQ.a10 (h : LQ Ω L0 S I d A C T) : ArE 11 S (A 10) 6 := h.2.2.1.2.2.2.2.2.2.1
theorem LQ.a11 (h : LQ Ω L0 S I d A C T) : ArE 20 S (A 11) 3 := h.2.2.1.2.2.2.2.2.2.2
theorem LQ.cr (h : LQ Ω L0 S I d A C T) : ∀ k, k < 3 → sR S (A 11) k = some (C k) ∧ ArE 11 S (C k) 4 ∧ I (C k) 0 = nI (tLi T k) ∧ I (C k) 1 = nI (tWe T k) := h.2.2.2.1
theorem LQ.f0 (h : LQ Ω L0 S I d A C T) : I d 0 = nI (tH T) := h.2.2.2.2.1.1
theorem LQ.f1 (h : LQ Ω L0 S I d A C T) : I d 1 = nI (tL T) := h.2.2.2.2.1.2.1
theorem LQ.f2 (h : LQ Ω L0 S I d A C T) : I d 2 = nI (tS T) := h.2.2.2.2.1.2.2.1
theorem LQ.f3 (h : LQ Ω L0 S I d A C T) : I d 3 = nI (tM T) := h.2.2.2.2.1.2.2.2
theorem LQ.wv (h : LQ Ω L0 S I d A C T) : ∀ w, w < 4 → I (A 8) w = nI (tOn T w) ∧ I (A 9) w = nI (tCo T w) := h.2.2.2.2.2.1
theorem LQ.yv (h : LQ Ω L0 S I d A C T) : ∀ k, k < 3 → I (A 10) k = nI (tYa T k) := h.2.2.2.2.2.2.1
theorem LQ.zv (h : LQ Ω L0 S I d A C T) : ∀ j, j < 4 → I (A 4) j = 0 ∧ I (A 5) j = 0 ∧ I (A 6) j = 0 := h.2.2.2.2.2.2.2.1
theorem LQ.l13 (h : LQ Ω L0 S I d A C T) : ((A 13) ∈ sL S ∧ sK S (A 13) = 18) ∧ sR S (A 13) 1 = some (oE Ω) ∧ I (A 13) 2 = 0 := h.2.2.2.2.2.2.2.2.1
theorem LQ.l14 (h : LQ Ω L0 S I d A C T) : ((A 14) ∈ sL S ∧ sK S (A 14) = 18) ∧ sR S (A 14) 1 = some (oE Ω) ∧ I (A 14) 2 = 0 := h.2.2.2.2.2.2.2.2.2.1
theorem LQ.dx (h : LQ Ω L0 S I d A C T) : (∀ j, (j = 4 ∨ j = 5 ∨ j = 6 ∨ j = 7 ∨ j = 10) → A j ∉ L0 ∧ A j ≠ d ∧ A j ≠ A 8 ∧ A j ≠ A 13 ∧ A j ≠ A 14 ∧ ∀ k, k < 3 → A j ≠ C k) ∧ A 13 ∉ L0 ∧ A 14 ∉ L0 ∧ A 13 ≠ A 14 ∧ d ∉ L0 := h.2.2.2.2.2.2.2.2.2.2.1
theorem LQ.tv (h : LQ Ω L0 S I d A C T) : TV T := h.2.2.2.2.2.2.2.2.2.2.2
theorem LQ.kp (h : LQ Ω L0 S I d A C T) (x : Kp P I S I' S') (hT : sT S' = none) (hP : ∀ c, c ∈ sL S → P c → sK S c = 10 ∨ sK S c = 16) : LQ Ω L0 S' I' d A C T := by
  have np : ∀ c y, c ∈ sL S → sK S c = y → y ≠ 10 → y ≠ 16 → ¬ P c := fun c y hc hy h1 h2 q => (hP c hc q).elim (fun e => h1 (hy.symm.trans e)) (fun e => h2 (hy.symm.trans e))
  have gI : ∀ c y, c ∈ sL S → sK S c = y → y ≠ 10 → y ≠ 16 → I' c = I c := fun c y hc hy h1 h2 => x.gI hc (np c y hc hy h1 h2)
  have gR : ∀ c y, c ∈ sL S → sK S c = y → y ≠ 10 → y ≠ 16 → sR S' c = sR S c := fun c y hc hy h1 h2 => x.gR hc (np c y hc hy h1 h2)
  have eI : ∀ c n, ArE 11 S c n → I' c = I c := fun c n a => gI c 11 a.1 a.2.1 (by decide) (by decide)
  have eZ : ∀ c n, ArE 12 S c n → I' c = I c := fun c n a => gI c 12 a.1 a.2.1 (by decide) (by decide)
  have ed : I' d = I d := gI d 9 h.o.1 h.o.2 (by decide) (by decide)
  refine ⟨x.o h.o, fun j h1 h2 h3 => by rw [gR d 9 h.o.1 h.o.2 (by decide) (by decide)]; exact h.rr j h1 h2 h3, ⟨x.ar hT h.a4, x.ar hT h.a5, x.ar hT h.a6, x.ar hT h.a7, x.ar hT h.a8, x.ar hT h.a9, x.ar hT h.a10, x.ar hT h.a11⟩, fun k hk => ?_, ⟨by rw [ed]; exact h.f0, by rw [ed]; exact h.f1, by rw [ed]; exact h.f2, by rw [ed]; exact h.f3⟩, fun q hq => by rw [eI _ _ h.a8, eI _ _ h.a9]; exact h.wv q hq, fun q hq => by rw [eI _ _ h.a10]; exact h.yv q hq, fun q hq => by rw [eZ _ _ h.a4, eZ _ _ h.a5, eZ _ _ h.a6]; exact h.zv q hq, ⟨x.o h.l13.1, by rw [gR _ 18 h.l13.1.1 h.l13.1.2 (by decide) (by decide)]; exact h.l13.2.1, by rw [gI _ 18 h.l13.1.1 h.l13.1.2 (by decide) (by decide)]; exact h.l13.2.2⟩, ⟨x.o h.l14.1, by rw [gR _ 18 h.l14.1.1 h.l14.1.2 (by decide) (by decide)]; exact h.l14.2.1, by rw [gI _ 18 h.l14.1.1 h.l14.1.2 (by decide) (by decide)]; exact h.l14.2.2⟩, h.dx, h.tv⟩
  obtain ⟨c1, c2, c3, c4⟩ := h.cr k hk
  exact ⟨by rw [gR _ 20 h.a11.1 h.a11.2.1 (by decide) (by decide)]; exact c1, x.ar hT c2, by rw [eI _ _ c2]; exact c3, by rw [eI _ _ c2]; exact c4⟩
theorem LQ.tk : TK (fun S I => LQ Ω L0 S I d A C T) := fun S S' I I' P h x hT hP => h.kp x hT hP
end LQS
theorem sh_bit {x k : Nat} (hx : x < 8) (hk : k < 3) : ((nI x >>> (nI k &&& 31)) &&& 1 = 1) ↔ x.testBit k = true := by
  have h : ∀ (x : Fin 8) (k : Fin 3), ((nI x.val >>> (nI k.val &&& 31)) &&& 1 = 1) ↔ x.val.testBit k.val = true := by decide +kernel
  exact h ⟨x, hx⟩ ⟨k, hk⟩

set_option maxHeartbeats 2000000 in
theorem l_L_list0 {Ω : JO} {Q : JQ} {X : JS → JI → Prop} {L0 : List Nat} {I0 I : JI} {S0 S : JS} {b x m : Nat} {t : List Nat} (hX : TK X) (hx : x < 8) (hm : m ≤ 900) (h : TS X L0 I0 S0 S I b (t ++ TXl x 0) (m + 0)) (hk : ∀ I S, TS X L0 I0 S0 S I b (t ++ TXl x 1) (m + 3) → AA Ω m_L_list (FQ Ω m_L_list Q) 2 4000 2 [(2, .int (nI 1)), (0, .ref b), (1, .int (nI x))] [] I S) : AA Ω m_L_list (FQ Ω m_L_list Q) 0 0 2 [(2, .int (nI 0)), (0, .ref b), (1, .int (nI x))] [] I S := by
  refine r_iload_n (pc' := 3) dL_list_2 rfl 0 rfl rfl ?_
  refine r_iconst (pc' := 4) (v := 3) dL_list_3 (by decide) rfl ?_
  refine r_icmp_ge (tgt := 33) (pc' := 7) dL_list_4 rfl rfl (fun h4 => ?_) (fun h4 => ?_)
  · exact absurd h4 (by decide)
  · refine r_iload_n (pc' := 8) dL_list_7 rfl 2 rfl rfl ?_
    refine r_iload_n (pc' := 9) dL_list_8 rfl 0 rfl rfl ?_
    refine r_ishr (pc' := 10) dL_list_9 rfl ?_
    refine r_iconst (pc' := 11) (v := 1) dL_list_10 (by decide) rfl ?_
    refine r_iand (pc' := 12) dL_list_11 rfl ?_
    refine r_iconst (pc' := 13) (v := 1) dL_list_12 (by decide) rfl ?_
    refine r_icmp_ne (tgt := 27) (pc' := 16) dL_list_13 rfl rfl (fun h13 => ?_) (fun h13 => ?_)
    · have hb : (x.testBit 0) = false := Bool.eq_false_iff.mpr fun e => h13 ((sh_bit hx (by decide)).mpr e)
      refine r_iinc (pc' := 30) (lv' := [(2, _), (0, _), (1, _)]) dL_list_27 0 rfl rfl (by decide) rfl rfl ?_
      refine r_goto (tgt := 2) dL_list_30 rfl ?_
      refine aa_widen (k' := 2) (n' := 4000) (by decide) (by decide) ?_
      refine aa_lv (lv' := [(2, .int (nI 1)), (0, .ref b), (1, .int (nI x))]) rfl (hk I S ((TS.weak h (by omega)).eq ?_))
      rw [show TXl x 1 = TXl x 0 ++ (if x.testBit 0 then [32] ++ dg 0 else []) from rfl, hb]
      simp only [if_true, if_false, Bool.false_eq_true, List.append_nil, List.append_assoc]
    · have hb : (x.testBit 0) = true := (sh_bit hx (by decide)).mp h13
      refine r_aload_n (pc' := 17) dL_list_16 rfl 1 rfl rfl ?_
      refine r_bipush (pc' := 19) (v := 32) dL_list_17 (by decide) rfl ?_
      refine r_callV (pc' := 22) (k' := 1) (n' := 2000) (nn := 1) (As := [_]) (rest := []) dL_list_19 mb_J4_append_cf468 mi_J4_append_cf468 h.o (by decide) rfl lk_L_73 rfl rfl rfl rfl rfl (Nat.le_of_ble_eq_true rfl) rfl (c_apC (c := 32) h hX (by decide) (by omega) (fun I S h => (cpR ?_)))
      refine r_iload_n (pc' := 23) dL_list_22 rfl 0 rfl rfl ?_
      refine r_callV (pc' := 26) (k' := 2) (n' := 4000) (nn := 1) (As := [_]) (rest := []) dL_list_23 mb_J4_append_bf812 mi_J4_append_bf812 h.o (by decide) rfl lk_L_78 rfl rfl rfl rfl rfl (Nat.le_of_ble_eq_true rfl) rfl (c_apI (u := 0) h hX (by decide) (by omega) (fun I S h => (cpR ?_)))
      refine r_pop (pc' := 27) dL_list_26 rfl rfl ?_
      refine r_iinc (pc' := 30) (lv' := [(2, _), (0, _), (1, _)]) dL_list_27 0 rfl rfl (by decide) rfl rfl ?_
      refine r_goto (tgt := 2) dL_list_30 rfl ?_
      refine aa_widen (k' := 2) (n' := 4000) (by decide) (by decide) ?_
      refine aa_lv (lv' := [(2, .int (nI 1)), (0, .ref b), (1, .int (nI x))]) rfl (hk I S ((TS.weak h (by omega)).eq ?_))
      rw [show TXl x 1 = TXl x 0 ++ (if x.testBit 0 then [32] ++ dg 0 else []) from rfl, hb]
      simp only [if_true, if_false, Bool.false_eq_true, List.append_nil, List.append_assoc]
set_option maxHeartbeats 2000000 in
theorem l_L_list1 {Ω : JO} {Q : JQ} {X : JS → JI → Prop} {L0 : List Nat} {I0 I : JI} {S0 S : JS} {b x m : Nat} {t : List Nat} (hX : TK X) (hx : x < 8) (hm : m ≤ 900) (h : TS X L0 I0 S0 S I b (t ++ TXl x 1) (m + 3)) (hk : ∀ I S, TS X L0 I0 S0 S I b (t ++ TXl x 2) (m + 6) → AA Ω m_L_list (FQ Ω m_L_list Q) 4 8000 2 [(2, .int (nI 2)), (0, .ref b), (1, .int (nI x))] [] I S) : AA Ω m_L_list (FQ Ω m_L_list Q) 2 4000 2 [(2, .int (nI 1)), (0, .ref b), (1, .int (nI x))] [] I S := by
  refine r_iload_n (pc' := 3) dL_list_2 rfl 0 rfl rfl ?_
  refine r_iconst (pc' := 4) (v := 3) dL_list_3 (by decide) rfl ?_
  refine r_icmp_ge (tgt := 33) (pc' := 7) dL_list_4 rfl rfl (fun h4 => ?_) (fun h4 => ?_)
  · exact absurd h4 (by decide)
  · refine r_iload_n (pc' := 8) dL_list_7 rfl 2 rfl rfl ?_
    refine r_iload_n (pc' := 9) dL_list_8 rfl 0 rfl rfl ?_
    refine r_ishr (pc' := 10) dL_list_9 rfl ?_
    refine r_iconst (pc' := 11) (v := 1) dL_list_10 (by decide) rfl ?_
    refine r_iand (pc' := 12) dL_list_11 rfl ?_
    refine r_iconst (pc' := 13) (v := 1) dL_list_12 (by decide) rfl ?_
    refine r_icmp_ne (tgt := 27) (pc' := 16) dL_list_13 rfl rfl (fun h13 => ?_) (fun h13 => ?_)
    · have hb : (x.testBit 1) = false := Bool.eq_false_iff.mpr fun e => h13 ((sh_bit hx (by decide)).mpr e)
      refine r_iinc (pc' := 30) (lv' := [(2, _), (0, _), (1, _)]) dL_list_27 0 rfl rfl (by decide) rfl rfl ?_
      refine r_goto (tgt := 2) dL_list_30 rfl ?_
      refine aa_widen (k' := 4) (n' := 8000) (by decide) (by decide) ?_
      refine aa_lv (lv' := [(2, .int (nI 2)), (0, .ref b), (1, .int (nI x))]) rfl (hk I S ((TS.weak h (by omega)).eq ?_))
      rw [show TXl x 2 = TXl x 1 ++ (if x.testBit 1 then [32] ++ dg 1 else []) from rfl, hb]
      simp only [if_true, if_false, Bool.false_eq_true, List.append_nil, List.append_assoc]
    · have hb : (x.testBit 1) = true := (sh_bit hx (by decide)).mp h13
      refine r_aload_n (pc' := 17) dL_list_16 rfl 1 rfl rfl ?_
      refine r_bipush (pc' := 19) (v := 32) dL_list_17 (by decide) rfl ?_
      refine r_callV (pc' := 22) (k' := 3) (n' := 6000) (nn := 1) (As := [_]) (rest := []) dL_list_19 mb_J4_append_cf468 mi_J4_append_cf468 h.o (by decide) rfl lk_L_73 rfl rfl rfl rfl rfl (Nat.le_of_ble_eq_true rfl) rfl (c_apC (c := 32) h hX (by decide) (by omega) (fun I S h => (cpR ?_)))
      refine r_iload_n (pc' := 23) dL_list_22 rfl 0 rfl rfl ?_
      refine r_callV (pc' := 26) (k' := 4) (n' := 8000) (nn := 1) (As := [_]) (rest := []) dL_list_23 mb_J4_append_bf812 mi_J4_append_bf812 h.o (by decide) rfl lk_L_78 rfl rfl rfl rfl rfl (Nat.le_of_ble_eq_true rfl) rfl (c_apI (u := 1) h hX (by decide) (by omega) (fun I S h => (cpR ?_)))
      refine r_pop (pc' := 27) dL_list_26 rfl rfl ?_
      refine r_iinc (pc' := 30) (lv' := [(2, _), (0, _), (1, _)]) dL_list_27 0 rfl rfl (by decide) rfl rfl ?_
      refine r_goto (tgt := 2) dL_list_30 rfl ?_
      refine aa_widen (k' := 4) (n' := 8000) (by decide) (by decide) ?_
      refine aa_lv (lv' := [(2, .int (nI 2)), (0, .ref b), (1, .int (nI x))]) rfl (hk I S ((TS.weak h (by omega)).eq ?_))
      rw [show TXl x 2 = TXl x 1 ++ (if x.testBit 1 then [32] ++ dg 1 else []) from rfl, hb]
      simp only [if_true, if_false, Bool.false_eq_true, List.append_nil, List.append_assoc]
set_option maxHeartbeats 2000000 in
theorem l_L_list2 {Ω : JO} {Q : JQ} {X : JS → JI → Prop} {L0 : List Nat} {I0 I : JI} {S0 S : JS} {b x m : Nat} {t : List Nat} (hX : TK X) (hx : x < 8) (hm : m ≤ 900) (h : TS X L0 I0 S0 S I b (t ++ TXl x 2) (m + 6)) (hk : ∀ I S, TS X L0 I0 S0 S I b (t ++ TXl x 3) (m + 9) → AA Ω m_L_list (FQ Ω m_L_list Q) 6 12000 2 [(2, .int (nI 3)), (0, .ref b), (1, .int (nI x))] [] I S) : AA Ω m_L_list (FQ Ω m_L_list Q) 4 8000 2 [(2, .int (nI 2)), (0, .ref b), (1, .int (nI x))] [] I S := by
  refine r_iload_n (pc' := 3) dL_list_2 rfl 0 rfl rfl ?_
  refine r_iconst (pc' := 4) (v := 3) dL_list_3 (by decide) rfl ?_
  refine r_icmp_ge (tgt := 33) (pc' := 7) dL_list_4 rfl rfl (fun h4 => ?_) (fun h4 => ?_)
  · exact absurd h4 (by decide)
  · refine r_iload_n (pc' := 8) dL_list_7 rfl 2 rfl rfl ?_
    refine r_iload_n (pc' := 9) dL_list_8 rfl 0 rfl rfl ?_
    refine r_ishr (pc' := 10) dL_list_9 rfl ?_
    refine r_iconst (pc' := 11) (v := 1) dL_list_10 (by decide) rfl ?_
    refine r_iand (pc' := 12) dL_list_11 rfl ?_
    refine r_iconst (pc' := 13) (v := 1) dL_list_12 (by decide) rfl ?_
    refine r_icmp_ne (tgt := 27) (pc' := 16) dL_list_13 rfl rfl (fun h13 => ?_) (fun h13 => ?_)
    · have hb : (x.testBit 2) = false := Bool.eq_false_iff.mpr fun e => h13 ((sh_bit hx (by decide)).mpr e)
      refine r_iinc (pc' := 30) (lv' := [(2, _), (0, _), (1, _)]) dL_list_27 0 rfl rfl (by decide) rfl rfl ?_
      refine r_goto (tgt := 2) dL_list_30 rfl ?_
      refine aa_widen (k' := 6) (n' := 12000) (by decide) (by decide) ?_
      refine aa_lv (lv' := [(2, .int (nI 3)), (0, .ref b), (1, .int (nI x))]) rfl (hk I S ((TS.weak h (by omega)).eq ?_))
      rw [show TXl x 3 = TXl x 2 ++ (if x.testBit 2 then [32] ++ dg 2 else []) from rfl, hb]
      simp only [if_true, if_false, Bool.false_eq_true, List.append_nil, List.append_assoc]
    · have hb : (x.testBit 2) = true := (sh_bit hx (by decide)).mp h13
      refine r_aload_n (pc' := 17) dL_list_16 rfl 1 rfl rfl ?_
      refine r_bipush (pc' := 19) (v := 32) dL_list_17 (by decide) rfl ?_
      refine r_callV (pc' := 22) (k' := 5) (n' := 10000) (nn := 1) (As := [_]) (rest := []) dL_list_19 mb_J4_append_cf468 mi_J4_append_cf468 h.o (by decide) rfl lk_L_73 rfl rfl rfl rfl rfl (Nat.le_of_ble_eq_true rfl) rfl (c_apC (c := 32) h hX (by decide) (by omega) (fun I S h => (cpR ?_)))
      refine r_iload_n (pc' := 23) dL_list_22 rfl 0 rfl rfl ?_
      refine r_callV (pc' := 26) (k' := 6) (n' := 12000) (nn := 1) (As := [_]) (rest := []) dL_list_23 mb_J4_append_bf812 mi_J4_append_bf812 h.o (by decide) rfl lk_L_78 rfl rfl rfl rfl rfl (Nat.le_of_ble_eq_true rfl) rfl (c_apI (u := 2) h hX (by decide) (by omega) (fun I S h => (cpR ?_)))
      refine r_pop (pc' := 27) dL_list_26 rfl rfl ?_
      refine r_iinc (pc' := 30) (lv' := [(2, _), (0, _), (1, _)]) dL_list_27 0 rfl rfl (by decide) rfl rfl ?_
      refine r_goto (tgt := 2) dL_list_30 rfl ?_
      refine aa_widen (k' := 6) (n' := 12000) (by decide) (by decide) ?_
      refine aa_lv (lv' := [(2, .int (nI 3)), (0, .ref b), (1, .int (nI x))]) rfl (hk I S ((TS.weak h (by omega)).eq ?_))
      rw [show TXl x 3 = TXl x 2 ++ (if x.testBit 2 then [32] ++ dg 2 else []) from rfl, hb]
      simp only [if_true, if_false, Bool.false_eq_true, List.append_nil, List.append_assoc]
set_option maxHeartbeats 2000000 in
theorem c_L_list {Ω : JO} {I : JI} {S : JS} {Q : JQ} {X : JS → JI → Prop} {L0 : List Nat} {I0 : JI} {S0 : JS} {b x m : Nat} {t : List Nat} (h : TS X L0 I0 S0 S I b t m) (hX : TK X) (hx : x < 8) (hm : m ≤ 900) (hQ : ∀ I' S', TS X L0 I0 S0 S' I' b (t ++ TXl x 3) (m + 9) → Q (.inl (some (.ref b))) I' S') : Call Ω m_L_list [.ref b, .int (nI x)] I S Q := by
  refine call_of (by decide +kernel) rfl (Nat.le_of_ble_eq_true rfl) ?_
  change AA Ω m_L_list (FQ Ω m_L_list Q) 0 0 0 [(0, .ref b), (1, .int (nI x))] [] I S
  refine r_iconst (pc' := 1) (v := 0) dL_list_0 (by decide) rfl ?_
  refine r_istore_n (pc' := 2) (lv' := [(2, _), (0, _), (1, _)]) dL_list_1 rfl (by decide) rfl rfl ?_
  refine l_L_list0 hX hx hm (h.eq (List.append_nil t).symm) (fun I S h => ?_)
  refine l_L_list1 hX hx hm h (fun I S h => ?_)
  refine l_L_list2 hX hx hm h (fun I S h => ?_)
  refine r_iload_n (pc' := 3) dL_list_2 rfl 0 rfl rfl ?_
  refine r_iconst (pc' := 4) (v := 3) dL_list_3 (by decide) rfl ?_
  refine r_icmp_ge (tgt := 33) (pc' := 7) dL_list_4 rfl rfl (fun h4 => ?_) (fun h4 => ?_)
  · refine r_aload_n (pc' := 34) dL_list_33 rfl 1 rfl rfl ?_
    exact r_aret dL_list_34 rfl (Or.inl ⟨_, rfl⟩) (Or.inr ⟨_, rfl⟩) (by decide) (by decide) (hQ _ _ h)
  · exact absurd (show (3 : Int32) ≤ nI 3 by decide) h4
