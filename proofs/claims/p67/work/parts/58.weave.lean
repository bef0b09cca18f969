/-! a setup's picks woven -/
section WVE
variable {I J K : JI} {p P H mo W v a b c n m i N s L : Nat} {on co li we y : Nat → Nat} {pk r : List Nat} {q1 : Int32}
theorem LB.nI {x k : Nat} (h : x < 2 ^ k) : LB k (nI x) := fun j hj => by
  by_cases q : j < 32
  · rw [bt_nI q]; exact Nat.testBit_lt_two_pow (Nat.lt_of_lt_of_le h (Nat.pow_le_pow_right (by decide) hj))
  · unfold bt; exact BitVec.getLsbD_of_ge _ _ (by omega)
/-- what holds of the text's loom -/
def TG (H mo W : Nat) (on co li we : Nat → Nat) (pk : List Nat) : Prop := ((2 ≤ H ∧ H ≤ 3) ∧ 1 ≤ W ∧ W ≤ 4) ∧ (∀ w, w < W → on w < H ∧ co w < 6) ∧ (∀ k, k < 3 → li k < 2 ^ H ∧ we k < 3) ∧ (11 ≤ pk.length ∧ pk.length ≤ 60 ∧ ∀ i, i < pk.length → pk.getD i 0 < 3) ∧ mo < 100
theorem PLK.fok (g : PLK I P H mo W 3 on co li we y pk) (h : TG H mo W on co li we pk) : FOK I P H W := by
  obtain ⟨⟨a1, a2, a3, a4, a5⟩, ⟨b1, b2⟩, ⟨d1, d2, d3⟩, g4⟩ := g
  obtain ⟨h1, h2, h3, ⟨h4, h5, h6⟩, h7⟩ := h
  refine ⟨h1, ⟨a1, a4, a5, a2⟩, ⟨fun w hw => ⟨on w, (h2 w hw).1, (b1 w hw).1⟩, fun w hw => ⟨co w, (h2 w hw).2, (b1 w hw).2⟩⟩, fun k hk => ⟨?_, we k, ?_, (b2 k hk).2.1⟩, pk.length, ⟨by omega, by omega⟩, d1, fun i hi => ⟨pk.getD i 0, h6 i hi, d3 i hi⟩⟩
  · rw [(b2 k hk).1]; exact LB.nI (h3 k hk).1
  · have := (h3 k hk).2; omega
theorem PLK.sok (g : PLK I P H mo W 3 on co li we y pk) (h : TG H mo W on co li we pk) (hN : ysm y ≤ N) : SOK N I P (P + 10) H W := by
  obtain ⟨⟨a1, a2, a3, a4, a5⟩, ⟨b1, b2⟩, ⟨d1, d2, d3⟩, ⟨s0, s1, s2, s3, s4, s5⟩, y1, z1⟩ := g
  obtain ⟨h1, h2, h3, ⟨h4, h5, h6⟩, h7⟩ := h
  refine ⟨0, ysm y, y, ⟨by omega, s3⟩, ⟨hN, s4, by omega, y1⟩, fun i hi => absurd hi (Nat.not_lt_zero i), Or.inl s5, ⟨by rw [s0]; exact LB.zero H, by rw [s1]; exact LB.zero H⟩, fun k hk => ⟨?_, we k, ?_, (b2 k hk).2.2.2⟩, fun _ => ⟨s1, s2, fun k hk => ⟨?_, ?_⟩, fun i hi => absurd hi (Nat.not_lt_zero i)⟩⟩
  · rw [(b2 k hk).2.2.1]; exact LB.nI (h3 k hk).1
  · have := (h3 k hk).2; omega
  · rw [(b2 k hk).2.2.1, (b2 k hk).1]
  · rw [(b2 k hk).2.2.2, (b2 k hk).2.1]
theorem mvI_oo {mv : Int32} {z : Nat} (h0 : z ≠ s) (h1 : z ≠ s + 1) : ∀ (n j : Nat) (I : JI), mvI L s mv n j I z = I z := by
  intro n
  induction n with
  | zero => intro j I; rfl
  | succ n ih =>
    intro j I
    rw [mvI, ih]
    unfold mvB
    split
    · dsimp only
      split
      · rw [stI_ne h0, stI_ne h0, ptI_ne h1]
      · rw [ptI_ne h1]
    · rfl
theorem wn_keep {z : Nat} (h0 : z ≠ s) (h1 : z ≠ s + 1) (h5 : z ≠ s + 5) (h6 : z ≠ s + 6) : x3_weaveNext I L s z = x7_addYarn I s (atF (I (s + 4)) 12 (x0_cfr I (L + 5) (I s 3))) (-(I L 4)) z := by
  unfold x3_weaveNext
  try dsimp only
  have e1 : ∀ K sh wf, x7_addRow K s sh wf z = K z := fun K sh wf => by
    unfold x7_addRow
    try dsimp only
    rw [stI_ne h0, ptI_ne h6, ptI_ne h5]
  have e2 : ∀ K, x3_break K L s z = K z := fun K => by
    unfold x3_break
    split
    · rfl
    · split
      · rfl
      · rw [stI_ne h0, stI_ne h0]
  rw [e2, e1]
  unfold x3_move
  rw [mvI_oo h0 h1, stI_ne h0]
theorem ldN_cnt {x : Nat} {on : Nat → Nat} : ∀ j, ldN x on j = cntB (fun w => x.testBit (on w)) j := by
  intro j
  induction j with
  | zero => rfl
  | succ j ih => rw [ldN, cntB, ih]
/-- after i picks -/
def WQ (I : JI) (P H mo W : Nat) (on co li we : Nat → Nat) (pk : List Nat) (N i : Nat) : Prop := FOK I P H W ∧ SOK N I P (P + 10) H W ∧ I (P + 10) 3 = nI i ∧ (∀ k, k < 3 → I (P + 10 + 3) k = nI (li k) ∧ I (P + 10 + 4) k = nI (we k)) ∧ (∀ f, f < 3 → ∃ x, I (P + 10 + 2) f = nI x ∧ 20 ≤ x + 4 * i ∧ x ≤ 1000) ∧ (I (P + 5) 3 = nI pk.length ∧ ∀ i, i < pk.length → I (P + 7) i = nI (pk.getD i 0)) ∧ (∀ w, w < W → I (P + 1) w = nI (on w)) ∧ I P 3 = nI mo ∧ I P 4 = nI W ∧ I (P + 26) 1 = 0
theorem PLK.wq (g : PLK I P H mo W 3 on co li we y pk) (h : TG H mo W on co li we pk) (hN : ysm y ≤ N) (hy : ∀ f, f < 3 → 20 ≤ y f ∧ y f ≤ 1000) : WQ I P H mo W on co li we pk N 0 := by
  refine ⟨g.fok h, g.sok h hN, ?_⟩
  obtain ⟨⟨a1, a2, a3, a4, a5⟩, ⟨b1, b2⟩, ⟨d1, d2, d3⟩, ⟨s0, s1, s2, s3, s4, s5⟩, y1, z1⟩ := g
  exact ⟨s3, fun k hk => (b2 k hk).2.2, fun f hf => ⟨y f, y1 f (by omega), by have := (hy f hf).1; omega, (hy f hf).2⟩, ⟨d1, d3⟩, fun w hw => (b1 w hw).1, a3, a4, z1⟩
theorem WQ.fr (g : WQ I P H mo W on co li we pk N i) (e : ∀ z, P ≤ z → J z = I z) : WQ J P H mo W on co li we pk N i := by
  obtain ⟨g1, g2, g3⟩ := g
  refine ⟨g1.le fun z h1 _ => (e z h1).symm, g2.se (fun k j hk hj => by rw [e _ (by omega)]) fun z h1 _ => (e z h1).symm, ?_⟩
  rw [e P (by omega), e (P + 1) (by omega), e (P + 5) (by omega), e (P + 7) (by omega), e (P + 10) (by omega), e (P + 10 + 2) (by omega), e (P + 10 + 3) (by omega), e (P + 10 + 4) (by omega), e (P + 26) (by omega)]
  exact g3
theorem WQ.next (g : WQ I P H mo W on co li we pk N i) (h : TG H mo W on co li we pk) (hi : i < 4) (hN : N ≤ 100000) (hl : ldN (li (pk.getD i 0)) on W ≤ mo) : x3_obst I P (P + 10) = 0 ∧ WQ (x3_weaveNext I P (P + 10)) P H mo W on co li we pk N (i + 1) := by
  obtain ⟨g1, g2, g3, g4, g5, ⟨g6, g7⟩, g8, g9, gW, g10⟩ := g
  obtain ⟨h1, h2, h3, ⟨h4, h5, h6⟩, h7⟩ := h
  have ecd : cdI I P i = pk.getD i 0 := by
    unfold cdI
    rw [g6, nI_clamp (by omega), Nat.mod_eq_of_lt (by omega), g7 i (by omega), nI_clamp (by have := h6 i (by omega); omega)]
  have hc := h6 i (by omega)
  obtain ⟨c, ec⟩ : ∃ c, c = pk.getD i 0 := ⟨_, rfl⟩
  rw [← ec] at hc hl ecd
  have ecf : x0_cfr I (P + 5) (nI i) = nI c := by rw [(g1.cfr (i := i) (by omega)).1, ecd]
  have ew : atF (I (P + 10 + 4)) 12 (nI c) = nI (we c) := by rw [atF_nI (by omega) (by omega), (g4 c hc).2]
  have el : atF (I (P + 10 + 3)) 12 (nI c) = nI (li c) := by rw [atF_nI (by omega) (by omega), (g4 c hc).1]
  have hw := (h3 c hc).2
  obtain ⟨x, x1, x2, x3⟩ := g5 (we c) hw
  have ey : atF (I (P + 10 + 2)) 6 (nI (we c)) = nI x := by rw [atF_nI (by omega) (by omega), x1]
  have hm : bcF (x3_mask I P (nI (li c))) = nI (ldN (li c) on W) := by
    unfold x3_mask
    rw [gW, nI_clamp (by omega)]
    obtain ⟨m1, m2⟩ := wmF_bt (hw := I (P + 1)) (set := nI (li c)) (H := H) W (by omega) (fun w hw => ⟨on w, by have := (h2 w hw).1; omega, g8 w hw⟩)
    rw [bcF_LB m1 (by omega), ldN_cnt]
    congr 1
    refine cntB_congr fun w hw => ?_
    rw [m2 w hw, g8 w hw, nI_clamp (by have := (h2 w hw).1; omega), bt_nI (by have := (h2 w hw).1; omega)]
  have ho : x3_obst I P (P + 10) = 0 := by
    unfold x3_obst
    rw [g6, if_neg (nI_ne0 (by omega) (by omega)), g3, if_neg (show ¬ (60 : Int32) ≤ nI i from nI_ge (b := 60) (by omega) (by decide)), ecf, ew, ey, gW, if_neg (nI_nlt (by omega) (by omega)), el, hm, g9, if_neg (nI_nlt (by omega) (by omega))]
  refine ⟨ho, ?_⟩
  obtain ⟨k1, r, k2, k3, k4⟩ := g2.wn g1 (Nat.le_refl _) hN ho
  have er : r = i := (nI_eq (by omega) (by omega)).mp (k3.symm.trans g3)
  subst er
  have f : ∀ z, z < P + 10 ∨ P + 17 ≤ z → x3_weaveNext I P (P + 10) z = I z := fun z hz => fr_x3_weaveNext (by omega)
  have ea : x7_addYarn I (P + 10) (atF (I (P + 10 + 4)) 12 (x0_cfr I (P + 5) (I (P + 10) 3))) (-(I P 4)) = stI I (P + 10 + 2) (we c) (nI (x - W)) := by
    unfold x7_addYarn
    rw [g3, ecf, ew, ey, ptI_nI (by omega) (by omega), gW, nI_subn (by omega)]
  refine ⟨g1.le fun z z1 z2 => (f z (by omega)).symm, k1, k4, ?_, ?_, ?_⟩
  · intro k hk
    rw [wn_keep (by omega) (by omega) (by omega) (by omega), wn_keep (by omega) (by omega) (by omega) (by omega), ea, stI_ne (by omega), stI_ne (by omega)]
    exact g4 k hk
  · intro k hk
    rw [wn_keep (by omega) (by omega) (by omega) (by omega), ea]
    by_cases q : k = we c
    · subst q; rw [stI_at]; exact ⟨x - W, rfl, by omega, by omega⟩
    · rw [stI_aj q]
      obtain ⟨x', y1, y2, y3⟩ := g5 k hk
      exact ⟨x', y1, by omega, y3⟩
  · rw [f P (by omega), f (P + 1) (by omega), f (P + 5) (by omega), f (P + 7) (by omega), f (P + 26) (by omega)]
    exact ⟨⟨g6, g7⟩, g8, g9, gW, g10⟩
theorem WQ.wu (h : TG H mo W on co li we pk) (hN : N ≤ 100000) : ∀ (m i : Nat) (I : JI), WQ I P H mo W on co li we pk N i → i + m ≤ 4 → (∀ j, j < i + m → ldN (li (pk.getD j 0)) on W ≤ mo) → wuN P (P + 10) m I = m ∧ WQ (wuI P (P + 10) m I) P H mo W on co li we pk N (i + m) := by
  intro m
  induction m with
  | zero => intro i I g _ _; exact ⟨rfl, g⟩
  | succ m ih =>
    intro i I g hi hl
    obtain ⟨n1, n2⟩ := g.next h (by omega) hN (hl i (by omega))
    obtain ⟨m1, m2⟩ := ih (i + 1) _ n2 (by omega) (fun j hj => hl j (by omega))
    rw [wuN, if_pos n1, m1, wuI, if_pos n1, show i + (m + 1) = i + 1 + m by omega]
    exact ⟨rfl, m2⟩
theorem it_weave (h : AB I (p + 1) (tb ";weave " ++ (dg m ++ r))) (hr : EB r) (hm : 1 ≤ m ∧ m ≤ 4) (hP : p + 3 ≤ P) (t : TG H mo W on co li we pk) (hN : N ≤ 100000) (g : WQ I P H mo W on co li we pk N 0) (hl : ∀ j, j < m → ldN (li (pk.getD j 0)) on W ≤ mo) : ∃ J, PS p P q1 I J ∧ AB J (p + 1) r ∧ WQ J P H mo W on co li we pk N m := by
  rw [tx_weave] at h
  obtain ⟨K, k1, k2, k3⟩ := it_go (P := P) (q1 := q1) (w := [119, 101, 97, 118, 101]) (r := 32 :: (dg m ++ r)) h (lw_of (by decide)) (by decide) (by decide) (hd_sp (by decide))
  obtain ⟨K1, a1, a2, a3, a4⟩ := adv_n (s := 1) k1.rp (by omega) hr.D
  have e1 := see_n (P := P) (x1 := 1) (x2 := 60) a2 a3 (nI_nlt (b := 1) hm.1 (by omega)) (nI_le (b := 60) (by omega) (by decide))
  have g1 : WQ (stI K1 p 4 (nI m)) P H mo W on co li we pk N 0 := g.fr fun z hz => by rw [stI_ne (by omega), a4 z (by omega), k2 z (by omega)]
  obtain ⟨w1, w2⟩ := WQ.wu t hN m 0 _ g1 (by omega) (fun j hj => hl j (by omega))
  rw [Nat.zero_add] at w2
  have f : ∀ z, z < P → wuI P (P + 10) m (stI K1 p 4 (nI m)) z = stI K1 p 4 (nI m) z := fun z hz => fr_wuI (by omega)
  obtain ⟨K2, b1, b2, b3⟩ := adv_b (I := wuI P (P + 10) m (stI K1 p 4 (nI m))) ((a2.st (j := 4) (x := nI m)).fr (f _ (by omega)) (f _ (by omega))).rp hr
  refine ⟨K2, k3 _ ?_, b2, w2.fr fun z hz => b3 z (by omega)⟩
  rw [ri_weave (by rw [tw_weave]; exact k1)]
  unfold s_X5_readWeave
  rw [a1, bd_some, e1, bd2_some, if_pos rfl, gd_i (g1.2.1.wv g1.1), lx_s, lx_s, stI_at, nI_clamp (by omega), w1, f p (by omega), stI_at, if_pos (Int32.le_refl _), b1, bd_some]
theorem it_unweave (h : AB I (p + 1) (tb ";unweave 1" ++ r)) (hr : EB r) (hm : 1 ≤ m ∧ m ≤ 4) (hP : p + 3 ≤ P) (hN : N ≤ 100000) (g : WQ I P H mo W on co li we pk N m) : ∃ J, PS p P q1 I J ∧ AB J (p + 1) r ∧ FOK J P H W ∧ SOK N J P (P + 10) H W ∧ (I (P + 5) 3 = J (P + 5) 3) ∧ J (P + 26) 1 = 0 := by
  rw [tx_unweave1] at h
  obtain ⟨K, k1, k2, k3⟩ := it_go (P := P) (q1 := q1) (w := [117, 110, 119, 101, 97, 118, 101]) (r := 32 :: 49 :: r) h (lw_of (by decide)) (by decide) (by decide) (hd_sp (by decide))
  obtain ⟨K1, a1, a2, a3, a4⟩ := adv_n (s := 1) (v := 1) (r := r) k1.rp (by omega) hr.D
  have e1 := see_n (P := P) (x1 := 1) (x2 := 60) a2 a3 (by decide) (by decide)
  have g1 : WQ (stI K1 p 4 (nI 1)) P H mo W on co li we pk N m := g.fr fun z hz => by rw [stI_ne (by omega), a4 z (by omega), k2 z (by omega)]
  obtain ⟨g2, g3, g4, g5⟩ := id g1
  obtain ⟨r1, r2, r3⟩ := SOK.rm hN 1 m _ g3 g2 (by omega) g4 hm.1
  have f : ∀ z, z < P + 10 ∨ P + 17 ≤ z → rmI P 1 (stI K1 p 4 (nI 1)) z = stI K1 p 4 (nI 1) z := fun z hz => fr_rmJ (by omega) _ _
  obtain ⟨K2, b1, b2, b3⟩ := adv_b (I := rmI P 1 (stI K1 p 4 (nI 1))) ((a2.st (j := 4) (x := nI 1)).fr (f _ (by omega)) (f _ (by omega))).rp hr
  have fz : ∀ z, P ≤ z → (z < P + 10 ∨ P + 17 ≤ z) → K2 z = I z := fun z hz hz2 => by rw [b3 z (by omega), f z (by omega), stI_ne (by omega), a4 z (by omega), k2 z (by omega)]
  refine ⟨K2, k3 _ ?_, b2, g.1.le fun z z1 z2 => (fz z (by omega) (by omega)).symm, r1.se (fun k j hk hj => by rw [b3 _ (by omega)]) (fun z z1 z2 => by rw [b3 z (by omega)]), by rw [fz _ (by omega) (by omega)], by rw [fz _ (by omega) (by omega)]; exact g.2.2.2.2.2.2.2.2.2⟩
  rw [ri_unweave (by rw [tw_unweave]; exact k1)]
  unfold s_X5_readUnweave
  rw [a1, bd_some, e1, bd2_some, if_pos rfl, stI_at, g4, if_pos (nI_le hm.1 (by omega)), lx_s, show (nI 1).toNatClampNeg = 1 from rfl, b1, bd_some]
end WVE
