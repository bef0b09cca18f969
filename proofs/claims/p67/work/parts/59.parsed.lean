/-! the law's text is read -/
section PRS
variable {I J K : JI} {p P n m N c a b k t : Nat} {pk r E : List Nat} {q1 : Int32} {T : TP} {y : Nat → Nat}
theorem EB.tx {x : String} {w : List Nat} (h : tb x = 59 :: w) : EB (tb x ++ r) := by rw [h]; exact Or.inr ⟨_, rfl⟩
theorem eb_A : EB (TXA T m ++ r) := by unfold TXA; rw [List.append_assoc]; exact EB.tx tx_warp
theorem eb_B : EB (TXB T m ++ r) := by unfold TXB; rw [List.append_assoc]; exact EB.tx tx_card
theorem eb_C : EB (TXC T m ++ r) := by unfold TXC; rw [List.append_assoc]; exact EB.tx tx_yarn
theorem eb_w : ∀ (j : Nat) {r : List Nat}, EB r → EB (TXw T j ++ r) := by
  intro j
  induction j with
  | zero => intro r h; exact h
  | succ j ih => intro r h; rw [TXw, List.append_assoc]; exact ih eb_A
theorem it_warps (hv : TV T) (hP : p + 3 ≤ P) : ∀ (j : Nat) (r : List Nat), j ≤ 4 → EB r → ∀ I, AB I (p + 1) (TXw T j ++ r) → PLK I P (tH T) (tM T) 0 0 (tOn T) (tCo T) (tLi T) (tWe T) y pk → ∃ J, PSn p P q1 j I J ∧ AB J (p + 1) r ∧ PLK J P (tH T) (tM T) j 0 (tOn T) (tCo T) (tLi T) (tWe T) y pk := by
  intro j
  induction j with
  | zero => intro r _ _ I h g; exact ⟨I, fun f i _ => rfl, h, g⟩
  | succ j ih =>
    intro r hj hr I h g
    rw [TXw, List.append_assoc] at h
    obtain ⟨J, j1, j2, j3⟩ := ih _ (by omega) eb_A I h g
    obtain ⟨v1, v2, v3, v4, v5, v6, v7⟩ := hv
    obtain ⟨w1, w2⟩ := v6 j (by omega)
    obtain ⟨K, k1, k2, k3⟩ := it_warp (q1 := q1) (r := r) (c := tCo T j) (v := tOn T j) (I := J) (by unfold TXA at j2; simpa only [List.append_assoc] using j2) hr (by omega) ⟨by omega, by omega⟩ w1 (by omega) hP rfl rfl j3
    exact ⟨K, j1.tr k1.nn, k2, k3⟩
theorem it_cardT (hv : TV T) (hP : p + 3 ≤ P) (hk : k < 3) (hr : EB r) {W : Nat} (h : AB I (p + 1) (TXB T k ++ r)) (g : PLK I P (tH T) (tM T) W k (tOn T) (tCo T) (tLi T) (tWe T) y pk) : ∃ J, PS p P q1 I J ∧ AB J (p + 1) r ∧ PLK J P (tH T) (tM T) W (k + 1) (tOn T) (tCo T) (tLi T) (tWe T) y pk := by
  obtain ⟨v1, v2, v3, v4, v5, v6, v7⟩ := hv
  obtain ⟨w1, w2, w3⟩ := v7 k hk
  exact it_card (r := r) (c := tWe T k) (x := tLi T k) (by unfold TXB at h; simpa only [List.append_assoc] using h) hr (by omega) ⟨by omega, v1.2⟩ w1 (by omega) hP rfl rfl g
theorem it_yarnT (hv : TV T) (hP : p + 3 ≤ P) (hk : k < 3) (hr : EB r) {W nc : Nat} (h : AB I (p + 1) (TXC T k ++ r)) (g : PLK I P (tH T) (tM T) W nc (tOn T) (tCo T) (tLi T) (tWe T) y pk) : ∃ J, PS p P q1 I J ∧ AB J (p + 1) r ∧ PLK J P (tH T) (tM T) W nc (tOn T) (tCo T) (tLi T) (tWe T) (upN y k (y k + tYa T k)) pk := by
  obtain ⟨v1, v2, v3, v4, v5, v6, v7⟩ := hv
  obtain ⟨w1, w2, w3, w4⟩ := v7 k hk
  exact it_yarn (r := r) (c := k) (v := tYa T k) (by unfold TXC at h; simpa only [List.append_assoc] using h) hr (by omega) (by omega) (by omega) hP g
theorem pk_e2 (ht : t = 1 ∨ t = 2) : (a :: (if t = 1 then [b, k] else [b, k, b, k])) ++ [a, b, k, b, a] ++ [k, k, a] = PK a b k t := by
  rcases ht with rfl | rfl <;> rfl
theorem PK_f (ha : a < 3) (hb : b < 3) (hk : k < 3) (ht : t = 1 ∨ t = 2) : 11 ≤ (PK a b k t).length ∧ (PK a b k t).length ≤ 13 ∧ ∀ i, i < (PK a b k t).length → (PK a b k t).getD i 0 < 3 := by
  have hm : ∀ x, x ∈ PK a b k t → x < 3 := by
    intro x hx
    unfold PK at hx
    rcases ht with rfl | rfl <;> simp at hx <;> omega
  refine ⟨?_, ?_, fun i hi => hm _ (getD_mem hi)⟩ <;> rcases ht with rfl | rfl <;> simp [PK]
def yT (T : TP) : Nat → Nat := upN (upN (upN (fun _ => 0) 0 (0 + tYa T 0)) 1 (0 + tYa T 1)) 2 (0 + tYa T 2)
set_option maxHeartbeats 4000000 in
theorem text_read (hv : TV T) (ha : a < 3) (hb : b < 3) (hk : k < 3) (ht : t = 1 ∨ t = 2) (hE : TE T (PK a b k t) E) (hP : p + 3 ≤ P) (hb8 : ∀ j, j < (TXt T a b k t ++ E).length → I (p + 1 + 1) j = nI ((TXt T a b k t ++ E).getD j 0)) (hlen : (TXt T a b k t ++ E).length ≤ 500) (h26 : I (P + 26) 1 = 0) : ∃ J, s_X5_parse I p P (nI (TXt T a b k t ++ E).length) = some (true, J) ∧ FOK J P (tH T) (tW T) ∧ SOK 300 J P (P + 10) (tH T) (tW T) ∧ J (P + 5) 3 = nI (PK a b k t).length ∧ J (P + 26) 1 = 0 := by
  have e : TXt T a b k t ++ E = tb "loom " ++ (dg (tH T) ++ ([32] ++ (dg (tL T) ++ (tb ";strain " ++ (dg (tS T) ++ (tb ";motor " ++ (dg (tM T) ++ (TXw T (tW T) ++ (TXB T 0 ++ (TXB T 1 ++ (TXB T 2 ++ (TXC T 0 ++ (TXC T 1 ++ (TXC T 2 ++ (tb ";deck " ++ (dg a ++ (tb " repeat " ++ (dg t ++ (tb " (" ++ (dg b ++ ([32] ++ (dg k ++ (tb ");deck mirror (" ++ (dg a ++ ([32] ++ (dg b ++ ([32] ++ (dg k ++ (tb ") back (" ++ (dg a ++ (tb " repeat 2 (" ++ (dg k ++ (tb "))" ++ E))))))))))))))))))))))))))))))))) := by
    unfold TXt TXh TXd; simp only [List.append_assoc]
  obtain ⟨v1, v2, v3, v4, v5, v6, v7⟩ := id hv
  have hEB : EB E := by
    rcases hE with rfl | ⟨many, _, rfl | rfl, _⟩
    · exact Or.inl rfl
    · exact EB.tx tx_weave
    · exact EB.tx tx_weave
  obtain ⟨K0, p0, b0, g0⟩ := hd_ok (on := tOn T) (co := tCo T) (li := tLi T) (we := tWe T) h26 hb8 hlen e (EB.tx tx_strain) ⟨v1.1, by omega⟩ ⟨by omega, by omega⟩ hP
  generalize hq : nI (TXt T a b k t ++ E).length = q1 at p0
  obtain ⟨K1, p1, b1, g1⟩ := it_strain (q1 := q1) b0 (EB.tx tx_motor) (by omega) hP g0
  obtain ⟨K2, p2, b2, g2⟩ := it_motor (q1 := q1) b1 (eb_w _ eb_B) (by omega) (by omega) hP g1
  obtain ⟨K3, p3, b3, g3⟩ := it_warps (q1 := q1) hv hP (tW T) _ v5.2 eb_B K2 b2 g2
  obtain ⟨K4, p4, b4, g4⟩ := it_cardT (q1 := q1) hv hP (by decide) eb_B b3 g3
  obtain ⟨K5, p5, b5, g5⟩ := it_cardT (q1 := q1) hv hP (by decide) eb_B b4 g4
  obtain ⟨K6, p6, b6, g6⟩ := it_cardT (q1 := q1) hv hP (by decide) eb_C b5 g5
  obtain ⟨K7, p7, b7, g7⟩ := it_yarnT (q1 := q1) hv hP (by decide) eb_C b6 g6
  obtain ⟨K8, p8, b8, g8⟩ := it_yarnT (q1 := q1) hv hP (by decide) eb_C b7 g7
  obtain ⟨K9, p9, b9, g9⟩ := it_yarnT (q1 := q1) hv hP (by decide) (EB.tx tx_deck) b8 g8
  rw [tx_mid] at b9
  obtain ⟨K10, p10, b10, g10⟩ := it_deck1 (q1 := q1) (r := 59 :: 100 :: 101 :: 99 :: 107 :: 32 :: 109 :: 105 :: 114 :: 114 :: 111 :: 114 :: 32 :: 40 :: (dg a ++ ([32] ++ (dg b ++ ([32] ++ (dg k ++ (tb ") back (" ++ (dg a ++ (tb " repeat 2 (" ++ (dg k ++ (tb "))" ++ E))))))))))) b9 (Or.inr ⟨_, rfl⟩) ha hb hk ht hP g9
  obtain ⟨K11, p11, b11, g11⟩ := it_deck2 (q1 := q1) b10 hEB ha hb hk (by rcases ht with rfl | rfl <;> simp) hP g10
  rw [pk_e2 ht] at g11
  have hps : PSn p P q1 (1 + 1 + tW T + 1 + 1 + 1 + 1 + 1 + 1 + 1 + 1) K0 K11 := (((((((((p1.nn.tr p2.nn).tr p3).tr p4.nn).tr p5.nn).tr p6.nn).tr p7.nn).tr p8.nn).tr p9.nn).tr p10.nn).tr p11.nn
  obtain ⟨f1, f2, f3⟩ := PK_f ha hb hk ht
  have tg : TG (tH T) (tM T) (tW T) (tOn T) (tCo T) (tLi T) (tWe T) (PK a b k t) := ⟨⟨v1, by omega, v5.2⟩, fun w hw => ⟨(v6 w (by omega)).1, by have := (v6 w (by omega)).2; omega⟩, fun j hj => ⟨(v7 j hj).1, (v7 j hj).2.1⟩, ⟨f1, by omega, f3⟩, by omega⟩
  have hy : ∀ f, f < 3 → 20 ≤ yT T f ∧ yT T f ≤ 1000 := by
    intro f hf
    obtain ⟨-, -, y3, y4⟩ := v7 f hf
    have : yT T f = tYa T f := by
      unfold yT upN
      rcases (show f = 0 ∨ f = 1 ∨ f = 2 by omega) with rfl | rfl | rfl <;> simp
    omega
  have hys : ysm (yT T) ≤ 300 := by
    have a0 := (v7 0 (by decide)).2.2.2
    have a1 := (v7 1 (by decide)).2.2.2
    have a2 := (v7 2 (by decide)).2.2.2
    unfold ysm yT upN
    simp
    omega
  have gW : WQ K11 P (tH T) (tM T) (tW T) (tOn T) (tCo T) (tLi T) (tWe T) (PK a b k t) 300 0 := PLK.wq (y := yT T) g11 tg hys hy
  have hfin : ∀ {n : Nat} {J : JI}, PSn p P q1 n K0 J → n ≤ 499 → AB J (p + 1) [] → FOK J P (tH T) (tW T) → s_X5_parse I p P q1 = some (true, J) := by
    intro n J h1 h2 h3 h4
    rw [p0, h1.end h3 h2, bl_inr]
    show (if 0 < J P 4 then some (true, J) else _) = _
    rw [if_pos (show 0 < J P 4 by rw [h4.2.1.2.1]; exact nI_lt (a := 0) (by omega) (by omega))]
  rcases hE with rfl | ⟨many, hm, rfl | rfl, hl⟩
  · exact ⟨K11, hfin hps (by omega) b11 gW.1, gW.1, gW.2.1, g11.2.2.1.1, gW.2.2.2.2.2.2.2.2.2⟩
  · rw [← List.append_nil (dg many)] at b11
    obtain ⟨K12, p12, b12, g12⟩ := it_weave (q1 := q1) b11 (Or.inl rfl) hm hP tg (by decide) gW hl
    exact ⟨K12, hfin (hps.tr p12.nn) (by omega) b12 g12.1, g12.1, g12.2.1, g12.2.2.2.2.2.1.1, g12.2.2.2.2.2.2.2.2.2⟩
  · obtain ⟨K12, p12, b12, g12⟩ := it_weave (q1 := q1) b11 (by rw [← List.append_nil (tb ";unweave 1")]; exact EB.tx tx_unweave1) hm hP tg (by decide) gW hl
    rw [← List.append_nil (tb ";unweave 1")] at b12
    obtain ⟨K13, p13, b13, g13, g14, g15, g16⟩ := it_unweave (q1 := q1) b12 (Or.inl rfl) hm hP (by decide) g12
    exact ⟨K13, hfin ((hps.tr p12.nn).tr p13.nn) (by omega) b13 g13, g13, g14, by rw [← g15]; exact g12.2.2.2.2.2.1.1, g16⟩
theorem setup_read (hv : TV T) (ha : a < 3) (hb : b < 3) (hk : k < 3) (ht : t = 1 ∨ t = 2) (hE : TE T (PK a b k t) E) (hb8 : ∀ j, j < (TXt T a b k t ++ E).length → I (c + 3) j = nI ((TXt T a b k t ++ E).getD j 0)) (hn : (TXt T a b k t ++ E).length ≤ n) (hn5 : n ≤ 500) (h1 : I (c + 2) 1 = nI n) (h30 : I (c + 30) 1 = 0) : ∃ J, s_X8_parseSetup I c (c + 104) (c + 4) (nI (TXt T a b k t ++ E).length) = some (.inl (nI (PK a b k t).length), J) ∧ INV 300 J c (c + 4) (tH T) (tW T) := by
  obtain ⟨J, j1, j2, j3, j4, j5⟩ := text_read (I := I) (p := c + 1) (P := c + 4) hv ha hb hk ht hE (by omega) hb8 (by omega) h30
  have f : ∀ z, c < z → z < c + 30 → stI (stI (s_X1_forgetAll (stI J c 6 1) (c + 30)) (c + 88) 1 0) (c + 96) 1 0 z = J z := fun z z1 z2 => by
    unfold s_X1_forgetAll
    rw [lx_s, stI_ne (by omega), stI_ne (by omega), stI_ne (by omega), stI_ne (by omega)]
  refine ⟨_, ?_, rfl, ?_, j2.le fun z z1 z2 => (f z (by omega) (by omega)).symm, j3.se (fun i j hi hj => by rw [f _ (by omega) (by omega)]) (fun z z1 z2 => (f z (by omega) (by omega)).symm), ⟨0, by omega, ?_⟩, ⟨0, by omega, ?_⟩, by decide⟩
  · unfold s_X8_parseSetup
    rw [if_neg (show ¬ nI (TXt T a b k t ++ E).length < 0 from nI_nlt (b := 0) (Nat.zero_le _) (by omega)), h1, if_pos (nI_le hn (by omega)), j1, bd2_some, if_pos rfl, j4]
  · unfold s_X1_forgetAll
    rw [lx_s, stI_ne (by omega), stI_ne (by omega), stI_ne (by omega), stI_at]
  · unfold s_X1_forgetAll
    rw [lx_s, stI_ne (by omega), stI_ne (by omega), stI_aj (by decide), stI_ne (by omega)]
    exact j5
  · unfold s_X1_forgetAll
    rw [lx_s, stI_ne (by omega), stI_ne (by omega), stI_at]; rfl
end PRS
