/-! the two decks of the text -/
section DK3
variable {I J K : JI} {p P H mo W v a b c t : Nat} {on co li we y st cd : Nat → Nat} {pk pk' r q : List Nat} {q1 : Int32}
theorem PLK.ds (g : PLK I P H mo W 3 on co li we y pk) (hl : pk.length ≤ 60) : DS I (P + 5) pk 0 (fun _ => 0) (fun _ => 0) := ⟨⟨g.2.2.1.1, hl, g.2.2.1.2.2⟩, ⟨g.2.2.1.2.1, by omega⟩, fun i hi => absurd hi (Nat.not_lt_zero i)⟩
theorem PLK.deck (g : PLK I P H mo W 3 on co li we y pk) (hP : p + 3 ≤ P) (f : DQ p P I J) (d : DS J (P + 5) pk' 0 st cd) : PLK J P H mo W 3 on co li we y pk' := by
  obtain ⟨g1, g2, g3, g4⟩ := g
  have e : ∀ z, P ≤ z → (z < P + 5 ∨ P + 10 ≤ z) → J z = I z := fun z h1 h2 => f z (by omega) (by omega) h2
  unfold PLK
  rw [e P (by omega) (by omega), e (P + 1) (by omega) (by omega), e (P + 2) (by omega) (by omega), e (P + 3) (by omega) (by omega), e (P + 4) (by omega) (by omega), e (P + 10) (by omega) (by omega), e (P + 10 + 2) (by omega) (by omega), e (P + 10 + 3) (by omega) (by omega), e (P + 10 + 4) (by omega) (by omega), e (P + 26) (by omega) (by omega)]
  exact ⟨g1, g2, ⟨d.1.1, d.2.1.1, d.1.2.2⟩, g4⟩
theorem DQ.ad (h : ∀ z, z ≠ p + 1 → J z = I z) : DQ p P I J := fun z _ z2 _ => h z z2
theorem EB.S {r : List Nat} : hd0 isL (32 :: r) ∧ hd0 isD (32 :: r) ∧ hd0 isD (41 :: r) := ⟨hd_sp (by decide), hd_sp (by decide), by intro b t e; cases e; decide⟩
theorem dg2 : dg 2 = [50] := by decide
theorem rep_1 {d n : Nat} (h : DS I d [a, b, c] (0 + 1) st cd) (ht : t = 1 ∨ t = 2) : DS (repI d 1 ((1 + 1) * (t - 1)) 0 I) d (a :: (if t = 1 then [b, c] else [b, c, b, c])) (0 + 1) st cd ∧ DF d I (repI d 1 ((1 + 1) * (t - 1)) 0 I) := by
  rcases ht with rfl | rfl
  · exact ⟨h, DF.rf⟩
  · obtain ⟨l, l1, l2, l3, l4⟩ := DS.rep 2 0 1 I _ h (by simp) (by simp)
    have e : l = [b, c] := by
      rcases l with _ | ⟨x, _ | ⟨y, _ | ⟨z, l⟩⟩⟩
      · simp at l3
      · simp at l3
      · have h0 := l4 0 (by omega)
        have h1 := l4 1 (by omega)
        simp at h0 h1
        rw [h0, h1]
      · simp at l3
    rw [e] at l1
    exact ⟨l1, l2⟩
set_option maxHeartbeats 4000000 in
theorem it_deck1 (h : AB I (p + 1) (tb ";deck " ++ (dg a ++ (tb " repeat " ++ (dg t ++ (tb " (" ++ (dg b ++ ([32] ++ (dg c ++ (41 :: r)))))))))) (hr : EB r) (ha : a < 3) (hb : b < 3) (hc : c < 3) (ht : t = 1 ∨ t = 2) (hP : p + 3 ≤ P) (g : PLK I P H mo W 3 on co li we y []) : ∃ J, PS p P q1 I J ∧ AB J (p + 1) r ∧ PLK J P H mo W 3 on co li we y (a :: (if t = 1 then [b, c] else [b, c, b, c])) := by
  rw [tx_deck, tx_rep, tx_op] at h
  obtain ⟨K0, h1, h2, h3⟩ := it_go (P := P) (q1 := q1) (w := [100, 101, 99, 107]) (r := 32 :: (dg a ++ ([32, 114, 101, 112, 101, 97, 116, 32] ++ (dg t ++ ([32, 40] ++ (dg b ++ ([32] ++ (dg c ++ (41 :: r))))))))) h (lw_of (by decide)) (by decide) (by decide) (hd_sp (by decide))
  obtain ⟨K, m1, m2, m3, m4⟩ := adv_n (s := 1) (v := a) h1.rp (by omega) EB.S.2.1
  have I7 : I P 7 = nI 3 := g.1.2.2.2.2
  have f0 : ∀ z, z ≠ p + 1 → K z = I z := fun z hz => by rw [m4 z hz, h2 z hz]
  have FK : K P 7 = I P 7 := by rw [f0 P (by omega)]
  have dK := (g.ds (by simp)).ad hP f0
  obtain ⟨J0, r0, d0, x0, t0⟩ := dk_num m2 m3 ((FK).trans I7) ha hP dK (by first | omega | (simp only [List.length_append, List.length_cons, List.length_nil]; omega))
  obtain ⟨L0, u0, v0, k0⟩ := adv_w (s := 1) (w := [114, 101, 112, 101, 97, 116]) (r := 32 :: (dg t ++ ([32, 40] ++ (dg b ++ ([32] ++ (dg c ++ (41 :: r))))))) r0 (lw_of (by decide)) (by decide) (by decide) EB.S.1
  have D0 := d0.ad hP k0
  have G0 := ((DQ.ad f0).tr x0).tr (DQ.ad (P := P) k0)
  have F0 : L0 P 7 = I P 7 := by rw [G0 P (by omega) (by omega) (by omega)]
  obtain ⟨J1, r1, d1, x1, t1⟩ := dk_rep (v := t) (by rw [tw_repeat]; exact v0) (by omega) hP D0 (by decide)
  obtain ⟨L1, u1, v1, s1, k1⟩ := adv_n (s := 0) (v := b) r1 (by omega) EB.S.2.1
  have D1 := d1.ad hP k1
  have G1 := ((G0).tr x1).tr (DQ.ad (P := P) k1)
  have F1 : L1 P 7 = I P 7 := by rw [G1 P (by omega) (by omega) (by omega)]
  obtain ⟨J2, r2, d2, x2, t2⟩ := dk_num v1 s1 ((F1).trans I7) hb hP D1 (by first | omega | (simp only [List.length_append, List.length_cons, List.length_nil]; omega))
  obtain ⟨L2, u2, v2, s2, k2⟩ := adv_n (s := 1) (v := c) r2 (by omega) EB.S.2.2
  have D2 := d2.ad hP k2
  have G2 := ((G1).tr x2).tr (DQ.ad (P := P) k2)
  have F2 : L2 P 7 = I P 7 := by rw [G2 P (by omega) (by omega) (by omega)]
  obtain ⟨J3, r3, d3, x3, t3⟩ := dk_num v2 s2 ((F2).trans I7) hc hP D2 (by first | omega | (simp only [List.length_append, List.length_cons, List.length_nil]; omega))
  obtain ⟨L3, u3, v3, k3⟩ := adv_s (s := 0) (b := 41) (k := 5) r3 (Or.inr (Or.inl ⟨rfl, rfl⟩))
  have D3 := d3.ad hP k3
  have G3 := ((G2).tr x3).tr (DQ.ad (P := P) k3)
  have F3 : L3 P 7 = I P 7 := by rw [G3 P (by omega) (by omega) (by omega)]
  have hI : DS (x0_closeI L3 (P + 5) (upN (fun _ => 0) 0 [a].length 0) (([a, b, c] : List Nat).length - upN (fun _ => 0) 0 [a].length 0 - 1) (nI (upN (fun _ => 0) 0 (200 + t) 0))) (P + 5) (a :: (if t = 1 then [b, c] else [b, c, b, c])) (0 + 1) (upN (fun _ => 0) 0 [a].length) (upN (fun _ => 0) 0 (200 + t)) ∧ DF (P + 5) L3 (x0_closeI L3 (P + 5) (upN (fun _ => 0) 0 [a].length 0) (([a, b, c] : List Nat).length - upN (fun _ => 0) 0 [a].length 0 - 1) (nI (upN (fun _ => 0) 0 (200 + t) 0))) := by
    show DS (x0_closeI L3 (P + 5) 1 1 (nI (200 + t))) _ _ _ _ _ ∧ DF _ _ (x0_closeI L3 (P + 5) 1 1 (nI (200 + t)))
    rw [clI_rep (by omega) (by omega) (by decide)]
    exact rep_1 (n := 0) D3 ht
  obtain ⟨J4, r4, d4, x4, t4⟩ := dk_close (w := 2 * t) v3 hP D3 (show 1 < 3 by decide) (show 0 ≤ 1 by decide) (pwc_rep (n := t) (k := 2) (by omega) (by decide)) (by omega) hI
  obtain ⟨L4, u4, v4, k4⟩ := adv_b r4 hr
  have D4 := d4.ad hP k4
  have G4 := ((G3).tr x4).tr (DQ.ad (P := P) k4)
  have F4 : L4 P 7 = I P 7 := by rw [G4 P (by omega) (by omega) (by omega)]
  have hlf : lf = 19994 + 1 + 1 + 1 + 1 + 1 + 1 := rfl
  refine ⟨L4, h3 _ ?_, v4, g.deck hP G4 D4⟩
  rw [ri_deck (by rw [tw_deck]; exact h1)]
  unfold s_X5_readDeck
  rw [show K0 (P + 10) 3 = 0 by rw [h2 _ (by omega)]; exact g.2.2.2.1.2.2.2.1, if_pos (by decide), m1, bd_some, hlf, show (0 : Int32) = nI 0 from rfl, t0 _ 0 (by decide), u0, bd_some, t1 _ _ (by decide), u1, bd_some, t2 _ _ (by decide), u2, bd_some, t3 _ _ (by decide), u3, bd_some, t4 _ _ (by decide), u4, bd_some, dk_end v4 D4 (by decide), bl_inl]
theorem mir_q {d : Nat} (h : DS I d (q ++ [a] ++ [b] ++ [c]) (0 + 1) st cd) (hq : q.length ≤ 20) : DS (mirI d q.length 2 I) d (q ++ [a, b, c, b, a]) (0 + 1) st cd ∧ DF d I (mirI d q.length 2 I) := by
  obtain ⟨m1, m2⟩ := DS.mir 2 q.length I _ h (by simp) (by simp; omega)
  have e : q ++ [a] ++ [b] ++ [c] ++ ((List.range 2).map fun i => (q ++ [a] ++ [b] ++ [c]).getD (q.length + (2 - 1 - i)) 0) = q ++ [a, b, c, b, a] := by
    have e1 : q ++ [a] ++ [b] ++ [c] = q ++ [a, b, c] := by simp
    rw [e1]
    show q ++ [a, b, c] ++ [(q ++ [a, b, c]).getD (q.length + 1) 0, (q ++ [a, b, c]).getD (q.length + 0) 0] = _
    rw [getD_b, getD_b]
    simp
  rw [e] at m1
  exact ⟨m1, m2⟩
theorem rep_q {d n : Nat} (h : DS I d (q ++ [a] ++ [c]) (1 + 1) st cd) (hq : q.length ≤ 30) : DS (repI d (q.length + 1) ((0 + 1) * (2 - 1)) 0 I) d (q ++ [a, c, c]) (1 + 1) st cd ∧ DF d I (repI d (q.length + 1) ((0 + 1) * (2 - 1)) 0 I) := by
  obtain ⟨l, l1, l2, l3, l4⟩ := DS.rep ((0 + 1) * (2 - 1)) 0 (q.length + 1) I _ h (by simp) (by simp; omega)
  have e : q ++ [a] ++ [c] ++ l = q ++ [a, c, c] := by
    rcases l with _ | ⟨x, _ | ⟨y, l⟩⟩
    · simp at l3
    · have h0 := l4 0 (by decide)
      have e1 : q ++ [a] ++ [c] ++ [x] = q ++ [a, c, x] := by simp
      rw [e1, Nat.add_zero, Nat.add_zero, getD_b] at h0
      have : x = c := h0
      rw [e1, this]
    · simp at l3
  rw [e] at l1
  exact ⟨l1, l2⟩
theorem rev_q {d : Nat} (h : DS I d (q ++ [a, c, c]) (0 + 1) st cd) (hq : q.length ≤ 30) : DS (x0_closeI I d q.length 2 102) d (q ++ [c, c, a]) (0 + 1) st cd ∧ DF d I (x0_closeI I d q.length 2 102) := by
  refine DS.rev h (by simp) (by simp) fun i hi => ?_
  simp at hi
  by_cases q1 : i < q.length
  · rw [getD_a q1, if_neg (by omega), if_neg (by omega), getD_a q1]
  · obtain ⟨j, rfl⟩ : ∃ j, i = q.length + j := ⟨i - q.length, by omega⟩
    rw [getD_b, getD_b, getD_b, show (q ++ [a, c, c]).getD q.length 0 = a from getD_b (l := q) (r := [a, c, c]) (j := 0)]
    rcases (show j = 0 ∨ j = 1 ∨ j = 2 by omega) with rfl | rfl | rfl
    · rw [if_pos (by omega)]; rfl
    · rw [if_neg (by omega), if_neg (by omega)]; rfl
    · rw [if_neg (by omega), if_pos rfl]; rfl
set_option maxHeartbeats 4000000 in
theorem it_deck2 (h : AB I (p + 1) (59 :: 100 :: 101 :: 99 :: 107 :: 32 :: 109 :: 105 :: 114 :: 114 :: 111 :: 114 :: 32 :: 40 :: (dg a ++ ([32] ++ (dg b ++ ([32] ++ (dg c ++ (tb ") back (" ++ (dg a ++ (tb " repeat 2 (" ++ (dg c ++ (tb "))" ++ r)))))))))))) (hr : EB r) (ha : a < 3) (hb : b < 3) (hc : c < 3) (hq : q.length ≤ 20) (hP : p + 3 ≤ P) (g : PLK I P H mo W 3 on co li we y q) : ∃ J, PS p P q1 I J ∧ AB J (p + 1) r ∧ PLK J P H mo W 3 on co li we y (q ++ [a, b, c, b, a] ++ [c, c, a]) := by
  rw [tx_back, tx_rep2, tx_end] at h
  obtain ⟨K0, h1, h2, h3⟩ := it_go (P := P) (q1 := q1) (w := [100, 101, 99, 107]) (r := 32 :: ([109, 105, 114, 114, 111, 114] ++ ([32, 40] ++ (dg a ++ ([32] ++ (dg b ++ ([32] ++ (dg c ++ ([41, 32, 98, 97, 99, 107, 32, 40] ++ (dg a ++ ([32, 114, 101, 112, 101, 97, 116, 32, 50, 32, 40] ++ (dg c ++ ([41, 41] ++ r))))))))))))) h (lw_of (by decide)) (by decide) (by decide) (hd_sp (by decide))
  obtain ⟨K, m1, m2, m4⟩ := adv_w (s := 1) (w := [109, 105, 114, 114, 111, 114]) (r := 32 :: 40 :: (dg a ++ ([32] ++ (dg b ++ ([32] ++ (dg c ++ ([41, 32, 98, 97, 99, 107, 32, 40] ++ (dg a ++ ([32, 114, 101, 112, 101, 97, 116, 32, 50, 32, 40] ++ (dg c ++ ([41, 41] ++ r))))))))))) h1.rp (lw_of (by decide)) (by decide) (by decide) EB.S.1
  have I7 : I P 7 = nI 3 := g.1.2.2.2.2
  have f0 : ∀ z, z ≠ p + 1 → K z = I z := fun z hz => by rw [m4 z hz, h2 z hz]
  have FK : K P 7 = I P 7 := by rw [f0 P (by omega)]
  have dK := (g.ds (by omega)).ad hP f0
  obtain ⟨J0, r0, d0, x0, t0⟩ := dk_mir (by rw [tw_mirror]; exact m2) hP dK (by decide)
  obtain ⟨L0, u0, v0, s0, k0⟩ := adv_n (s := 0) (v := a) r0 (by omega) EB.S.2.1
  have D0 := d0.ad hP k0
  have G0 := ((DQ.ad f0).tr x0).tr (DQ.ad (P := P) k0)
  have F0 : L0 P 7 = I P 7 := by rw [G0 P (by omega) (by omega) (by omega)]
  obtain ⟨J1, r1, d1, x1, t1⟩ := dk_num v0 s0 ((F0).trans I7) ha hP D0 (by first | omega | (simp only [List.length_append, List.length_cons, List.length_nil]; omega))
  obtain ⟨L1, u1, v1, s1, k1⟩ := adv_n (s := 1) (v := b) r1 (by omega) EB.S.2.1
  have D1 := d1.ad hP k1
  have G1 := ((G0).tr x1).tr (DQ.ad (P := P) k1)
  have F1 : L1 P 7 = I P 7 := by rw [G1 P (by omega) (by omega) (by omega)]
  obtain ⟨J2, r2, d2, x2, t2⟩ := dk_num v1 s1 ((F1).trans I7) hb hP D1 (by first | omega | (simp only [List.length_append, List.length_cons, List.length_nil]; omega))
  obtain ⟨L2, u2, v2, s2, k2⟩ := adv_n (s := 1) (v := c) r2 (by omega) EB.S.2.2
  have D2 := d2.ad hP k2
  have G2 := ((G1).tr x2).tr (DQ.ad (P := P) k2)
  have F2 : L2 P 7 = I P 7 := by rw [G2 P (by omega) (by omega) (by omega)]
  obtain ⟨J3, r3, d3, x3, t3⟩ := dk_num v2 s2 ((F2).trans I7) hc hP D2 (by first | omega | (simp only [List.length_append, List.length_cons, List.length_nil]; omega))
  obtain ⟨L3, u3, v3, k3⟩ := adv_s (s := 0) (b := 41) (k := 5) r3 (Or.inr (Or.inl ⟨rfl, rfl⟩))
  have D3 := d3.ad hP k3
  have G3 := ((G2).tr x3).tr (DQ.ad (P := P) k3)
  have F3 : L3 P 7 = I P 7 := by rw [G3 P (by omega) (by omega) (by omega)]
  have hI4 : DS (x0_closeI L3 (P + 5) ((upN (fun _ => 0) 0 q.length) 0) ((q ++ [a] ++ [b] ++ [c]).length - (upN (fun _ => 0) 0 q.length) 0 - 1) (nI ((upN (fun _ => 0) 0 101) 0))) (P + 5) (q ++ [a, b, c, b, a]) (0 + 1) ((upN (fun _ => 0) 0 q.length)) ((upN (fun _ => 0) 0 101)) ∧ DF (P + 5) L3 (x0_closeI L3 (P + 5) ((upN (fun _ => 0) 0 q.length) 0) ((q ++ [a] ++ [b] ++ [c]).length - (upN (fun _ => 0) 0 q.length) 0 - 1) (nI ((upN (fun _ => 0) 0 101) 0))) := by
    rw [show upN (fun _ => 0) 0 q.length 0 = q.length from rfl, show upN (fun _ => 0) 0 101 0 = 101 from rfl, show (q ++ [a] ++ [b] ++ [c]).length - q.length - 1 = 2 by simp; try omega]
    show DS (x0_closeI L3 (P + 5) q.length 2 101) _ _ _ _ _ ∧ DF _ _ (x0_closeI L3 (P + 5) q.length 2 101)
    rw [show x0_closeI L3 (P + 5) q.length 2 101 = mirI (P + 5) q.length 2 L3 by unfold x0_closeI; rw [if_pos rfl]]
    exact mir_q D3 hq
  obtain ⟨J4, r4, d4, x4, t4⟩ := dk_close (w := 5) v3 hP D3 (show q.length < (q ++ [a] ++ [b] ++ [c]).length by simp; try omega) (show 0 ≤ q.length from Nat.zero_le _) (by rw [show upN (fun _ => 0) 0 q.length 0 = q.length from rfl, show upN (fun _ => 0) 0 101 0 = 101 from rfl, show (q ++ [a] ++ [b] ++ [c]).length - q.length = 3 by simp; try omega]; decide) (by decide) hI4
  obtain ⟨L4, u4, v4, k4⟩ := adv_w (s := 1) (w := [98, 97, 99, 107]) (r := 32 :: 40 :: (dg a ++ ([32, 114, 101, 112, 101, 97, 116, 32, 50, 32, 40] ++ (dg c ++ ([41, 41] ++ r))))) r4 (lw_of (by decide)) (by decide) (by decide) EB.S.1
  have D4 := d4.ad hP k4
  have G4 := ((G3).tr x4).tr (DQ.ad (P := P) k4)
  have F4 : L4 P 7 = I P 7 := by rw [G4 P (by omega) (by omega) (by omega)]
  obtain ⟨J5, r5, d5, x5, t5⟩ := dk_back (by rw [tw_back]; exact v4) hP D4 (by decide)
  obtain ⟨L5, u5, v5, s5, k5⟩ := adv_n (s := 0) (v := a) r5 (by omega) EB.S.2.1
  have D5 := d5.ad hP k5
  have G5 := ((G4).tr x5).tr (DQ.ad (P := P) k5)
  have F5 : L5 P 7 = I P 7 := by rw [G5 P (by omega) (by omega) (by omega)]
  obtain ⟨J6, r6, d6, x6, t6⟩ := dk_num v5 s5 ((F5).trans I7) ha hP D5 (by first | omega | (simp only [List.length_append, List.length_cons, List.length_nil]; omega))
  obtain ⟨L6, u6, v6, k6⟩ := adv_w (s := 1) (w := [114, 101, 112, 101, 97, 116]) (r := 32 :: (dg 2 ++ ([32, 40] ++ (dg c ++ ([41, 41] ++ r))))) r6 (lw_of (by decide)) (by decide) (by decide) EB.S.1
  have D6 := d6.ad hP k6
  have G6 := ((G5).tr x6).tr (DQ.ad (P := P) k6)
  have F6 : L6 P 7 = I P 7 := by rw [G6 P (by omega) (by omega) (by omega)]
  obtain ⟨J7, r7, d7, x7, t7⟩ := dk_rep (v := 2) (by rw [tw_repeat]; exact v6) (by decide) hP D6 (by decide)
  obtain ⟨L7, u7, v7, s7, k7⟩ := adv_n (s := 0) (v := c) r7 (by omega) EB.S.2.2
  have D7 := d7.ad hP k7
  have G7 := ((G6).tr x7).tr (DQ.ad (P := P) k7)
  have F7 : L7 P 7 = I P 7 := by rw [G7 P (by omega) (by omega) (by omega)]
  obtain ⟨J8, r8, d8, x8, t8⟩ := dk_num v7 s7 ((F7).trans I7) hc hP D7 (by first | omega | (simp only [List.length_append, List.length_cons, List.length_nil]; omega))
  obtain ⟨L8, u8, v8, k8⟩ := adv_s (s := 0) (b := 41) (k := 5) r8 (Or.inr (Or.inl ⟨rfl, rfl⟩))
  have D8 := d8.ad hP k8
  have G8 := ((G7).tr x8).tr (DQ.ad (P := P) k8)
  have F8 : L8 P 7 = I P 7 := by rw [G8 P (by omega) (by omega) (by omega)]
  have hI9 : DS (x0_closeI L8 (P + 5) ((upN (upN (upN (fun _ => 0) 0 q.length) 0 (q ++ [a, b, c, b, a]).length) (0 + 1) (q ++ [a, b, c, b, a] ++ [a]).length) 1) ((q ++ [a, b, c, b, a] ++ [a] ++ [c]).length - (upN (upN (upN (fun _ => 0) 0 q.length) 0 (q ++ [a, b, c, b, a]).length) (0 + 1) (q ++ [a, b, c, b, a] ++ [a]).length) 1 - 1) (nI ((upN (upN (upN (fun _ => 0) 0 101) 0 102) (0 + 1) (200 + 2)) 1))) (P + 5) (q ++ [a, b, c, b, a] ++ [a, c, c]) (1 + 1) ((upN (upN (upN (fun _ => 0) 0 q.length) 0 (q ++ [a, b, c, b, a]).length) (0 + 1) (q ++ [a, b, c, b, a] ++ [a]).length)) ((upN (upN (upN (fun _ => 0) 0 101) 0 102) (0 + 1) (200 + 2))) ∧ DF (P + 5) L8 (x0_closeI L8 (P + 5) ((upN (upN (upN (fun _ => 0) 0 q.length) 0 (q ++ [a, b, c, b, a]).length) (0 + 1) (q ++ [a, b, c, b, a] ++ [a]).length) 1) ((q ++ [a, b, c, b, a] ++ [a] ++ [c]).length - (upN (upN (upN (fun _ => 0) 0 q.length) 0 (q ++ [a, b, c, b, a]).length) (0 + 1) (q ++ [a, b, c, b, a] ++ [a]).length) 1 - 1) (nI ((upN (upN (upN (fun _ => 0) 0 101) 0 102) (0 + 1) (200 + 2)) 1))) := by
    rw [show (upN (upN (upN (fun _ => 0) 0 q.length) 0 (q ++ [a, b, c, b, a]).length) (0 + 1) (q ++ [a, b, c, b, a] ++ [a]).length) 1 = (q ++ [a, b, c, b, a]).length + 1 by show (q ++ [a, b, c, b, a] ++ [a]).length = _; simp, show (upN (upN (upN (fun _ => 0) 0 101) 0 102) (0 + 1) (200 + 2)) 1 = 200 + 2 from rfl, show (q ++ [a, b, c, b, a] ++ [a] ++ [c]).length - ((q ++ [a, b, c, b, a]).length + 1) - 1 = 0 by simp; try omega]
    rw [clI_rep (by omega) (by omega) (by simp; omega)]
    exact rep_q (n := 0) D8 (by simp; omega)
  obtain ⟨J9, r9, d9, x9, t9⟩ := dk_close (w := 2) v8 hP D8 (by show (q ++ [a, b, c, b, a] ++ [a]).length < (q ++ [a, b, c, b, a] ++ [a] ++ [c]).length; simp; try omega) (by show (q ++ [a, b, c, b, a]).length ≤ (q ++ [a, b, c, b, a] ++ [a]).length; simp) (by rw [show (upN (upN (upN (fun _ => 0) 0 101) 0 102) (0 + 1) (200 + 2)) 1 = 200 + 2 from rfl, show (upN (upN (upN (fun _ => 0) 0 q.length) 0 (q ++ [a, b, c, b, a]).length) (0 + 1) (q ++ [a, b, c, b, a] ++ [a]).length) 1 = (q ++ [a, b, c, b, a] ++ [a]).length from rfl, show (q ++ [a, b, c, b, a] ++ [a] ++ [c]).length - (q ++ [a, b, c, b, a] ++ [a]).length = 1 by simp; try omega]; decide) (by decide) hI9
  obtain ⟨L9, u9, v9, k9⟩ := adv_s (s := 0) (b := 41) (k := 5) r9 (Or.inr (Or.inl ⟨rfl, rfl⟩))
  have D9 := d9.ad hP k9
  have G9 := ((G8).tr x9).tr (DQ.ad (P := P) k9)
  have F9 : L9 P 7 = I P 7 := by rw [G9 P (by omega) (by omega) (by omega)]
  have hI10 : DS (x0_closeI L9 (P + 5) ((upN (upN (upN (fun _ => 0) 0 q.length) 0 (q ++ [a, b, c, b, a]).length) (0 + 1) (q ++ [a, b, c, b, a] ++ [a]).length) 0) ((q ++ [a, b, c, b, a] ++ [a, c, c]).length - (upN (upN (upN (fun _ => 0) 0 q.length) 0 (q ++ [a, b, c, b, a]).length) (0 + 1) (q ++ [a, b, c, b, a] ++ [a]).length) 0 - 1) (nI ((upN (upN (upN (fun _ => 0) 0 101) 0 102) (0 + 1) (200 + 2)) 0))) (P + 5) (q ++ [a, b, c, b, a] ++ [c, c, a]) (0 + 1) ((upN (upN (upN (fun _ => 0) 0 q.length) 0 (q ++ [a, b, c, b, a]).length) (0 + 1) (q ++ [a, b, c, b, a] ++ [a]).length)) ((upN (upN (upN (fun _ => 0) 0 101) 0 102) (0 + 1) (200 + 2))) ∧ DF (P + 5) L9 (x0_closeI L9 (P + 5) ((upN (upN (upN (fun _ => 0) 0 q.length) 0 (q ++ [a, b, c, b, a]).length) (0 + 1) (q ++ [a, b, c, b, a] ++ [a]).length) 0) ((q ++ [a, b, c, b, a] ++ [a, c, c]).length - (upN (upN (upN (fun _ => 0) 0 q.length) 0 (q ++ [a, b, c, b, a]).length) (0 + 1) (q ++ [a, b, c, b, a] ++ [a]).length) 0 - 1) (nI ((upN (upN (upN (fun _ => 0) 0 101) 0 102) (0 + 1) (200 + 2)) 0))) := by
    rw [show (upN (upN (upN (fun _ => 0) 0 q.length) 0 (q ++ [a, b, c, b, a]).length) (0 + 1) (q ++ [a, b, c, b, a] ++ [a]).length) 0 = (q ++ [a, b, c, b, a]).length from rfl, show (upN (upN (upN (fun _ => 0) 0 101) 0 102) (0 + 1) (200 + 2)) 0 = 102 from rfl, show (q ++ [a, b, c, b, a] ++ [a, c, c]).length - (q ++ [a, b, c, b, a]).length - 1 = 2 by simp; try omega]
    show DS (x0_closeI L9 (P + 5) (q ++ [a, b, c, b, a]).length 2 102) _ _ _ _ _ ∧ DF _ _ (x0_closeI L9 (P + 5) (q ++ [a, b, c, b, a]).length 2 102)
    exact rev_q D9 (by simp; omega)
  obtain ⟨J10, r10, d10, x10, t10⟩ := dk_close (w := 3) v9 hP D9 (by show (q ++ [a, b, c, b, a]).length < (q ++ [a, b, c, b, a] ++ [a, c, c]).length; simp) (Nat.zero_le _) (by rw [show (upN (upN (upN (fun _ => 0) 0 101) 0 102) (0 + 1) (200 + 2)) 0 = 102 from rfl, show (upN (upN (upN (fun _ => 0) 0 q.length) 0 (q ++ [a, b, c, b, a]).length) (0 + 1) (q ++ [a, b, c, b, a] ++ [a]).length) 0 = (q ++ [a, b, c, b, a]).length from rfl, show (q ++ [a, b, c, b, a] ++ [a, c, c]).length - (q ++ [a, b, c, b, a]).length = 3 by simp; try omega]; decide) (by decide) hI10
  obtain ⟨L10, u10, v10, k10⟩ := adv_b r10 hr
  have D10 := d10.ad hP k10
  have G10 := ((G9).tr x10).tr (DQ.ad (P := P) k10)
  have F10 : L10 P 7 = I P 7 := by rw [G10 P (by omega) (by omega) (by omega)]
  have hlf : lf = 19988 + 1 + 1 + 1 + 1 + 1 + 1 + 1 + 1 + 1 + 1 + 1 + 1 := rfl
  refine ⟨L10, h3 _ ?_, v10, g.deck hP G10 D10⟩
  rw [ri_deck (by rw [tw_deck]; exact h1)]
  unfold s_X5_readDeck
  rw [show K0 (P + 10) 3 = 0 by rw [h2 _ (by omega)]; exact g.2.2.2.1.2.2.2.1, if_pos (by decide), m1, bd_some, hlf, show (0 : Int32) = nI 0 from rfl, t0 _ 0 (by decide), u0, bd_some, t1 _ _ (by decide), u1, bd_some, t2 _ _ (by decide), u2, bd_some, t3 _ _ (by decide), u3, bd_some, t4 _ _ (by decide), u4, bd_some, t5 _ _ (by decide), u5, bd_some, t6 _ _ (by decide), u6, bd_some, t7 _ _ (by decide), u7, bd_some, t8 _ _ (by decide), u8, bd_some, t9 _ _ (by decide), u9, bd_some, t10 _ _ (by decide), u10, bd_some, dk_end v10 D10 (by decide), bl_inl]
end DK3
