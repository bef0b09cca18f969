/-! a setup's head; turns in a row -/
def PSn (p P : Nat) (q1 : Int32) (n : Nat) (I J : JI) : Prop := ∀ f i, i + n ≤ 500 → s_X5_parse_L44 p P q1 (f + n) (nI i) I = s_X5_parse_L44 p P q1 f (nI (i + n)) J
theorem flI_ne {I : JI} {a b N : Nat} {v : Int32} (h : b ≠ a) : flI I a N v b = I b := by funext j; unfold flI; rw [if_neg h]
theorem flI_in {I : JI} {a N j : Nat} {v : Int32} (h : j < N) : flI I a N v a j = v := by unfold flI; rw [if_pos rfl, if_pos h]
section HED
variable {I J K : JI} {p P H mo W nc v n m : Nat} {on co li we y : Nat → Nat} {pk r w t : List Nat} {q1 : Int32} {c h x k : Nat}
theorem PS.nn (h : PS p P q1 I J) : PSn p P q1 1 I J := fun f i hi => h f i (by omega)
theorem PSn.tr (h : PSn p P q1 n I J) (g : PSn p P q1 m J K) : PSn p P q1 (n + m) I K := fun f i hi => by
  rw [show f + (n + m) = (f + m) + n by omega, h _ i (by omega), g _ _ (by omega), Nat.add_assoc]
theorem PSn.end (h : PSn p P q1 n I J) (g : AB J (p + 1) []) (hn : n ≤ 499) : s_X5_parse_L44 p P q1 lf 0 I = some (.inr (nI n, J)) := by
  have e : lf = (lf - n - 1 + 1) + n := by unfold lf; omega
  rw [e, show (0 : Int32) = nI 0 from rfl, h _ 0 (by omega), Nat.zero_add]
  rcases g with ⟨-, g⟩ | ⟨_, e, -⟩
  · rw [s_X5_parse_L44, if_neg (show ¬ (500 : Int32) ≤ nI n from nI_ge (b := 500) (by omega) (by decide)), g.2.1, if_pos (show nI 0 = 0 from rfl)]
  · cases e
theorem clr_f {z : Nat} (h : z < P) : x3_clear I P z = I z := by
  unfold x3_clear x7_clear x0_clear
  rw [flI_ne (by omega), flI_ne (by omega)]
  simp only [stI_ne (show z ≠ P + 10 by omega), stI_ne (show z ≠ P + 5 by omega), stI_ne (show z ≠ P by omega)]
theorem clr_PLK (h26 : I (P + 26) 1 = 0) : PLK (x3_clear I P) P 0 24 0 0 on co li we (fun _ => 0) [] := by
  have s1 : ∀ M : JI, ∀ z, z ≠ P → stI (stI (stI (stI (stI (stI M P 0 0) P 1 0) P 2 0) P 3 24) P 4 0) P 7 0 z = M z := fun M z hz => by
    simp only [stI_ne hz]
  obtain ⟨A, hA⟩ : ∃ A, A = stI (stI (stI (stI (stI (stI I P 0 0) P 1 0) P 2 0) P 3 24) P 4 0) P 7 0 := ⟨_, rfl⟩
  obtain ⟨B, hB⟩ : ∃ B, B = x0_clear A (P + 5) := ⟨_, rfl⟩
  have eq : x3_clear I P = x7_clear B (P + 10) := by rw [hB, hA]; rfl
  have b0 : ∀ z, z ≠ P + 5 → B z = A z := fun z hz => by rw [hB]; unfold x0_clear; simp only [stI_ne hz]
  have c0 : ∀ z, z < P + 10 → x7_clear B (P + 10) z = B z := fun z hz => by
    unfold x7_clear
    rw [flI_ne (by omega), flI_ne (by omega)]
    simp only [stI_ne (show z ≠ P + 10 by omega)]
  have c1 : ∀ j, j < 6 → x7_clear B (P + 10) (P + 10) j = 0 := fun j hj => by
    unfold x7_clear
    rw [flI_ne (by omega), flI_ne (by omega)]
    rcases (show j = 0 ∨ j = 1 ∨ j = 2 ∨ j = 3 ∨ j = 4 ∨ j = 5 by omega) with rfl | rfl | rfl | rfl | rfl | rfl <;> simp [stI]
  rw [eq]
  unfold PLK
  rw [c0 P (by omega), c0 (P + 5) (by omega), b0 P (by omega), c1 0 (by decide), c1 1 (by decide), c1 2 (by decide), c1 3 (by decide), c1 4 (by decide), c1 5 (by decide)]
  have a5 : B (P + 5) 3 = 0 ∧ B (P + 5) 7 = 0 := by rw [hB]; unfold x0_clear; simp [stI]
  have e26 : x7_clear B (P + 10) (P + 26) = I (P + 26) := by
    unfold x7_clear
    rw [flI_ne (by omega), flI_ne (by omega)]
    simp only [stI_ne (show P + 26 ≠ P + 10 by omega)]
    rw [b0 _ (by omega), hA, s1 _ _ (by omega)]
  rw [e26]
  refine ⟨⟨by rw [hA]; simp [stI]; rfl, ⟨0, by omega, by rw [hA]; simp [stI]; rfl⟩, by rw [hA]; simp [stI]; rfl, by rw [hA]; simp [stI]; rfl, by rw [hA]; simp [stI]; rfl⟩, ⟨fun w hw => absurd hw (Nat.not_lt_zero w), fun w hw => absurd hw (Nat.not_lt_zero w)⟩, ⟨a5.1, a5.2, fun w hw => absurd hw (Nat.not_lt_zero w)⟩, ⟨rfl, rfl, rfl, rfl, rfl, rfl⟩, fun k hk => ?_, h26⟩
  unfold x7_clear
  exact flI_in hk
theorem PLK.hd (g : PLK I P H mo W nc on co li we y pk) : PLK (stI I P 0 (nI v)) P v mo W nc on co li we y pk := by
  obtain ⟨⟨a1, a2, a3, a4, a5⟩, g⟩ := g
  have e : ∀ z, P < z → stI I P 0 (nI v) z = I z := fun z hz => stI_ne (by omega)
  unfold PLK
  rw [e (P + 1) (by omega), e (P + 2) (by omega), e (P + 3) (by omega), e (P + 4) (by omega), e (P + 5) (by omega), e (P + 7) (by omega), e (P + 10) (by omega), e (P + 10 + 2) (by omega), e (P + 10 + 3) (by omega), e (P + 10 + 4) (by omega), e (P + 26) (by omega), stI_aj (show 2 ≠ 0 by decide), stI_aj (show 3 ≠ 0 by decide), stI_aj (show 4 ≠ 0 by decide), stI_aj (show 7 ≠ 0 by decide), stI_at]
  exact ⟨⟨rfl, a2, a3, a4, a5⟩, g⟩
theorem PLK.lim {x : Int32} (g : PLK I P H mo W nc on co li we y pk) : PLK (stI I P 1 x) P H mo W nc on co li we y pk := by
  have e : ∀ z, P < z → stI I P 1 x z = I z := fun z hz => stI_ne (by omega)
  unfold PLK
  rw [e (P + 1) (by omega), e (P + 2) (by omega), e (P + 3) (by omega), e (P + 4) (by omega), e (P + 5) (by omega), e (P + 7) (by omega), e (P + 10) (by omega), e (P + 10 + 2) (by omega), e (P + 10 + 3) (by omega), e (P + 10 + 4) (by omega), e (P + 26) (by omega), stI_aj (show 0 ≠ 1 by decide), stI_aj (show 2 ≠ 1 by decide), stI_aj (show 3 ≠ 1 by decide), stI_aj (show 4 ≠ 1 by decide), stI_aj (show 7 ≠ 1 by decide)]
  exact g
theorem hd_ok (h26 : I (P + 26) 1 = 0) (hb : ∀ j, j < t.length → I (p + 1 + 1) j = nI (t.getD j 0)) (ht : t.length ≤ 500) (e : t = tb "loom " ++ (dg H ++ ([32] ++ (dg v ++ r)))) (hr : EB r) (hH : 2 ≤ H ∧ H ≤ 8) (hv : 1 ≤ v ∧ v < 100) (hP : p + 3 ≤ P) : ∃ K, s_X5_parse I p P (nI t.length) = bl (s_X5_parse_L44 p P (nI t.length) lf 0 K) (fun (y18, I19) => if 0 < (I19 P 4) then (some (true, I19)) else (bd2 (s_X5_fail I19 p P 4) fun z23 I22 => if z23 = true then (some (true, I22)) else (some (false, I22)))) ∧ AB K (p + 1) r ∧ PLK K P H 24 0 0 on co li we (fun _ => 0) [] := by
  obtain ⟨A, hA⟩ : ∃ A, A = x3_clear (stI (stI I p 2 0) p 3 (-1)) P := ⟨_, rfl⟩
  have gA : PLK A P 0 24 0 0 on co li we (fun _ => 0) [] := by rw [hA]; exact clr_PLK (by rw [stI_ne (by omega), stI_ne (by omega)]; exact h26)
  have bA : A (p + 1 + 1) = I (p + 1 + 1) := by rw [hA, clr_f (by omega), stI_ne (by omega), stI_ne (by omega)]
  obtain ⟨B, hB⟩ : ∃ B, B = stI (stI (stI A (p + 1) 1 0) (p + 1) 2 (nI t.length)) (p + 1) 3 0 := ⟨_, rfl⟩
  have fB : ∀ z, z ≠ p + 1 → B z = A z := fun z hz => by rw [hB, stI_ne hz, stI_ne hz, stI_ne hz]
  have rB : RP B (p + 1) t := by
    refine ⟨0, by omega, ?_, ?_, fun j hj => ?_⟩
    · rw [hB, stI_aj (by decide), stI_at, Nat.zero_add]
    · rw [hB, stI_at]; rfl
    · rw [fB _ (by omega), bA, Nat.zero_add]; exact hb j hj
  rw [e, tx_loom] at rB
  obtain ⟨K, k1, k2, k3⟩ := adv_w (s := 0) (w := [108, 111, 111, 109]) (r := 32 :: (dg H ++ ([32] ++ (dg v ++ r)))) rB (lw_of (by decide)) (by decide) (by decide) (hd_sp (by decide))
  obtain ⟨K1, a1, a2, a3, a4⟩ := adv_n (s := 1) k2.rp (by omega) (show hd0 isD (32 :: (dg v ++ r)) from hd_sp (by decide))
  have e1 := see_n (P := P) (x1 := 2) (x2 := 8) a2 a3 (nI_nlt (b := 2) hH.1 (by omega)) (nI_le (b := 8) hH.2 (by decide))
  obtain ⟨K2, b1, b2, b3, b4⟩ := adv_n (s := 1) (a2.st (j := 4) (x := nI H)).rp (by omega) hr.D
  have c4 : K2 p 4 = nI H := by rw [b4 p (by omega)]; exact stI_at
  have b5 : RD (stI K2 P 0 (nI H)) (p + 1) 2 (dg v) r := b2.fr (stI_ne (by omega)) (stI_ne (by omega))
  have b6 : stI K2 P 0 (nI H) (p + 1) 6 = nI v := by rw [stI_ne (by omega)]; exact b3
  have e2 := see_n (P := P) (x1 := 1) (x2 := 200) b5 b6 (nI_nlt (b := 1) hv.1 (by omega)) (nI_le (b := 200) (by omega) (by decide))
  obtain ⟨K3, d1, d2, d3⟩ := adv_b (b5.st (j := 4) (x := nI v)).rp hr
  have gK : PLK (stI K2 P 0 (nI H)) P H 24 0 0 on co li we (fun _ => 0) [] := PLK.hd (gA.fr fun z hz => by rw [b4 z (by omega), stI_ne (by omega), a4 z (by omega), k3 z (by omega), fB z (by omega)])
  refine ⟨stI K3 P 1 (K3 p 4), ?_, d2.fr (stI_ne (by omega)) (stI_ne (by omega)), PLK.lim (gK.fr fun z hz => by rw [d3 z (by omega), stI_ne (by omega)])⟩
  unfold s_X5_parse s_X2_startReading
  simp only [lx_s]
  rw [← hA, show mnF (nI t.length) (Int32.ofNat 500) = nI t.length from mn_l (b := 500) ht (by decide), ← hB, k1, bd_some, bd_some]
  unfold s_X5_readHeader s_X5_takeNumber
  rw [isW k2 (fun x hx => (lw_of (by decide) x hx).2) aw_loom, bd_some, if_pos (by rw [tw_loom]; decide), a1, bd_some, e1, bd2_some, if_pos rfl, b1, bd_some, bd2_some, if_pos rfl, lx_s, c4, e2, bd2_some, if_pos rfl, d1, bd_some, bd2_some, if_pos rfl, lx_s, bd2_some, if_pos rfl]
end HED
