/-! parseSetup, both ways -/
noncomputable def s_X8_parseSetup (I : JI) (c L P : Nat) (x : Int32) : Option ((Int32 ⊕ String) × JI) :=
  if x < 0 then some (.inr eIX, I) else if x ≤ I (c + 2) 1 then (bd2 (s_X5_parse I (c + 1) P x) fun z I1 => if z = true then some (.inl (I1 (P + 5) 3), stI (stI (s_X1_forgetAll (stI I1 c 6 1) (c + 30)) (c + 88) 1 0) (c + 96) 1 0) else some (.inr eIA, I1)) else some (.inr eIX, I)
section PSET
variable {I J I' J' : JI} {c L P m N n : Nat}
theorem clr7 (K : JI) (s : Nat) : (x7_clear K s s 0 = 0 ∧ x7_clear K s s 1 = 0 ∧ x7_clear K s s 2 = 0 ∧ x7_clear K s s 3 = 0 ∧ x7_clear K s s 4 = 0 ∧ x7_clear K s s 5 = 0) ∧ (∀ j, j < 8 → x7_clear K s (s + 1) j = 0) ∧ ∀ j, j < 6 → x7_clear K s (s + 2) j = 0 := by
  unfold x7_clear
  refine ⟨?_, fun j hj => ?_, fun j hj => ?_⟩
  · rw [fr_flI (by omega), fr_flI (by omega)]
    refine ⟨?_, ?_, ?_, ?_, ?_, stI_at⟩
    · rw [stI_aj (by decide), stI_aj (by decide), stI_aj (by decide), stI_aj (by decide), stI_aj (by decide), stI_at]
    · rw [stI_aj (by decide), stI_aj (by decide), stI_aj (by decide), stI_aj (by decide), stI_at]
    · rw [stI_aj (by decide), stI_aj (by decide), stI_aj (by decide), stI_at]
    · rw [stI_aj (by decide), stI_aj (by decide), stI_at]
    · rw [stI_aj (by decide), stI_at]
  · rw [fr_flI (by omega)]
    unfold flI
    rw [if_pos rfl, if_pos hj]
  · unfold flI
    rw [if_pos rfl, if_pos hj]
theorem clr0 (K : JI) (d : Nat) : x0_clear K d d 1 = 0 ∧ x0_clear K d d 3 = 0 ∧ x0_clear K d d 4 = 0 ∧ x0_clear K d d 7 = 0 := by
  unfold x0_clear
  refine ⟨?_, ?_, ?_, stI_at⟩
  · rw [stI_aj (by decide), stI_aj (by decide), stI_aj (by decide), stI_at]
  · rw [stI_aj (by decide), stI_aj (by decide), stI_at]
  · rw [stI_aj (by decide), stI_at]
theorem clr_facts (h : ∀ j, 2 ≤ j → j < 2030 → J (m + 1) j = if j = 12 then 24 else 0) : BLK (x3_clear I P) J P m := by
  unfold x3_clear
  obtain ⟨a1, a2, a3⟩ := clr7 (x0_clear (stI (stI (stI (stI (stI (stI I P 0 0) P 1 0) P 2 0) P 3 24) P 4 0) P 7 0) (P + 5)) (P + 10)
  refine ⟨?_, ?_, a1, a2, a3, h⟩
  · rw [fr_x7_clear (by omega), fr_x0_clear (by omega)]
    refine ⟨?_, ?_, ?_, stI_at⟩
    · rw [stI_aj (by decide), stI_aj (by decide), stI_aj (by decide), stI_at]
    · rw [stI_aj (by decide), stI_aj (by decide), stI_at]
    · rw [stI_aj (by decide), stI_at]
  · rw [fr_x7_clear (by omega)]
    exact clr0 _ _
/-- the memory that a setup leaves alone -/
theorem RR_fail (h : RR I J c L m) (hLP : (L = c + 4 ∧ P = c + 104) ∨ (L = c + 104 ∧ P = c + 4)) (fI : ∀ z, (z < c + 1 ∨ c + 1 + 2 ≤ z) → (z < P ∨ P + 24 ≤ z) → I' z = I z) (s0 : I' (c + 2) 1 = 0) (m9 : J' m 9 = 0) (e10 : J' m 10 = I' (c + 1) 2) (e11 : J' m 11 = I' (c + 1) 3) (fm : ∀ k, k = 6 ∨ k = 7 ∨ k = 22 → J' m k = J m k) (f1 : ∀ k, k < 2030 → J' (m + 1) k = J (m + 1) k) (fJ : ∀ z, z = m + 3 ∨ z = m + 4 ∨ z = m + 5 ∨ z = m + 10 → J' z = J z) : RR I' J' c L m := by
  obtain ⟨-, ⟨n', n1, n2, n3, n4⟩, -, hr⟩ := h
  have f5 : ∀ z, ¬ (c + 1 ≤ z ∧ z < c + 3) → ¬ (P ≤ z ∧ z < P + 24) → I' z = I z := fun z h1 h2 => fI z (by omega) (by omega)
  refine ⟨⟨0, by omega, s0, m9, fun k hk => absurd hk (Nat.not_lt_zero k)⟩, ⟨n', n1, by rw [f5 _ (by omega) (by omega)]; exact n2, by rw [fm 22 (by omega)]; exact n3, fun k hk => ?_⟩, ⟨e10, e11⟩, ?_⟩
  · rw [f5 _ (by omega) (by omega), fJ _ (by omega)]; exact n4 k hk
  · rcases hr with hr | ⟨H, W, C, P', R, hl⟩
    · refine Or.inl ?_
      unfold RNl at *
      rw [f5 c (by omega) (by omega), f5 (c + 30) (by omega) (by omega), f5 (c + 88) (by omega) (by omega), f5 (c + 96) (by omega) (by omega), fm 6 (by omega), fm 7 (by omega), fJ (m + 5) (by omega)]
      exact hr
    · refine Or.inr ⟨H, W, C, P', R, ?_⟩
      obtain ⟨⟨l1, l2⟩, hk, hW, hp, ⟨u, x, u8, x8, hu, hx, hm7, hb⟩, l5, l6⟩ := hl
      refine ⟨⟨by rw [f5 _ (by omega) (by omega)]; exact l1, by rw [fm 6 (by omega)]; exact l2⟩, ?_, hW, ?_, ⟨u, x, u8, x8, by rw [f5 _ (by omega) (by omega)]; exact hu, by rw [f5 _ (by omega) (by omega)]; exact hx, by rw [fm 7 (by omega)]; exact hm7, fun i hi => ?_⟩, ?_, ?_⟩
      · exact KR_f (KR_dep hk (fun z z1 z2 => f5 z (by omega) (by omega)) (fun z z1 z2 => f5 z (by omega) (by omega))) f1
      · exact RPart_f (RPart_dep hp (f5 _ (by omega) (by omega)) (f5 _ (by omega) (by omega))) f1
      · obtain ⟨p3, R3, p4⟩ := hb i hi
        have hr2 : c + 32 ≤ ringS c x u i ∧ ringS c x u i + 7 ≤ c + 88 := by
          unfold ringS
          have := Nat.mod_lt (x + 8 - u + i) (show 0 < 8 by omega)
          omega
        rw [fJ (m + 3) (by omega)]
        exact ⟨RPart_dep p3 (f5 _ (by omega) (by omega)) (f5 _ (by omega) (by omega)), R3, KR_dep p4 (fun z z1 z2 => f5 z (by omega) (by omega)) (fun z z1 z2 => f5 z (by omega) (by omega))⟩
      · obtain ⟨b, b1, b2, b3⟩ := l5
        refine ⟨b, by rw [f5 _ (by omega) (by omega)]; exact b1, by rw [fJ _ (by omega)]; exact b2, fun hb => ?_⟩
        obtain ⟨p3, R3, p4⟩ := b3 hb
        rw [fJ (m + 4) (by omega)]
        exact ⟨RPart_dep p3 (f5 _ (by omega) (by omega)) (f5 _ (by omega) (by omega)), R3, KR_dep p4 (fun z z1 z2 => f5 z (by omega) (by omega)) (fun z z1 z2 => f5 z (by omega) (by omega))⟩
      · obtain ⟨b, b1, b2, b3⟩ := l6
        refine ⟨b, by rw [f5 _ (by omega) (by omega)]; exact b1, by rw [fJ _ (by omega)]; exact b2, fun hb => ?_⟩
        obtain ⟨p3, R3, p4⟩ := b3 hb
        rw [fJ (m + 4) (by omega)]
        exact ⟨RPart_dep p3 (f5 _ (by omega) (by omega)) (f5 _ (by omega) (by omega)), R3, KR_dep p4 (fun z z1 z2 => f5 z (by omega) (by omega)) (fun z z1 z2 => f5 z (by omega) (by omega))⟩
theorem RR_next (h : RR I J c L m) : ∃ x, x < 8 ∧ I (c + 30) 1 = nI x := by
  obtain ⟨-, -, -, hr | ⟨H, W, C, P', R, hl⟩⟩ := h
  · exact hr.2.2.1
  · obtain ⟨-, -, -, -, ⟨u, x, u8, x8, hu, hx, -⟩, -⟩ := hl
    exact ⟨x, x8, hx⟩
/-- the loom that was read takes its place -/
theorem RR_good {H W C K R y x : Nat} (h : RR I J c L m) (hLP : (L = c + 4 ∧ P = c + 104) ∨ (L = c + 104 ∧ P = c + 4)) {I1 J1 : JI} (g : GS I1 J1 (c + 1) P m N 0 y x H W C K R) (hW : 0 < W) (fI : ∀ z, (z < c + 1 ∨ c + 1 + 2 ≤ z) → (z < P ∨ P + 24 ≤ z) → I1 z = I z) (i6 : I' c 6 = 1) (i1 : ∀ z, z ≠ c → z ≠ c + 30 → z ≠ c + 88 → z ≠ c + 96 → I' z = I1 z) (i30 : I' (c + 30) 2 = 0 ∧ I' (c + 30) 1 = I1 (c + 30) 1) (i88 : I' (c + 88) 1 = 0) (i96 : I' (c + 96) 1 = 0) (j6 : J' m 6 = 1) (j7 : J' m 7 = 0) (jm : ∀ k, k ≠ 6 → k ≠ 7 → J' m k = J1 m k) (m9 : J1 m 9 = 0) (m22 : J1 m 22 = J m 22) (m10 : J1 (m + 10) = J (m + 10)) (j5 : J' (m + 5) 0 = 0 ∧ J' (m + 5) 1 = 0) (jz : ∀ z, z ≠ m → z ≠ m + 5 → J' z = J1 z) : RR I' J' c P m := by
  obtain ⟨x8, hx8, hx⟩ := RR_next h
  obtain ⟨-, ⟨n', n1, n2, n3, n4⟩, -, -⟩ := h
  obtain ⟨-, c1, c2, c3, c4, c5⟩ := g.1
  refine ⟨⟨0, by omega, ?_, ?_, fun k hk => absurd hk (Nat.not_lt_zero k)⟩, ⟨n', n1, ?_, ?_, fun k hk => ?_⟩, ⟨?_, ?_⟩, Or.inr ⟨H, W, C, K, R, ⟨i6, j6⟩, ?_, hW, ?_, ⟨0, x8, by omega, hx8, i30.1, ?_, j7, fun i hi => absurd hi (Nat.not_lt_zero i)⟩, ⟨false, i88, j5.1, fun q => by cases q⟩, ⟨false, i96, j5.2, fun q => by cases q⟩⟩⟩
  · rw [i1 _ (by omega) (by omega) (by omega) (by omega)]; exact c5
  · rw [jm 9 (by decide) (by decide)]; exact m9
  · rw [i1 _ (by omega) (by omega) (by omega) (by omega), fI _ (by omega) (by omega)]; exact n2
  · rw [jm 22 (by decide) (by decide), m22]; exact n3
  · rw [i1 _ (by omega) (by omega) (by omega) (by omega), fI _ (by omega) (by omega), jz _ (by omega) (by omega), m10]; exact n4 k hk
  · rw [jm 10 (by decide) (by decide), i1 _ (by omega) (by omega) (by omega) (by omega), c1, c3]
  · rw [jm 11 (by decide) (by decide), i1 _ (by omega) (by omega) (by omega) (by omega), c2, c4]
  · rw [jz (m + 1) (by omega) (by omega)]
    exact KR_dep g.2.1 (fun z z1 z2 => i1 z (by omega) (by omega) (by omega) (by omega)) (fun z z1 z2 => i1 z (by omega) (by omega) (by omega) (by omega))
  · rw [jz (m + 1) (by omega) (by omega)]
    exact RPart_dep g.2.1.part (i1 _ (by omega) (by omega) (by omega) (by omega)) (i1 _ (by omega) (by omega) (by omega) (by omega))
  · rw [i30.2, fI _ (by omega) (by omega)]; exact hx
theorem l_zero {q0 : Int32} : ∃ J', s_X9_parseSetup_L51 m q0 lf 0 J = some (nI 2030, J') ∧ (∀ q, q ≠ m + 1 → J' q = J q) ∧ ∀ j, j < 2030 → J' (m + 1) j = 0 := by
  have hl := loopM (fun f J i => s_X9_parseSetup_L51 m q0 f i J) (fun t J' => (∀ q, q ≠ m + 1 → J' q = J q) ∧ ∀ j, j < t → J' (m + 1) j = 0) (fun J => (nI 2030, J)) 0 2030 (fun f J' hJ => ?_) (fun f j J' _ hlt hJ => ?_) lf 0 J (Nat.le_refl 0) (Nat.zero_le _) (by unfold lf; omega) ⟨fun _ _ => rfl, fun j hj => absurd hj (Nat.not_lt_zero j)⟩
  · obtain ⟨J', ⟨h1, h2⟩, h6⟩ := hl
    exact ⟨J', h6, h1, h2⟩
  · show s_X9_parseSetup_L51 m q0 (f + 1) (nI 2030) J' = _
    rw [s_X9_parseSetup_L51, if_pos (show (2030 : Int32) ≤ nI 2030 from by decide)]
  · obtain ⟨h1, h2⟩ := hJ
    show ∃ J'', _ ∧ s_X9_parseSetup_L51 m q0 (f + 1) (nI j) J' = _
    rw [s_X9_parseSetup_L51, if_neg (show ¬ (2030 : Int32) ≤ nI j from nI_ge hlt (by decide)), gd_in hlt (by omega), cl_nI (by omega), lx_s, nI_1]
    refine ⟨_, ⟨fun q q1 => ?_, fun i hi => ?_⟩, rfl⟩
    · rw [stI_ne q1]; exact h1 q q1
    · by_cases e : i = j
      · subst e; rw [stI_at]
      · rw [stI_aj e]; exact h2 i (by omega)
end PSET
