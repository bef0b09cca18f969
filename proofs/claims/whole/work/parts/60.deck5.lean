/-! the item deck -/
section DKI
variable {I J I0 I' J' : JI} {g g' g0 : Nat → Int32} {p P d m N k y x B H W C K R l L s : Nat} {z : Nat → Nat}
theorem KR_deck (h : KR I0 L s g0 H W C K 0) (hs : L + 10 ≤ s) {K' : Nat} (hK : K' ≤ 100) (ez : ∀ q, ¬ (L + 5 ≤ q ∧ q < L + 10) → (L ≤ q ∧ q < L + 10) ∨ (s ≤ q ∧ q < s + 7) → I' q = I0 q) (d3 : I' (L + 5) 3 = nI K') (g4 : g 4 = nI K') (g7 : g 7 = I' (L + 5) 4) (pk : ∀ j, j < K' → ∃ c, c < C ∧ I' (L + 5 + 2) j = nI c ∧ g (164 + j) = nI c) (pt : RPart I' (L + 5) g) (eu : ∀ j, j < 1764 → j ≠ 4 → j ≠ 6 → j ≠ 7 → ¬ (164 ≤ j ∧ j < 264) → g j = g0 j) : KR I' L s g H W C K' 0 := by
  obtain ⟨⟨l0, l4, l7, l3, lt, lq, l5, l6, l8, l9⟩, ⟨⟨f0, f1, f2, f3, f4, f7, f11, f12⟩, fw, fc, fp, fr⟩, ⟨v1, v2, v3, v4, v5, v6, -⟩, b1, b2, b3, b4, b5, b6, b7, -⟩ := h
  have hC := l7.2
  have hW := l4.2
  have hH := l0.2
  have zL : ∀ j, j < 5 → I' (L + j) = I0 (L + j) := fun j hj => ez _ (by omega) (Or.inl (by omega))
  have zL0 : I' L = I0 L := zL 0 (by omega)
  have zs : ∀ j, j < 7 → I' (s + j) = I0 (s + j) := fun j hj => ez _ (by omega) (Or.inr (by omega))
  have zs0 : I' s = I0 s := zs 0 (by omega)
  refine ⟨⟨?_, ?_, ?_, ⟨d3, hK⟩, ?_, ?_, ?_, ?_, ?_, ?_⟩, ⟨⟨?_, ?_, ?_, ?_, ?_, g7, ?_, ?_⟩, ?_, ?_, ?_, pt⟩, ⟨?_, ?_, ?_, ⟨?_, by omega, fun q => absurd q (Nat.lt_irrefl 0)⟩, ?_, ?_, fun r hr => absurd hr (Nat.not_lt_zero r)⟩, ?_, ?_, ?_, ?_, ?_, ?_, ?_, fun r hr => absurd hr (Nat.not_lt_zero r)⟩
  · rw [zL0]; exact l0
  · rw [zL0]; exact l4
  · rw [zL0]; exact l7
  · rw [zL0]; exact lt
  · rw [zL0]; exact lq
  · rw [zL 1 (by omega)]; exact l5
  · rw [zL 2 (by omega)]; exact l6
  · rw [zL 3 (by omega), zL 4 (by omega)]; exact l8
  · intro j hj
    obtain ⟨c, c1, c2, -⟩ := pk j hj
    exact ⟨c, c1, c2⟩
  · rw [eu 0 (by omega) (by omega) (by omega) (by omega) (by omega), zL0]; exact f0
  · rw [eu 1 (by omega) (by omega) (by omega) (by omega) (by omega), zL0]; exact f1
  · rw [eu 2 (by omega) (by omega) (by omega) (by omega) (by omega), zL0]; exact f2
  · rw [eu 3 (by omega) (by omega) (by omega) (by omega) (by omega), zL0]; exact f3
  · rw [g4, d3]
  · rw [eu 11 (by omega) (by omega) (by omega) (by omega) (by omega), zL0]; exact f11
  · rw [eu 12 (by omega) (by omega) (by omega) (by omega) (by omega), zL0]; exact f12
  · intro w hw
    rw [eu _ (by omega) (by omega) (by omega) (by omega) (by omega), eu _ (by omega) (by omega) (by omega) (by omega) (by omega), zL 1 (by omega), zL 2 (by omega)]; exact fw w hw
  · intro w hw
    rw [eu _ (by omega) (by omega) (by omega) (by omega) (by omega), eu _ (by omega) (by omega) (by omega) (by omega) (by omega), zL 3 (by omega), zL 4 (by omega)]; exact fc w hw
  · intro j hj
    obtain ⟨c, c1, c2, c3⟩ := pk j hj
    rw [c2, c3]
  · rw [zs0]; exact v1
  · rw [zs0]; exact v2
  · rw [zs0]; exact v3
  · rw [zs0]; exact v4.1
  · rw [zs0]; exact v5
  · rw [zs 3 (by omega), zs 4 (by omega)]; exact v6
  · rw [eu 5 (by omega) (by omega) (by omega) (by omega) (by omega), zs0]; exact b1
  · rw [eu 10 (by omega) (by omega) (by omega) (by omega) (by omega), zs0]; exact b2
  · rw [eu 8 (by omega) (by omega) (by omega) (by omega) (by omega), eu 9 (by omega) (by omega) (by omega) (by omega) (by omega), eu 13 (by omega) (by omega) (by omega) (by omega) (by omega), zs0]; exact b3
  · intro w hw
    rw [eu _ (by omega) (by omega) (by omega) (by omega) (by omega), eu _ (by omega) (by omega) (by omega) (by omega) (by omega), eu _ (by omega) (by omega) (by omega) (by omega) (by omega), zs0, zs 1 (by omega)]; exact b4 w hw
  · intro w hw
    rw [eu _ (by omega) (by omega) (by omega) (by omega) (by omega), zs0]; exact b5 w hw
  · intro w hw
    rw [eu _ (by omega) (by omega) (by omega) (by omega) (by omega), zs 2 (by omega)]; exact b6 w hw
  · intro w hw
    rw [eu _ (by omega) (by omega) (by omega) (by omega) (by omega), eu _ (by omega) (by omega) (by omega) (by omega) (by omega), zs 3 (by omega), zs 4 (by omega)]; exact b7 w hw
/-- the reference copies the picks into its first list -/
theorem l_in (h4 : J (m + 1) 4 = nI K) (hK : K ≤ 100) : ∃ J', s_X9_readsDeck_L41 m lf 0 J = some (nI K, J') ∧ (∀ q, q ≠ m + 7 → J' q = J q) ∧ ∀ j, j < K → J' (m + 7) j = J (m + 1) (164 + j) := by
  have hl := loopM (fun f J i => s_X9_readsDeck_L41 m f i J) (fun t J' => (∀ q, q ≠ m + 7 → J' q = J q) ∧ ∀ j, j < t → J' (m + 7) j = J (m + 1) (164 + j)) (fun J => (nI K, J)) 0 K (fun f J' hJ => ?_) (fun f j J' _ hlt hJ => ?_) lf 0 J (Nat.le_refl 0) (Nat.zero_le _) (by unfold lf; omega) ⟨fun _ _ => rfl, fun j hj => absurd hj (Nat.not_lt_zero j)⟩
  · obtain ⟨J', ⟨h1, h2⟩, h6⟩ := hl
    exact ⟨J', h6, h1, h2⟩
  · show s_X9_readsDeck_L41 m (f + 1) (nI K) J' = _
    rw [s_X9_readsDeck_L41, gl4, cl4, hJ.1 _ (by omega), h4, if_pos (Int32.le_refl _)]
  · obtain ⟨h1, h2⟩ := hJ
    show ∃ J'', _ ∧ s_X9_readsDeck_L41 m (f + 1) (nI j) J' = _
    rw [s_X9_readsDeck_L41, gl4, cl4, h1 (m + 1) (by omega), h4, if_neg (nI_ge hlt (by omega)), show (164 : Int32) = nI 164 from rfl, nI_add, gd_in (by omega) (by omega), gd_in (by omega) (by omega), cl_nI (by omega), cl_nI (by omega), lx_s, nI_1]
    refine ⟨_, ⟨fun q q1 => ?_, fun i hi => ?_⟩, rfl⟩
    · rw [stI_ne q1]; exact h1 q q1
    · by_cases e : i = j
      · subst e; rw [stI_at]
      · rw [stI_aj e]; exact h2 i (by omega)
/-- and back -/
theorem l_out (h4 : J (m + 1) 4 = nI K) (hK : K ≤ 100) : ∃ J', s_X9_readsDeck_L153 m lf 0 J = some (nI K, J') ∧ (∀ q, q ≠ m + 1 → J' q = J q) ∧ (∀ j, ¬ (164 ≤ j ∧ j < 264) → J' (m + 1) j = J (m + 1) j) ∧ ∀ j, j < K → J' (m + 1) (164 + j) = J (m + 7) j := by
  have hl := loopM (fun f J i => s_X9_readsDeck_L153 m f i J) (fun t J' => (∀ q, q ≠ m + 1 → J' q = J q) ∧ (∀ j, ¬ (164 ≤ j ∧ j < 264) → J' (m + 1) j = J (m + 1) j) ∧ ∀ j, j < t → J' (m + 1) (164 + j) = J (m + 7) j) (fun J => (nI K, J)) 0 K (fun f J' hJ => ?_) (fun f j J' _ hlt hJ => ?_) lf 0 J (Nat.le_refl 0) (Nat.zero_le _) (by unfold lf; omega) ⟨fun _ _ => rfl, fun _ _ => rfl, fun j hj => absurd hj (Nat.not_lt_zero j)⟩
  · obtain ⟨J', ⟨h1, h2, h3⟩, h6⟩ := hl
    exact ⟨J', h6, h1, h2, h3⟩
  · show s_X9_readsDeck_L153 m (f + 1) (nI K) J' = _
    rw [s_X9_readsDeck_L153, gl4, cl4, hJ.2.1 4 (by omega), h4, if_pos (Int32.le_refl _)]
  · obtain ⟨h1, h2, h3⟩ := hJ
    show ∃ J'', _ ∧ s_X9_readsDeck_L153 m (f + 1) (nI j) J' = _
    rw [s_X9_readsDeck_L153, gl4, cl4, h2 4 (by omega), h4, if_neg (nI_ge hlt (by omega)), show (164 : Int32) = nI 164 from rfl, nI_add, gd_in (show j < 400 by omega) (by omega), gd_in (by omega) (by omega), cl_nI (show j < 2 ^ 31 by omega), cl_nI (by omega), lx_s, nI_1]
    refine ⟨_, ⟨fun q q1 => ?_, fun i hi => ?_, fun i hi => ?_⟩, rfl⟩
    · rw [stI_ne q1]; exact h1 q q1
    · rw [stI_aj (by omega)]; exact h2 i hi
    · by_cases e : i = j
      · subst e; rw [stI_at, h1 _ (by omega)]
      · rw [stI_aj (by omega)]; exact h3 i (by omega)
theorem er_part (h : EM J m) : s_X9_readsPart J m = some J := by
  unfold s_X9_readsPart s_X9_isBracketWord
  rw [er_is h, if_neg Bool.false_ne_true, er_isWord h, bd_some, if_neg Bool.false_ne_true, er_isWord h, bd_some, if_neg Bool.false_ne_true, er_isWord h, bd_some, if_neg Bool.false_ne_true, bd_some, if_neg Bool.false_ne_true, er_is h, if_neg Bool.false_ne_true, lx_s, er_faults h]
theorem er_deckL (h : EM J m) (q : Int32) : s_X9_readsDeck_L98 m q lf J = some J := by
  rw [show lf = 19999 + 1 from rfl, s_X9_readsDeck_L98, er_part h, bd_some, if_neg h.ne]
theorem it_deck (hP : p + 3 ≤ P) (h : GS I J p P m N k y x H W C K R) (hk : k ≠ 0) : ITM p P m N y (s_X5_readDeck I p P) (s_X9_readsDeck J m) := by
  have hR := h.2.1.g.2.2.2.2.2.1
  have hK := h.2.1.g.2.2.2.2.1
  unfold s_X5_readDeck s_X9_readsDeck
  rw [gl5, cl5, h.2.1.g.1.2.2.2.2, h.2.1.c.2.2.2.2]
  obtain ⟨⟨I4, a4, e4⟩, -, -, r3, -⟩ := g_fail (P := P) h
  by_cases e : R = 0
  · subst e
    obtain ⟨I1, J1, k1, y1, x1, a1, b1, g1, l1, -⟩ := g_adv hP h hk
    have kr := g1.2.1
    have hb1 := g1.1.b
    have f4 : J1 (m + 1) 4 = nI K := kr.g.1.2.2.2.1
    rw [if_pos (show nI 0 ≤ 0 from Int32.le_refl 0), if_pos (show nI 0 ≤ 0 from Int32.le_refl 0), lx_s (s_X9_refuses J m false), r3, a1, b1, bd_some, bd_some, lx_s (stI J1 m 20 0), gl4, cl4, show (0 : Int32) = nI 0 from rfl, gd_in (show 0 < 4 by omega) (by omega), cl_nI (show 0 < 2 ^ 31 by omega), stI_ne (show m + 1 ≠ m by omega), f4, lx_s (stI (stI J1 m 20 (nI 0)) (m + 8) 0 (nI K))]
    obtain ⟨J2, o1, o2, o3⟩ := l_in (J := stI (stI J1 m 20 (nI 0)) (m + 8) 0 (nI K)) (m := m) (K := K) (by rw [stI_ne (by omega), stI_ne (by omega)]; exact f4) hK
    have j2m : J2 m = stI J1 m 20 (nI 0) m := by rw [o2 _ (by omega), stI_ne (by omega)]
    have j21 : J2 (m + 1) = J1 (m + 1) := by rw [o2 _ (by omega), stI_ne (by omega), stI_ne (by omega)]
    have c10 : J2 m 10 = nI 0 := by rw [j2m, stI_aj (by decide)]; exact g_c10 g1
    rw [show s_X9_readsDeck_L41 m lf (nI 0) (stI (stI J1 m 20 (nI 0)) (m + 8) 0 (nI K)) = _ from o1, bd_some]
    show ITM p P m N y _ (if J2 m 10 = nI 0 then _ else _)
    rw [if_pos c10, gl7, gl7, cl7, lx_s (stI J2 (m + 1) 7 _), j21]
    obtain ⟨⟨d7, n, n1, n2, n3⟩, n', ⟨m1, m2⟩, m3, m4, m5⟩ := And.intro g1.2.2 kr.part
    have hE1 : (if k1 = 2 then 0 else 1) ≤ 1 := by split <;> omega
    have hnn : n = n' := (nI_eq (by omega) (by omega)).mp (n1.symm.trans m3)
    subst hnn
    have eJ : ∀ q, q ≠ m → q ≠ m + 1 → q ≠ m + 7 → q ≠ m + 8 → stI J2 (m + 1) 7 (mxF (J1 (m + 1) 7) 1) q = J1 q := fun q q0 q1 q2 q3 => by
      rw [stI_ne q1, o2 q q2, stI_ne q3, stI_ne q0]
    have hD : DS I1 (stI J2 (m + 1) 7 (mxF (J1 (m + 1) 7) 1)) I1 (J1 (m + 1)) p P m N k1 y1 x1 (y1 + eK k1) C 0 (fun _ => K) := by
      refine ⟨TS_dep2 g1.1 rfl rfl rfl (fun j hj => ?_) (eJ _ (by omega) (by omega) (by omega) (by omega)), ⟨fun _ _ _ _ => rfl, fun j j1 j2 j3 => ?_, ?_⟩, ⟨⟨by omega, d7, ?_, ?_⟩, fun i hi => ?_, fun i hi => absurd hi (Nat.not_lt_zero i)⟩, n, ⟨?_, ?_⟩, n1, ?_, fun j hj => ?_⟩
      · rw [stI_ne (by omega), j2m, stI_aj (by omega)]
      · rw [stI_aj j3, j21]
      · rw [stI_at, kr.set.2.2.2]
      · rw [stI_ne (by omega), j2m, stI_at]
      · show _ = nI (0 + K)
        rw [Nat.zero_add]; exact kr.c.2.2.2.1
      · have : i = 0 := by omega
        subst this
        refine ⟨hK, ?_, fun j hj => ?_⟩
        · rw [stI_ne (by omega), o2 _ (by omega), stI_at]
        · obtain ⟨c, c1, c2, c3⟩ := kr.pick hj
          refine ⟨c, c1, ?_, ?_⟩
          · show I1 (P + 5 + 2) (0 + j) = nI c
            rw [Nat.zero_add]; exact c2
          · rw [stI_ne (by omega), show 100 * 0 + j = j by omega, o3 j hj, stI_ne (by omega), stI_ne (by omega)]; exact c3
      · unfold eK; omega
      · unfold eK; omega
      · rw [stI_aj (by decide), j21]; exact m4
      · rw [stI_aj (by omega), j21]; exact m5 j hj
    have hL := l_deck hP kr (nI K) (N - y1 + 1) lf lf 0 I1 (stI J2 (m + 1) 7 (mxF (J1 (m + 1) 7) 1)) k1 y1 x1 0 1 (fun _ => K) (by omega) (by unfold lf; omega) (by unfold lf; omega) hD (Or.inr rfl) (fun q => absurd q (Nat.lt_irrefl 0)) (fun q => by omega) (by omega) (Or.inr (Or.inl rfl))
    obtain ⟨o, J3, p1, p2, p3⟩ := hL
    have p1' : s_X5_readDeck_L30 p P lf 1 (nI 0) I1 = some o := p1
    rw [p1', p2, bd_some]
    rcases p3 with ⟨I5, k5, y5, x5, z5, rfl, hD5, hd5, hy5⟩ | ⟨I5, rfl, e5⟩
    · have hb5 := hD5.1.b
      obtain ⟨t5, ⟨f51, f52, f53⟩, ⟨⟨-, l57, l520, l53⟩, lz, -⟩, n5, ⟨w51, w52⟩, w53, w54, w55⟩ := hD5
      obtain ⟨z1, z2, z3⟩ := lz 0 (Nat.le_refl 0)
      have hE : eK k5 ≤ 1 := by unfold eK; split <;> omega
      rw [bl_inl, if_pos (show J3 m 10 ≤ nI 0 by rw [t5.2.2.2.1]; exact Int32.le_refl 0), gd_in (show 0 < 4 by omega) (by omega), gl4, z2, lx_s (stI J3 (m + 1) 4 _)]
      obtain ⟨J4, q1, q2, q3, q4⟩ := l_out (J := stI J3 (m + 1) 4 (nI (z5 0))) (m := m) (K := z5 0) stI_at z1
      rw [show s_X9_readsDeck_L153 m lf (nI 0) (stI J3 (m + 1) 4 (nI (z5 0))) = _ from q1, bd_some]
      have j4 : ∀ q, q ≠ m + 1 → J4 q = J3 q := fun q hq => by rw [q2 q hq, stI_ne hq]
      have j41 : ∀ j, j ≠ 4 → ¬ (164 ≤ j ∧ j < 264) → J4 (m + 1) j = J3 (m + 1) j := fun j h1 h2 => by rw [q3 j h2, stI_aj h1]
      refine ITM_ok rfl rfl (H := H) (W := W) (C := C) (K := z5 0) (R := 0) (k := k5) (y := y5) (x := x5) ⟨TS_dep2 t5 rfl rfl rfl (fun j _ => by rw [j4 _ (by omega)]) (j4 _ (by omega)), ?_, l57, n5, w53, ?_, ?_⟩ (by omega)
      · refine KR_deck kr (Nat.le_refl _) z1 (fun q h1 h2 => f51 q (by omega) (by omega) h1) ?_ ?_ ?_ (fun j hj => ?_) ⟨n5, ⟨by omega, by omega⟩, w53, ?_, fun j hj => ?_⟩ (fun j h1 h2 h3 h4 h5 => ?_)
        · rw [l53]; show nI (0 + z5 0) = nI (z5 0); rw [Nat.zero_add]
        · rw [q3 4 (by omega), stI_at]
        · rw [j41 7 (by omega) (by omega), f53, hd5]
        · obtain ⟨c, c1, c2, c3⟩ := z3 j hj
          refine ⟨c, c1, ?_, ?_⟩
          · rw [show P + 5 + 2 = P + 5 + 2 from rfl]
            have : stt z5 0 + j = j := Nat.zero_add j
            rw [this] at c2; exact c2
          · rw [q4 j hj, stI_ne (by omega)]
            rw [show 100 * 0 + j = j by omega] at c3; exact c3
        · rw [j41 6 (by omega) (by omega)]; exact w54
        · rw [j41 _ (by omega) (by omega)]; exact w55 j hj
        · rw [j41 j h2 h5]; exact f52 j h1 h3 h4
      · exact w51
      · exact w52
    · rw [bl_inl, if_neg (show ¬ J3 m 10 ≤ nI 0 from e5.em.le)]
      exact ITM_er rfl rfl e5
  · have f4 : s_X9_refuses J m true (m + 1) 4 = nI K := by rw [fr_X9_refuses (by omega)]; exact h.2.1.g.1.2.2.2.1
    rw [if_neg (nI_nle (by omega) (by omega)), if_neg (nI_nle (by omega) (by omega)), a4, bd2_some, lx_s (s_X9_refuses J m true), er_goes e4.em, bd_some]
    generalize s_X9_refuses J m true = J1 at e4 f4
    rw [lx_s (stI J1 m 20 0), gl4, cl4, show (0 : Int32) = nI 0 from rfl, gd_in (show 0 < 4 by omega) (by omega), cl_nI (show 0 < 2 ^ 31 by omega), stI_ne (show m + 1 ≠ m by omega), f4, lx_s (stI (stI J1 m 20 (nI 0)) (m + 8) 0 (nI K))]
    obtain ⟨J2, o1, o2, o3⟩ := l_in (J := stI (stI J1 m 20 (nI 0)) (m + 8) 0 (nI K)) (m := m) (K := K) (by rw [stI_ne (by omega), stI_ne (by omega)]; exact f4) hK
    have j2m : ∀ j, j ≠ 20 → J2 m j = J1 m j := fun j hj => by rw [o2 _ (by omega), stI_ne (by omega), stI_aj hj]
    have e2 : ER I4 J2 p m := by
      obtain ⟨ec, e1, e2, e3, e5, e6⟩ := e4
      exact ⟨ec, e1, e2, by rw [j2m 10 (by decide)]; exact e3, by rw [j2m 11 (by decide)]; exact e5, e6⟩
    rw [show s_X9_readsDeck_L41 m lf (nI 0) (stI (stI J1 m 20 (nI 0)) (m + 8) 0 (nI K)) = _ from o1, bd_some]
    show ITM p P m N y _ (if J2 m 10 = nI 0 then _ else _)
    rw [if_neg (show ¬ J2 m 10 = nI 0 from e2.em.ne), er_deckL e2.em, bd_some, if_neg (show ¬ J2 m 10 ≤ nI 0 from e2.em.le)]
    exact ITM_er rfl rfl e2
end DKI
