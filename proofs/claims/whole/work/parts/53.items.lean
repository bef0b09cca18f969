/-! items of a setup but the deck, both ways -/
def DW (I : JI) (P k y : Nat) : Prop := I (P + 5) 7 = 0 ∧ ∃ n : Nat, I (P + 5) 1 = nI n ∧ pW (I (P + 5 + 1)) n + 1 ≤ y + (if k = 2 then 0 else 1) ∧ 2 * n + 1 ≤ y + (if k = 2 then 0 else 1)
def GS (I J : JI) (p P m N k y x H W C K R : Nat) : Prop := TS I J p m N k y x ∧ KR I P (P + 10) (J (m + 1)) H W C K R ∧ DW I P k y
def GSx (I J : JI) (p P m N y0 : Nat) : Prop := ∃ k y x H W C K R, GS I J p P m N k y x H W C K R ∧ y0 ≤ y
def OUT (p P m N y0 : Nat) (b : Bool) (I' J' : JI) : Prop := (b = true ∧ GSx I' J' p P m N y0) ∨ (b = false ∧ ER I' J' p m)
def ITM (p P m N y0 : Nat) (cl : Option (Bool × JI)) (mo : Option JI) : Prop := ∃ b I' J', cl = some (b, I') ∧ mo = some J' ∧ OUT p P m N y0 b I' J'
theorem RPart_g {I I' : JI} {d : Nat} {f g : Nat → Int32} (h : RPart I d f) (h0 : I' d = I d) (h1 : I' (d + 1) = I (d + 1)) (g6 : g 6 = f 6) (gk : ∀ k, 1764 ≤ k → g k = f k) : RPart I' d g := by
  obtain ⟨n, n1, n2, n3, n4⟩ := h
  refine ⟨n, by rw [h1]; exact n1, by rw [h0]; exact n2, by rw [g6]; exact n3, fun k hk => ?_⟩
  rw [h1, gk _ (by omega)]
  exact n4 k hk
section ITS
variable {I J I' J' : JI} {p P m N k y x H W C K R y0 : Nat} {f g : Nat → Int32} {L s : Nat}
theorem KR_fix (h : KR I L s f H W C K R) (hs : L + 10 ≤ s) (ez : ∀ z, z ≠ L → I' z = I z) (eL : ∀ j, j ≠ 2 → j ≠ 3 → I' L j = I L j) (eu : ∀ j, j ≠ 11 → j ≠ 12 → g j = f j) (t2 : ∃ t, t ≤ 60 ∧ I' L 2 = nI t) (t3 : ∃ q, q ≤ 24 ∧ I' L 3 = nI q) (g2 : g 11 = I' L 2) (g3 : g 12 = I' L 3) : KR I' L s g H W C K R := by
  obtain ⟨⟨l0, l4, l7, l3, -, -, l5, l6, l8, l9⟩, ⟨⟨f0, f1, f2, f3, f4, f7, -, -⟩, fw, fc, fp, fr⟩, hv, hb⟩ := h
  refine ⟨⟨?_, ?_, ?_, ?_, t2, t3, ?_, ?_, ?_, ?_⟩, ⟨⟨?_, ?_, ?_, ?_, ?_, ?_, g2, g3⟩, ?_, ?_, ?_, RPart_g fr (ez _ (by omega)) (ez _ (by omega)) (eu 6 (by decide) (by decide)) (fun j hj => eu j (by omega) (by omega))⟩, ?_, ?_⟩
  · rw [eL 0 (by decide) (by decide)]; exact l0
  · rw [eL 4 (by decide) (by decide)]; exact l4
  · rw [eL 7 (by decide) (by decide)]; exact l7
  · rw [ez _ (by omega)]; exact l3
  · rw [ez _ (by omega)]; exact l5
  · rw [ez _ (by omega)]; exact l6
  · rw [ez _ (by omega), ez _ (by omega)]; exact l8
  · rw [ez _ (by omega)]; exact l9
  · rw [eu 0 (by decide) (by decide), eL 0 (by decide) (by decide)]; exact f0
  · rw [eu 1 (by decide) (by decide), eL 1 (by decide) (by decide)]; exact f1
  · rw [eu 2 (by decide) (by decide), eL 4 (by decide) (by decide)]; exact f2
  · rw [eu 3 (by decide) (by decide), eL 7 (by decide) (by decide)]; exact f3
  · rw [eu 4 (by decide) (by decide), ez _ (by omega)]; exact f4
  · rw [eu 7 (by decide) (by decide), ez _ (by omega)]; exact f7
  · intro w hw; rw [eu _ (by omega) (by omega), eu _ (by omega) (by omega), ez _ (by omega), ez _ (by omega)]; exact fw w hw
  · intro w hw; rw [eu _ (by omega) (by omega), eu _ (by omega) (by omega), ez _ (by omega), ez _ (by omega)]; exact fc w hw
  · intro w hw; rw [eu _ (by omega) (by omega), ez _ (by omega)]; exact fp w hw
  · unfold SVal at *
    rw [ez s (by omega), ez (s + 3) (by omega), ez (s + 4) (by omega), ez (s + 5) (by omega), ez (s + 6) (by omega)]; exact hv
  · obtain ⟨b1, b2, b3, b4, b5, b6, b7, b8⟩ := hb
    have ec : ∀ r w, cellC I' L s r w = cellC I L s r w := fun r w => by
      unfold cellC; rw [ez (s + 5) (by omega), ez (L + 2) (by omega), ez (s + 6) (by omega)]
    refine ⟨?_, ?_, ?_, ?_, ?_, ?_, ?_, ?_⟩
    · rw [eu _ (by omega) (by omega), ez _ (by omega)]; exact b1
    · rw [eu _ (by omega) (by omega), ez _ (by omega)]; exact b2
    · rw [eu _ (by omega) (by omega), eu _ (by omega) (by omega), eu _ (by omega) (by omega), ez _ (by omega)]; exact b3
    · intro w hw; rw [eu _ (by omega) (by omega), eu _ (by omega) (by omega), eu _ (by omega) (by omega), ez _ (by omega), ez _ (by omega)]; exact b4 w hw
    · intro w hw; rw [eu _ (by omega) (by omega), ez _ (by omega)]; exact b5 w hw
    · intro w hw; rw [eu _ (by omega) (by omega), ez _ (by omega)]; exact b6 w hw
    · intro w hw; rw [eu _ (by omega) (by omega), eu _ (by omega) (by omega), ez _ (by omega), ez _ (by omega)]; exact b7 w hw
    · intro r hr; rw [eu _ (by omega) (by omega), ez _ (by omega)]
      refine ⟨(b8 r hr).1, fun w hw => ?_⟩
      rw [eu _ (by omega) (by omega), ec, ez _ (by omega)]; exact (b8 r hr).2 w hw
theorem KR_warp (h : KR I L s f H W C K 0) (hs : L + 10 ≤ s) (hW : W < 24) {v q : Nat} (hh : v < H) (hq : q < 6) (ez : ∀ z, z ≠ L → z ≠ L + 1 → z ≠ L + 2 → I' z = I z) (eL : ∀ j, j ≠ 4 → I' L j = I L j) (i4 : I' L 4 = nI (W + 1)) (i1 : I' (L + 1) W = nI v) (i1' : ∀ j, j ≠ W → I' (L + 1) j = I (L + 1) j) (i2 : I' (L + 2) W = nI q) (i2' : ∀ j, j ≠ W → I' (L + 2) j = I (L + 2) j) (g2 : g 2 = nI (W + 1)) (ga : g (38 + 3 * W) = nI v) (gb : g (39 + 3 * W) = nI q) (gc : g (40 + 3 * W) = 0) (eu : ∀ j, j ≠ 2 → ¬ (38 + 3 * W ≤ j ∧ j < 41 + 3 * W) → g j = f j) : KR I' L s g H (W + 1) C K 0 := by
  obtain ⟨⟨l0, l4, l7, l3, lt, lq, l5, l6, l8, l9⟩, ⟨⟨f0, f1, f2, f3, f4, f7, f11, f12⟩, fw, fc, fp, fr⟩, ⟨v1, v2, v3, v4, v5, v6, -⟩, b1, b2, b3, b4, b5, b6, b7, -⟩ := h
  have hC := l7.2
  have hP := l3.2
  have hH := l0.2
  refine ⟨⟨?_, ⟨i4, hW⟩, ?_, ?_, ?_, ?_, ?_, ?_, ?_, ?_⟩, ⟨⟨?_, ?_, ?_, ?_, ?_, ?_, ?_, ?_⟩, ?_, ?_, ?_, RPart_g fr (ez _ (by omega) (by omega) (by omega)) (ez _ (by omega) (by omega) (by omega)) (eu 6 (by decide) (by omega)) (fun j hj => eu j (by omega) (by omega))⟩, ⟨?_, ?_, ?_, ?_, ?_, ?_, fun r hr => absurd hr (Nat.not_lt_zero r)⟩, ?_, ?_, ?_, ?_, ?_, ?_, ?_, fun r hr => absurd hr (Nat.not_lt_zero r)⟩
  · rw [eL 0 (by decide)]; exact l0
  · rw [eL 7 (by decide)]; exact l7
  · rw [ez _ (by omega) (by omega) (by omega)]; exact l3
  · rw [eL 2 (by decide)]; exact lt
  · rw [eL 3 (by decide)]; exact lq
  · intro w hw
    by_cases e : w = W
    · subst e; exact ⟨v, hh, i1⟩
    · rw [i1' w e]; exact l5 w (by omega)
  · intro w hw
    by_cases e : w = W
    · subst e; exact ⟨q, hq, i2⟩
    · rw [i2' w e]; exact l6 w (by omega)
  · rw [ez _ (by omega) (by omega) (by omega), ez _ (by omega) (by omega) (by omega)]; exact l8
  · rw [ez _ (by omega) (by omega) (by omega)]; exact l9
  · rw [eu 0 (by decide) (by omega), eL 0 (by decide)]; exact f0
  · rw [eu 1 (by decide) (by omega), eL 1 (by decide)]; exact f1
  · rw [g2, i4]
  · rw [eu 3 (by decide) (by omega), eL 7 (by decide)]; exact f3
  · rw [eu 4 (by decide) (by omega), ez _ (by omega) (by omega) (by omega)]; exact f4
  · rw [eu 7 (by decide) (by omega), ez _ (by omega) (by omega) (by omega)]; exact f7
  · rw [eu 11 (by decide) (by omega), eL 2 (by decide)]; exact f11
  · rw [eu 12 (by decide) (by omega), eL 3 (by decide)]; exact f12
  · intro w hw
    by_cases e : w = W
    · subst e; rw [ga, gb, i1, i2]; exact ⟨rfl, rfl⟩
    · rw [i1' w e, i2' w e, eu _ (by omega) (by omega), eu _ (by omega) (by omega)]; exact fw w (by omega)
  · intro w hw; rw [eu _ (by omega) (by omega), eu _ (by omega) (by omega), ez _ (by omega) (by omega) (by omega), ez _ (by omega) (by omega) (by omega)]; exact fc w hw
  · intro w hw; rw [eu _ (by omega) (by omega), ez _ (by omega) (by omega) (by omega)]; exact fp w hw
  · rw [ez s (by omega) (by omega) (by omega)]; exact v1
  · rw [ez s (by omega) (by omega) (by omega)]; exact v2
  · rw [ez s (by omega) (by omega) (by omega)]; exact v3.mono (by omega)
  · rw [ez s (by omega) (by omega) (by omega)]; exact v4
  · rw [ez s (by omega) (by omega) (by omega)]; exact v5
  · rw [ez (s + 3) (by omega) (by omega) (by omega), ez (s + 4) (by omega) (by omega) (by omega)]; exact v6
  · rw [eu 5 (by omega) (by omega), ez s (by omega) (by omega) (by omega)]; exact b1
  · rw [eu 10 (by omega) (by omega), ez s (by omega) (by omega) (by omega)]; exact b2
  · rw [eu 8 (by omega) (by omega), eu 9 (by omega) (by omega), eu 13 (by omega) (by omega), ez s (by omega) (by omega) (by omega)]; exact b3
  · intro w hw; rw [eu _ (by omega) (by omega), eu _ (by omega) (by omega), eu _ (by omega) (by omega), ez s (by omega) (by omega) (by omega), ez (s + 1) (by omega) (by omega) (by omega)]; exact b4 w hw
  · intro w hw
    rw [ez s (by omega) (by omega) (by omega)]
    by_cases e : w = W
    · subst e; rw [gc, v3 w (Nat.le_refl w)]; rfl
    · rw [eu _ (by omega) (by omega)]; exact b5 w (by omega)
  · intro w hw; rw [eu _ (by omega) (by omega), ez (s + 2) (by omega) (by omega) (by omega)]; exact b6 w hw
  · intro w hw; rw [eu _ (by omega) (by omega), eu _ (by omega) (by omega), ez _ (by omega) (by omega) (by omega), ez _ (by omega) (by omega) (by omega)]; exact b7 w hw
theorem KR_card (h : KR I L s f H W C K R) (hs : L + 10 ≤ s) (hC : C < 12) {v : Int32} {q : Nat} (hv : LB H v) (hq : q < 6) (ez : ∀ z, z ≠ L → z ≠ L + 3 → z ≠ L + 4 → z ≠ s + 3 → z ≠ s + 4 → I' z = I z) (eL : ∀ j, j ≠ 7 → I' L j = I L j) (i7 : I' L 7 = nI (C + 1)) (i3 : I' (L + 3) C = v) (i3' : ∀ j, j ≠ C → I' (L + 3) j = I (L + 3) j) (i4 : I' (L + 4) C = nI q) (i4' : ∀ j, j ≠ C → I' (L + 4) j = I (L + 4) j) (s3 : I' (s + 3) C = v) (s3' : ∀ j, j ≠ C → I' (s + 3) j = I (s + 3) j) (s4 : I' (s + 4) C = nI q) (s4' : ∀ j, j ≠ C → I' (s + 4) j = I (s + 4) j) (g3 : g 3 = nI (C + 1)) (ga : g (116 + 4 * C) = v) (gb : g (117 + 4 * C) = nI q) (gc : g (118 + 4 * C) = v) (gd : g (119 + 4 * C) = nI q) (eu : ∀ j, j ≠ 3 → ¬ (116 + 4 * C ≤ j ∧ j < 120 + 4 * C) → g j = f j) : KR I' L s g H W (C + 1) K R := by
  obtain ⟨⟨l0, l4, l7, l3, lt, lq, l5, l6, l8, l9⟩, ⟨⟨f0, f1, f2, f3, f4, f7, f11, f12⟩, fw, fc, fp, fr⟩, ⟨v1, v2, v3, v4, v5, v6, v7⟩, b1, b2, b3, b4, b5, b6, b7, b8⟩ := h
  have hW := l4.2
  have hP := l3.2
  have hH := l0.2
  have hR := v4.2.1
  have zz : ∀ z, z ≠ L → z ≠ L + 3 → z ≠ L + 4 → z ≠ s + 3 → z ≠ s + 4 → I' z = I z := ez
  have zL : ∀ j, 1 ≤ j → j < 10 → j ≠ 3 → j ≠ 4 → I' (L + j) = I (L + j) := fun j _ _ _ _ => ez _ (by omega) (by omega) (by omega) (by omega) (by omega)
  have zs : ∀ j, j ≠ 3 → j ≠ 4 → I' (s + j) = I (s + j) := fun j _ _ => ez _ (by omega) (by omega) (by omega) (by omega) (by omega)
  have zs0 : I' s = I s := zs 0 (by decide) (by decide)
  have ec : ∀ r w, cellC I' L s r w = cellC I L s r w := fun r w => by
    unfold cellC; rw [zs 5 (by decide) (by decide), zL 2 (by decide) (by decide) (by decide) (by decide), zs 6 (by decide) (by decide)]
  refine ⟨⟨?_, ?_, ⟨i7, hC⟩, ?_, ?_, ?_, ?_, ?_, ?_, ?_⟩, ⟨⟨?_, ?_, ?_, ?_, ?_, ?_, ?_, ?_⟩, ?_, ?_, ?_, RPart_g fr (zL 5 (by decide) (by decide) (by decide) (by decide)) (zL 6 (by decide) (by decide) (by decide) (by decide)) (eu 6 (by decide) (by omega)) (fun j hj => eu j (by omega) (by omega))⟩, ⟨?_, ?_, ?_, ?_, ?_, ?_, ?_⟩, ?_, ?_, ?_, ?_, ?_, ?_, ?_, ?_⟩
  · rw [eL 0 (by decide)]; exact l0
  · rw [eL 4 (by decide)]; exact l4
  · rw [zL 5 (by decide) (by decide) (by decide) (by decide)]; exact l3
  · rw [eL 2 (by decide)]; exact lt
  · rw [eL 3 (by decide)]; exact lq
  · rw [zL 1 (by decide) (by decide) (by decide) (by decide)]; exact l5
  · rw [zL 2 (by decide) (by decide) (by decide) (by decide)]; exact l6
  · intro w hw
    by_cases e : w = C
    · subst e; rw [i3, i4]; exact ⟨hv, q, hq, rfl⟩
    · rw [i3' w e, i4' w e]; exact l8 w (by omega)
  · rw [show L + 5 + 2 = L + 7 from rfl, zL 7 (by decide) (by decide) (by decide) (by decide)]
    intro j hj
    obtain ⟨c, c1, c2⟩ := l9 j hj
    exact ⟨c, by omega, c2⟩
  · rw [eu 0 (by decide) (by omega), eL 0 (by decide)]; exact f0
  · rw [eu 1 (by decide) (by omega), eL 1 (by decide)]; exact f1
  · rw [eu 2 (by decide) (by omega), eL 4 (by decide)]; exact f2
  · rw [g3, i7]
  · rw [eu 4 (by decide) (by omega), zL 5 (by decide) (by decide) (by decide) (by decide)]; exact f4
  · rw [eu 7 (by decide) (by omega), zL 5 (by decide) (by decide) (by decide) (by decide)]; exact f7
  · rw [eu 11 (by decide) (by omega), eL 2 (by decide)]; exact f11
  · rw [eu 12 (by decide) (by omega), eL 3 (by decide)]; exact f12
  · intro w hw
    rw [zL 1 (by decide) (by decide) (by decide) (by decide), zL 2 (by decide) (by decide) (by decide) (by decide), eu _ (by omega) (by omega), eu _ (by omega) (by omega)]; exact fw w hw
  · intro w hw
    by_cases e : w = C
    · subst e; rw [gc, gd, i3, i4]; exact ⟨rfl, rfl⟩
    · rw [i3' w e, i4' w e, eu _ (by omega) (by omega), eu _ (by omega) (by omega)]; exact fc w (by omega)
  · intro w hw
    rw [show L + 5 + 2 = L + 7 from rfl, zL 7 (by decide) (by decide) (by decide) (by decide), eu _ (by omega) (by omega)]; exact fp w hw
  · rw [zs0]; exact v1
  · rw [zs0]; exact v2
  · rw [zs0]; exact v3
  · rw [zs0]; exact v4
  · rw [zs0]; exact v5
  · intro w hw
    by_cases e : w = C
    · subst e; rw [s3, s4]; exact ⟨hv, q, hq, rfl⟩
    · rw [s3' w e, s4' w e]; exact v6 w (by omega)
  · rw [zs 5 (by decide) (by decide), zs 6 (by decide) (by decide)]; exact v7
  · rw [eu 5 (by omega) (by omega), zs0]; exact b1
  · rw [eu 10 (by omega) (by omega), zs0]; exact b2
  · rw [eu 8 (by omega) (by omega), eu 9 (by omega) (by omega), eu 13 (by omega) (by omega), zs0]; exact b3
  · intro w hw; rw [eu _ (by omega) (by omega), eu _ (by omega) (by omega), eu _ (by omega) (by omega), zs0, zs 1 (by decide) (by decide)]; exact b4 w hw
  · intro w hw
    rw [zs0, eu _ (by omega) (by omega)]; exact b5 w hw
  · intro w hw; rw [eu _ (by omega) (by omega), zs 2 (by decide) (by decide)]; exact b6 w hw
  · intro w hw
    by_cases e : w = C
    · subst e; rw [ga, gb, s3, s4]; exact ⟨rfl, rfl⟩
    · rw [s3' w e, s4' w e, eu _ (by omega) (by omega), eu _ (by omega) (by omega)]; exact b7 w (by omega)
  · intro r hr; rw [eu _ (by omega) (by omega), zs 6 (by decide) (by decide)]
    refine ⟨(b8 r hr).1, fun w hw => ?_⟩
    rw [eu _ (by omega) (by omega), ec, zs 5 (by decide) (by decide)]; exact (b8 r hr).2 w hw
/-- the deck's weights stay when nothing of the deck changes -/
theorem DW_next {k' y' : Nat} (h : DW I P k y) (hy : y < y') (e5 : I' (P + 5) = I (P + 5)) (e6 : I' (P + 5 + 1) = I (P + 5 + 1)) : DW I' P k' y' := by
  obtain ⟨h0, n, n1, n2, n3⟩ := h
  refine ⟨by rw [e5]; exact h0, n, by rw [e5]; exact n1, ?_, ?_⟩
  · rw [e6]; split at n2 <;> split <;> omega
  · split at n3 <;> split <;> omega
theorem DW_same (h : DW I P k y) (e5 : I' (P + 5) = I (P + 5)) (e6 : I' (P + 5 + 1) = I (P + 5 + 1)) : DW I' P k y := by
  obtain ⟨h0, n, n1, n2, n3⟩ := h
  exact ⟨by rw [e5]; exact h0, n, by rw [e5]; exact n1, by rw [e6]; exact n2, n3⟩
theorem GS_next (hP : p + 3 ≤ P) (h : GS I J p P m N k y x H W C K R) (hy : y < x) (n : NX I J I' J' p m N k x) : ∃ k' y' x', GS I' J' p P m N k' y' x' H W C K R ∧ x ≤ y' ∧ y < y' ∧ (k = 2 → k' = 2 → x < y') := by
  obtain ⟨k', y', x', n1, n2, n3, n4, n5⟩ := n
  refine ⟨k', y', x', ⟨n1, ?_, DW_next h.2.2 (by omega) (n4 _ (by omega) (by omega)) (n4 _ (by omega) (by omega))⟩, n2, by omega, n3⟩
  rw [n5 (m + 1) (by omega)]
  exact KR_dep h.2.1 (fun z z1 z2 => n4 z (by omega) (by omega)) (fun z z1 z2 => n4 z (by omega) (by omega))
theorem GS_num (hP : p + 3 ≤ P) (h : GS I J p P m N k y x H W C K R) {v : Int32} (t : TS (stI I p 4 v) J p m N k y x) : GS (stI I p 4 v) J p P m N k y x H W C K R :=
  ⟨t, KR_dep h.2.1 (fun z z1 z2 => stI_ne (by omega)) (fun z z1 z2 => stI_ne (by omega)), DW_same h.2.2 (stI_ne (by omega)) (stI_ne (by omega))⟩
theorem TS_dep (h : TS I J p m N k y x) (e0 : I' p = I p) (e1 : I' (p + 1) = I (p + 1)) (e2 : I' (p + 1 + 1) = I (p + 1 + 1)) (j0 : J' m = J m) (j6 : J' (m + 6) = J (m + 6)) : TS I' J' p m N k y x := by
  unfold TS TK TKp CT at *
  rw [e0, e1, e2, j0, j6]
  exact h
/-- an operation on the state alone -/
theorem GS_op (hP : p + 3 ≤ P) (h : GS I J p P m N k y x H W C K R) {R' : Nat} (kr : KR I' P (P + 10) (J' (m + 1)) H W C K R') (fI : ∀ z, z < P + 10 ∨ P + 17 ≤ z → I' z = I z) (fJ : ∀ z, z ≠ m + 1 → J' z = J z) : GS I' J' p P m N k y x H W C K R' :=
  ⟨TS_dep h.1 (fI _ (by omega)) (fI _ (by omega)) (fI _ (by omega)) (fJ _ (by omega)) (fJ _ (by omega)), kr, DW_same h.2.2 (fI _ (by omega)) (fI _ (by omega))⟩
theorem ITM_ok {cl : Option (Bool × JI)} {mo : Option JI} (a : cl = some (true, I')) (b : mo = some J') (h : GS I' J' p P m N k y x H W C K R) (hy : y0 ≤ y) : ITM p P m N y0 cl mo := ⟨true, I', J', a, b, Or.inl ⟨rfl, k, y, x, H, W, C, K, R, h, hy⟩⟩
theorem ITM_er {cl : Option (Bool × JI)} {mo : Option JI} (a : cl = some (false, I')) (b : mo = some J') (h : ER I' J' p m) : ITM p P m N y0 cl mo := ⟨false, I', J', a, b, Or.inr ⟨rfl, h⟩⟩
theorem g_adv (hP : p + 3 ≤ P) (h : GS I J p P m N k y x H W C K R) (hk : k ≠ 0) : ∃ I' J' k' y' x', s_X2_advance I (p + 1) = some I' ∧ s_X9_goes J m = some J' ∧ GS I' J' p P m N k' y' x' H W C K R ∧ y < y' ∧ I' p = I p := by
  obtain ⟨I', J', a, b, n, e⟩ := e_adv h.1
  obtain ⟨k', y', x', g, l1, l2, -⟩ := GS_next hP h (h.1.lt hk) n
  exact ⟨I', J', k', y', x', a, b, g, l2, e⟩
theorem g_col (hP : p + 3 ≤ P) (h : GS I J p P m N k y x H W C K R) : (∃ q I' J' k' y' x', q < 6 ∧ s_X5_takeColour I p P = some (true, I') ∧ s_X9_readColour J m = some (nI q, J') ∧ I' p 4 = nI q ∧ GS I' J' p P m N k' y' x' H W C K R ∧ y < y') ∨ (∃ I' J', s_X5_takeColour I p P = some (false, I') ∧ s_X9_readColour J m = some (0, J') ∧ ER I' J' p m) := by
  rcases e_col (P := P) h.1 with ⟨q, I', J', q1, q2, a, b, e, n⟩ | r
  · obtain ⟨k', y', x', g, l1, l2, -⟩ := GS_next hP h q2 n
    exact Or.inl ⟨q, I', J', k', y', x', q1, a, b, e, g, l2⟩
  · exact Or.inr r
theorem g_take (hP : p + 3 ≤ P) (h : GS I J p P m N k y x H W C K R) {lo hi : Int32} : (∃ v I' J' k' y' x', v ≤ 999 ∧ ¬ nI v < lo ∧ nI v ≤ hi ∧ s_X5_takeNumber I p P lo hi = some (true, I') ∧ s_X9_readNumber J m lo hi = some (nI v, J') ∧ I' p 4 = nI v ∧ GS I' J' p P m N k' y' x' H W C K R ∧ y < y') ∨ (∃ I' J', s_X5_takeNumber I p P lo hi = some (false, I') ∧ s_X9_readNumber J m lo hi = some (lo, J') ∧ ER I' J' p m) := by
  rcases e_take (P := P) h.1 (lo := lo) (hi := hi) with ⟨v, I', J', hk, v1, v2, v3, v4, a, b, e, n⟩ | r
  · obtain ⟨k', y', x', g, l1, l2, -⟩ := GS_next hP h (h.1.lt (by omega)) n
    exact Or.inl ⟨v, I', J', k', y', x', v1, v3, v4, a, b, e, g, l2⟩
  · exact Or.inr r
theorem g_num (hP : p + 3 ≤ P) (h : GS I J p P m N k y x H W C K R) {lo hi : Int32} : (∃ v, k = 2 ∧ v ≤ 999 ∧ ¬ nI v < lo ∧ nI v ≤ hi ∧ s_X5_seeNumber I p P lo hi = some (true, stI I p 4 (nI v)) ∧ s_X9_numberHere J m lo hi = some (nI v, J) ∧ GS (stI I p 4 (nI v)) J p P m N k y x H W C K R) ∨ (∃ I' J', s_X5_seeNumber I p P lo hi = some (false, I') ∧ s_X9_numberHere J m lo hi = some (lo, J') ∧ ER I' J' p m) := by
  rcases e_num (P := P) h.1 (lo := lo) (hi := hi) with ⟨v, hk, v1, v2, v3, v4, a, b, t⟩ | r
  · exact Or.inl ⟨v, hk, v1, v3, v4, a, b, GS_num hP h t⟩
  · exact Or.inr r
/-- an index at the token: a harness, a card, a warp -/
theorem g_see (hP : p + 3 ≤ P) (h : GS I J p P m N k y x H W C K R) : ((∃ v, v < H ∧ k = 2 ∧ s_X5_seeHarness I p P = some (true, stI I p 4 (nI v)) ∧ s_X9_indexHere J m 0 = some (nI v, J) ∧ GS (stI I p 4 (nI v)) J p P m N k y x H W C K R) ∨ (∃ I' J', s_X5_seeHarness I p P = some (false, I') ∧ s_X9_indexHere J m 0 = some (0, J') ∧ ER I' J' p m)) ∧ ((∃ v, v < C ∧ k = 2 ∧ v ≤ 999 ∧ (10 ≤ v → y + 2 ≤ x) ∧ s_X5_seeCard I p P = some (true, stI I p 4 (nI v)) ∧ s_X9_indexHere J m 3 = some (nI v, J) ∧ GS (stI I p 4 (nI v)) J p P m N k y x H W C K R) ∨ (∃ I' J', s_X5_seeCard I p P = some (false, I') ∧ s_X9_indexHere J m 3 = some (0, J') ∧ ER I' J' p m)) ∧ ((∃ v, v < W ∧ k = 2 ∧ s_X5_seeNumber I p P 0 ((I P 4) - 1) = some (true, stI I p 4 (nI v)) ∧ s_X9_indexHere J m 2 = some (nI v, J) ∧ GS (stI I p 4 (nI v)) J p P m N k y x H W C K R) ∨ (∃ I' J', s_X5_seeNumber I p P 0 ((I P 4) - 1) = some (false, I') ∧ s_X9_indexHere J m 2 = some (0, J') ∧ ER I' J' p m)) := by
  obtain ⟨⟨g0, g2, g3, g4, g5⟩, b1, b2, b3, b4, b5, b6⟩ := h.2.1.g
  obtain ⟨c0, c4, c7, c3, cs⟩ := h.2.1.c
  refine ⟨?_, ?_, ?_⟩
  · unfold s_X5_seeHarness
    rw [c0]
    rcases e_idx (P := P) (q := 0) h.1 (by omega) (show H < 2 ^ 31 by omega) g0 rfl with ⟨v, v0, hk, v1, v2, a, b, t⟩ | ⟨I', J', a, b, t⟩
    · exact Or.inl ⟨v, v0, hk, by rw [a, bd2_some], b, GS_num hP h t⟩
    · exact Or.inr ⟨I', J', by rw [a, bd2_some], b, t⟩
  · unfold s_X5_seeCard
    rw [c7]
    rcases e_idx (P := P) (q := 3) h.1 (by omega) (show C < 2 ^ 31 by omega) g3 rfl with ⟨v, v0, hk, v1, v2, a, b, t⟩ | ⟨I', J', a, b, t⟩
    · exact Or.inl ⟨v, v0, hk, v1, v2, by rw [a, bd2_some], b, GS_num hP h t⟩
    · exact Or.inr ⟨I', J', by rw [a, bd2_some], b, t⟩
  · rw [c4]
    rcases e_idx (P := P) (q := 2) h.1 (by omega) (show W < 2 ^ 31 by omega) g2 rfl with ⟨v, v0, hk, v1, v2, a, b, t⟩ | ⟨I', J', a, b, t⟩
    · exact Or.inl ⟨v, v0, hk, a, b, GS_num hP h t⟩
    · exact Or.inr ⟨I', J', a, b, t⟩
theorem g_takeH (hP : p + 3 ≤ P) (h : GS I J p P m N k y x H W C K R) : (∃ v I' J' k' y' x', v < H ∧ s_X5_takeHarness I p P = some (true, I') ∧ s_X9_readIndex J m 0 = some (nI v, J') ∧ I' p 4 = nI v ∧ GS I' J' p P m N k' y' x' H W C K R ∧ y < y') ∨ (∃ I' J', s_X5_takeHarness I p P = some (false, I') ∧ s_X9_readIndex J m 0 = some (0, J') ∧ ER I' J' p m) := by
  unfold s_X5_takeHarness s_X9_readIndex
  rcases (g_see hP h).1 with ⟨v, v0, hk, a, b, g⟩ | ⟨I', J', a, b, e⟩
  · obtain ⟨I', J', k', y', x', a2, b2, g2, l2, e2⟩ := g_adv hP g (by omega)
    rw [a, b, bd2_some, bd2_some, if_pos rfl, a2, b2, bd_some, bd_some]
    exact Or.inl ⟨v, I', J', k', y', x', v0, rfl, rfl, by rw [e2]; exact stI_at, g2, l2⟩
  · rw [a, b, bd2_some, bd2_some, if_neg Bool.false_ne_true, er_goes e.em, bd_some]
    exact Or.inr ⟨I', J', rfl, rfl, e⟩
theorem g_takeC (hP : p + 3 ≤ P) (h : GS I J p P m N k y x H W C K R) : (∃ v I' J' k' y' x', v < C ∧ s_X5_takeCard I p P = some (true, I') ∧ s_X9_readIndex J m 3 = some (nI v, J') ∧ I' p 4 = nI v ∧ GS I' J' p P m N k' y' x' H W C K R ∧ y < y') ∨ (∃ I' J', s_X5_takeCard I p P = some (false, I') ∧ s_X9_readIndex J m 3 = some (0, J') ∧ ER I' J' p m) := by
  unfold s_X5_takeCard s_X9_readIndex
  rcases (g_see hP h).2.1 with ⟨v, v0, hk, v1, v2, a, b, g⟩ | ⟨I', J', a, b, e⟩
  · obtain ⟨I', J', k', y', x', a2, b2, g2, l2, e2⟩ := g_adv hP g (by omega)
    rw [a, b, bd2_some, bd2_some, if_pos rfl, a2, b2, bd_some, bd_some]
    exact Or.inl ⟨v, I', J', k', y', x', v0, rfl, rfl, by rw [e2]; exact stI_at, g2, l2⟩
  · rw [a, b, bd2_some, bd2_some, if_neg Bool.false_ne_true, er_goes e.em, bd_some]
    exact Or.inr ⟨I', J', rfl, rfl, e⟩
theorem g_c10 (h : GS I J p P m N k y x H W C K R) : J m 10 = 0 := h.1.2.2.2.1
end ITS
