/-! the deck of a setup, both ways -/
noncomputable def cOP (p P : Nat) (code : Int32) (I : JI) : Option (Bool × JI) := if (I (p + 1) 4) = 4 then (lx (x0_openPart I (P + 5) code) fun I8 => bd (s_X2_advance I8 (p + 1)) fun I9 => some (true, I9)) else (bd2 (s_X5_fail I p P 1) fun z11 I10 => some (z11, I10))
theorem asc_deck : (asc "repeat" ∧ "repeat".toList.length = 6) ∧ (asc "mirror" ∧ "mirror".toList.length = 6) ∧ (asc "back" ∧ "back".toList.length = 4) := by unfold asc; decide +kernel
section DKL
variable {I J I0 I' J' : JI} {g g' g0 : Nat → Int32} {p P d m N k y x B H W C K R l : Nat} {z : Nat → Nat}
theorem d_advB (hP : p + 3 ≤ P) (h : DS I J I0 g0 p P m N k y x B C l z) : ∃ I' J' k' y' x', s_X2_advance I (p + 1) = some I' ∧ s_X9_goes J m = some J' ∧ DS I' J' I0 g0 p P m N k' y' x' B C l z ∧ x ≤ y' ∧ I' p = I p := by
  obtain ⟨I', J', a, b, ⟨k', y', x', n1, n2, n3, n4, n5⟩, e⟩ := e_adv h.1
  exact ⟨I', J', k', y', x', a, b, DS_tok hP h n1 (Nat.le_refl _) n4 n5 (ff_X9_goes b (by decide) (by decide) (by decide) (by decide)), n2, e⟩
theorem opening_eq {b1 b2 : Bool} (h1 : s_X2_isWord I (p + 1) "repeat" = some b1) (h2 : s_X2_isWord I (p + 1) "mirror" = some b2) : s_X5_readOpening I p P = if (decide (3 ≤ I (P + 5) 7)) = true then (bd2 (s_X5_fail I p P 4) fun z40 I39 => some (z40, I39)) else (bd (s_X2_advance I (p + 1)) fun I5 => if b1 = true then (bd2 (s_X5_seeNumber I5 p P 1 20) fun z13 I12 => if z13 = true then (lx (200 + (I12 p 4)) fun v15 => bd (s_X2_advance I12 (p + 1)) fun I16 => cOP p P v15 I16) else (some (false, I12))) else cOP p P (if b2 = true then 101 else 102) I5) := by
  unfold s_X5_readOpening
  rw [h1, h2, bd_some, bd_some]
  cases b2 <;> rfl
/-- what an opening comes to -/
def DOR (I0 : JI) (g0 : Nat → Int32) (p P m N y C l : Nat) (cl : Option (Bool × JI)) (mo : Option JI) : Prop := (∃ I' J' k' y' x' z', cl = some (true, I') ∧ mo = some J' ∧ DS I' J' I0 g0 p P m N k' y' x' (y' + eK k') C l z' ∧ y < y' ∧ z' l = 0 ∧ mxF (I' (P + 5) 4) 1 = I' (P + 5) 4) ∨ (∃ I' J', cl = some (false, I') ∧ mo = some J' ∧ ER I' J' p m)
theorem d_op (hP : p + 3 ≤ P) {y0 : Nat} (h : DS I J I0 g0 p P m N k y x B C l z) {c : Nat} (hl3 : l < 3) (hc : c = 101 ∨ c = 102 ∨ (201 ≤ c ∧ c ≤ 220)) (hB5 : B ≤ 505) (hB : B + pw (nI c) + 1 ≤ y + 1) (hpw : 3 ≤ pw (nI c)) (hy0 : y0 < y) : DOR I0 g0 p P m N y0 C (l + 1) (cOP p P (nI c) I) (mOpT m (pcd (nI c)) J) := by
  unfold cOP mOpT
  rw [is_opens h.1]
  by_cases hk : k = 4
  · have hyx := h.1.lt (by omega)
    obtain ⟨I', J', k', y', x', a, b, g1, l1, l2⟩ := DS_open hP h hl3 hc hB5 (fun y' h1 => by omega) hpw
    rw [if_pos (show I (p + 1) 4 = 4 from (kind_iff h.1 (q := 4) (by omega)).mpr hk), decide_eq_true hk, if_pos rfl, lx_s, a, b, bd_some]
    exact Or.inl ⟨I', J', k', y', x', _, rfl, rfl, g1, by omega, upN_eq, l2⟩
  · obtain ⟨-, ⟨I4, a4, e4⟩, -⟩ := d_fail h
    rw [if_neg (show ¬ I (p + 1) 4 = 4 from fun q => hk ((kind_iff h.1 (q := 4) (by omega)).mp q)), decide_eq_false hk, if_neg Bool.false_ne_true, a4, bd2_some, lx_s, er_mOp e4.em]
    exact Or.inr ⟨I4, _, rfl, rfl, e4⟩
theorem it_dopen (hP : p + 3 ≤ P) (h : DS I J I0 g0 p P m N k y x (y + eK k) C l z) (hk : k = 1) {b1 b2 : Bool} (u1 : s_X2_isWord I (p + 1) "repeat" = some b1) (v1 : s_X9_isWord J m "repeat" = some b1) (u2 : s_X2_isWord I (p + 1) "mirror" = some b2) (v2 : s_X9_isWord J m "mirror" = some b2) (w1 : b1 = true → x = y + 6) (w2 : b2 = true → x = y + 6) (w3 : b1 = false → b2 = false → x = y + 4) : DOR I0 g0 p P m N y C (l + 1) (s_X5_readOpening I p P) (s_X9_opensPart J m) := by
  have hb := h.1.b
  have hl := h.2.2.1
  have hyx := h.1.lt (by omega)
  rw [opening_eq u1 u2, opens_eq v1 v2, hl.1.2.1, hl.1.2.2.1]
  obtain ⟨⟨I4, a4, e4⟩, -, r4⟩ := d_fail h
  by_cases q : l = 3
  · subst q
    rw [if_pos (show decide ((3 : Int32) ≤ nI 3) = true by decide), if_pos (show nI 3 = 3 from rfl), a4, bd2_some, er_mOpG e4.em]
    exact Or.inr ⟨I4, _, rfl, rfl, e4⟩
  · have hl3 : l < 3 := by have := hl.1.1; omega
    have hE : eK k = 1 := by unfold eK; rw [if_neg (by omega)]
    rw [hE] at h
    rw [if_neg (show ¬ decide ((3 : Int32) ≤ nI l) = true from fun e => nI_ge (b := 3) hl3 (by omega) (of_decide_eq_true e)), if_neg (show ¬ nI l = 3 from fun e => q ((nI_eq (b := 3) (by omega) (by omega)).mp e)), r4]
    unfold mOpG
    obtain ⟨I1, J1, k1, y1, x1, a1, c1, g1, l1, -⟩ := d_advB hP h
    have hb1 := g1.1.b
    rw [a1, c1, bd_some, bd_some]
    cases b1
    · rw [if_neg Bool.false_ne_true, if_neg Bool.false_ne_true]
      cases b2
      · rw [if_neg Bool.false_ne_true, if_neg Bool.false_ne_true]
        have hx := w3 rfl rfl
        have e1 : pw (nI 102) = 3 := by decide +kernel
        have := d_op hP (y0 := y) g1 (c := 102) hl3 (by omega) (by omega) (by rw [e1]; omega) (by omega) (by omega)
        rw [show pcd (nI 102) = nI 201 by decide +kernel] at this
        exact this
      · rw [if_pos rfl, if_pos rfl]
        have hx := w2 rfl
        have e1 : pw (nI 101) = 3 := by decide +kernel
        have := d_op hP (y0 := y) g1 (c := 101) hl3 (by omega) (by omega) (by rw [e1]; omega) (by omega) (by omega)
        rw [show pcd (nI 101) = nI 200 by decide +kernel] at this
        exact this
    · rw [if_pos rfl, if_pos rfl]
      have hx := w1 rfl
      unfold s_X9_readNumber
      rcases e_num (P := P) g1.1 (lo := 1) (hi := 20) with ⟨v, hk1, v9, v10, v3, v4, a, b, t⟩ | ⟨I', J', a, b, t⟩
      · have hv1 : 1 ≤ v := by
          by_cases e : 1 ≤ v
          · exact e
          · exact absurd (nI_lt (b := 1) (by omega) (by omega)) v3
        have hv2 : v ≤ 20 := (nI_leL (n := 20) (by omega) (by omega)).mp v4
        have hy1 := g1.1.lt (by omega)
        obtain ⟨I2, J2, k2, y2, x2, a2, c2, g2, l2, e2⟩ := d_advB hP (DS_num hP g1 (nI v))
        rw [a, b, bd2_some, bd2_some, if_pos rfl, lx_s, stI_at, a2, c2, bd_some, bd_some, bd2_some, show (200 : Int32) = nI 200 from rfl, nI_add, show (100 : Int32) = nI 100 from rfl, nI_add]
        have hpw : 4 ≤ pw (nI (200 + v)) ∧ pw (nI (200 + v)) ≤ 5 := (by decide +kernel : ∀ v : Fin 21, 1 ≤ v.val → 4 ≤ pw (nI (200 + v.val)) ∧ pw (nI (200 + v.val)) ≤ 5) ⟨v, by omega⟩ hv1
        have := d_op hP (y0 := y) g2 (c := 200 + v) hl3 (by omega) (by omega) (by omega) (by omega) (by omega)
        rw [pcdN (by omega), if_neg (show ¬ 200 + v = 101 by omega), if_neg (show ¬ 200 + v = 102 by omega), show 200 + v - 100 = 100 + v by omega] at this
        exact this
      · rw [a, b, bd2_some, bd2_some, if_neg Bool.false_ne_true, er_goes t.em, bd_some, bd2_some, er_mOpT t.em]
        exact Or.inr ⟨I', J', rfl, rfl, t⟩
theorem it_dcard (hP : p + 3 ≤ P) (kr : KR I0 P (P + 10) g0 H W C K 0) (h : DS I J I0 g0 p P m N k y x (y + eK k) C l z) : (∃ I' J' k' y' x' z', s_X5_readCardOfDeck I p P = some (true, I') ∧ s_X9_readsDeckCard J m = some J' ∧ DS I' J' I0 g0 p P m N k' y' x' (y' + eK k') C l z' ∧ y < y' ∧ 0 < z' l ∧ mxF (I' (P + 5) 4) 1 = I' (P + 5) 4) ∨ (∃ I' J', s_X5_readCardOfDeck I p P = some (false, I') ∧ s_X9_readsDeckCard J m = some J' ∧ ER I' J' p m) := by
  have hC := kr.g.2.2.2.1
  have hb := h.1.b
  have hl := h.2.2.1
  have c7 : I P 7 = nI C := by rw [h.2.1.1 P (by omega) (by omega) (by omega)]; exact kr.c.2.2.1
  have g3 : J (m + 1) 3 = nI C := by rw [h.2.1.2.1 3 (by omega) (by omega) (by omega)]; exact kr.g.1.2.2.1
  unfold s_X5_readCardOfDeck s_X9_readsDeckCard s_X5_seeCard
  rw [c7]
  rcases e_idx (P := P) (q := 3) h.1 (by omega) (show C < 2 ^ 31 by omega) g3 rfl with ⟨v, v0, hk, v1, v2, a, b, t⟩ | ⟨I1, J1, a, b, e⟩
  · have b' : s_X9_indexHere J m 3 = some (nI v, J) := b
    have hyx := h.1.lt (by omega)
    have hE : eK k = 0 := by unfold eK; rw [if_pos hk]
    rw [hE] at h
    have hn := DS_num hP h (nI v)
    have hln := hn.2.2.1
    have hz8 := hl.2.1 l (Nat.le_refl l)
    have hl3 := hl.1.1
    rw [a, b', bd2_some, bd2_some, bd2_some, if_pos rfl, stI_at, hl.1.2.2.1, gd_in (by omega) (by omega), cl_nI (by omega), hz8.2.1]
    by_cases q : z l = 100
    · obtain ⟨⟨I4, a4, e4⟩, -, r4⟩ := d_fail hn
      have hB2 : x0_addCardB (stI I p 4 (nI v)) (P + 5) = false := by
        unfold x0_addCardB
        rw [DLs_start hln, hln.1.2.2.2, nI_sub (by omega), show stt z l + z l - stt z l = z l by omega, q]
        rfl
      have hA : x0_addCard (stI I p 4 (nI v)) (P + 5) (nI v) = stI I p 4 (nI v) := by
        unfold x0_addCard
        rw [hB2, if_neg Bool.false_ne_true]
      rw [if_pos (show nI (z l) = 100 by rw [q]; rfl), hB2, hA, lx_s false, lx_s (stI I p 4 (nI v)), if_neg Bool.false_ne_true, a4, bd2_some, lx_s, if_neg e4.em.le]
      exact Or.inr ⟨I4, _, rfl, rfl, e4⟩
    · obtain ⟨-, -, r4⟩ := d_fail hn
      obtain ⟨hB2, J1, J2, o1, o2, hD, hd⟩ := DS_card hP hn (by omega) (show z l < 100 by omega) v0 hC
      have hpw : pw (nI v) = if v < 10 then 2 else 3 := (by decide +kernel : ∀ v : Fin 12, pw (nI v.val) = if v.val < 10 then 2 else 3) ⟨v, by omega⟩
      obtain ⟨I5, J5, k5, y5, x5, a5, b5, g5, l5, -, w5⟩ := d_adv hP hD (fun k' y' h1 h2 => by
        have h3 := h2 hk
        rw [hpw]
        unfold eK
        split <;> split <;> omega)
      rw [if_neg (show ¬ nI (z l) = 100 from fun e => q ((nI_eq (b := 100) (by omega) (by omega)).mp e)), hB2, lx_s true, lx_s (x0_addCard _ _ _), if_pos rfl, a5, bd_some, lx_s, r4, if_pos (show J m 10 ≤ 0 by rw [h.1.2.2.2.1]; exact Int32.le_refl 0), o1, bd_some, o2, bd_some, b5, bd_some]
      exact Or.inl ⟨I5, J5, k5, y5, x5, _, rfl, rfl, g5, by omega, by rw [upN_eq]; omega, by rw [w5 _ (by omega)]; exact hd⟩
  · have b' : s_X9_indexHere J m 3 = some (0, J1) := b
    have hl3 := hl.1.1
    rw [a, b', bd2_some, bd2_some, bd2_some, if_neg Bool.false_ne_true, ff_X9_indexHere b' (by decide) (by decide), hl.1.2.2.1, gd_in (by omega) (by omega)]
    right
    by_cases e2 : J1 (m + 8) (nI l).toNatClampNeg = 100
    · rw [if_pos e2, lx_s, er_limits e.em, if_neg e.em.le]
      exact ⟨I1, J1, rfl, rfl, e⟩
    · rw [if_neg e2, lx_s, er_limits e.em, if_neg e.em.le]
      exact ⟨I1, J1, rfl, rfl, e⟩
theorem er_close0 (h : DS I J I0 g0 p P m N k y x B C (l + 1) z) (h0 : z (l + 1) = 0) (e : EM (s_X9_faults J m 1) m) : s_X9_closesPart J m = some (s_X9_faults J m 1) := by
  have hl := h.2.2.1
  have hl3 := hl.1.1
  have h8 := (hl.2.1 (l + 1) (Nat.le_refl _)).2.1
  unfold s_X9_closesPart
  rw [hl.1.2.2.1, gd_in (by omega) (by omega), cl_nI (by omega), lx_s (J (m + 8) (l + 1)), gd_in (by omega) (by omega), lx_s (J (m + 9) (l + 1)), h8, if_pos (show nI (z (l + 1)) = 0 by rw [h0]; rfl), lx_s (s_X9_faults J m 1), er_limits e, er_limits e]
  by_cases q : (100 : Int32) < s_X9_picksOf m (J (m + 9) (l + 1)) (nI (z (l + 1)))
  · rw [if_pos q, lx_s, if_neg e.le]
  · rw [if_neg q, ff_X9_faults (by decide) (by decide), hl.1.2.2.1, show nI (l + 1) - 1 = nI l from nI_pred l, gd_in (show l < 4 by omega) (by omega)]
    by_cases q2 : s_X9_faults J m 1 (m + 8) (nI l).toNatClampNeg + s_X9_picksOf m (J (m + 9) (l + 1)) (nI (z (l + 1))) ≤ 100
    · rw [if_pos q2, lx_s, if_neg e.le]
    · rw [if_neg q2, lx_s, if_neg e.le]
theorem bracket_eq {b1 b2 b3 : Bool} (h1 : s_X9_isWord J m "repeat" = some b1) (h2 : s_X9_isWord J m "mirror" = some b2) (h3 : s_X9_isWord J m "back" = some b3) : s_X9_isBracketWord J m = some (b1 || b2 || b3) := by
  unfold s_X9_isBracketWord
  rw [h1, h2, h3, bd_some, bd_some, bd_some]
  cases b1 <;> cases b2 <;> cases b3 <;> rfl
/-- what the loop over a deck comes to -/
def DLR (I0 : JI) (g0 : Nat → Int32) (p P m N y C : Nat) (cl : Option ((Bool × JI) ⊕ (Int32 × Int32 × JI))) (mo : Option JI) : Prop := ∃ o J', cl = some o ∧ mo = some J' ∧ ((∃ I' k' y' x' z', o = .inl (true, I') ∧ DS I' J' I0 g0 p P m N k' y' x' (y' + eK k') C 0 z' ∧ mxF (I' (P + 5) 4) 1 = I' (P + 5) 4 ∧ y ≤ y') ∨ (∃ I', o = .inl (false, I') ∧ ER I' J' p m))
theorem DLR_er {cl : Option ((Bool × JI) ⊕ (Int32 × Int32 × JI))} {mo : Option JI} (a : cl = some (.inl (false, I'))) (b : mo = some J') (e : ER I' J' p m) : DLR I0 g0 p P m N y C cl mo := ⟨_, J', a, b, Or.inr ⟨I', rfl, e⟩⟩
theorem l_deck (hP : p + 3 ≤ P) (kr : KR I0 P (P + 10) g0 H W C K 0) (q1 : Int32) : ∀ (D f f' j : Nat) (I J : JI) (k y x l w1 : Nat) (z : Nat → Nat), N - y < D → D ≤ f → D ≤ f' → DS I J I0 g0 p P m N k y x (y + eK k) C l z → (w1 = 0 ∨ w1 = 1) → (0 < l → (w1 = 1 ↔ z l = 0)) → (w1 = 0 ∨ 0 < l → mxF (I (P + 5) 4) 1 = I (P + 5) 4) → j + 1 ≤ y → (0 < l ∨ w1 = 1 ∨ k = 2 ∨ s_X9_isBracketWord J m = some true) → DLR I0 g0 p P m N y C (s_X5_readDeck_L30 p P f (nI w1) (nI j) I) (s_X9_readsDeck_L98 m q1 f' J) := by
  intro D
  induction D with
  | zero => intro f f' j I J k y x l w1 z h; omega
  | succ D ih =>
    intro f f' j I J k y x l w1 z hd hf hf' h hw hwz hdep hj hent
    obtain ⟨f, rfl⟩ : ∃ g, f = g + 1 := ⟨f - 1, by omega⟩
    obtain ⟨f', rfl⟩ : ∃ g, f' = g + 1 := ⟨f' - 1, by omega⟩
    have hb := h.1.b
    have hl := h.2.2.1
    have hl3 := hl.1.1
    obtain ⟨⟨as1, ln1⟩, ⟨as2, ln2⟩, ⟨as3, ln3⟩⟩ := asc_deck
    have cont : ∀ (I' J' : JI) (k' y' x' l' w1' : Nat) (z' : Nat → Nat), DS I' J' I0 g0 p P m N k' y' x' (y' + eK k') C l' z' → (w1' = 0 ∨ w1' = 1) → (0 < l' → (w1' = 1 ↔ z' l' = 0)) → mxF (I' (P + 5) 4) 1 = I' (P + 5) 4 → (l' = 0 → w1' = 0) → y < y' → DLR I0 g0 p P m N y C (s_X5_readDeck_L30 p P f (nI w1') (nI (j + 1)) I') (if (J' m 10) = 0 then (if 0 < (J' m 20) then (s_X9_readsDeck_L98 m q1 f' J') else (if (s_X9_is J' m 3) = true then (s_X9_readsDeck_L98 m q1 f' J') else (bd (s_X9_isBracketWord J' m) fun z22 => if z22 = true then (s_X9_readsDeck_L98 m q1 f' J') else (some (J'))))) else (some (J'))) := by
      intro I' J' k' y' x' l' w1' z' h' hw' hwz' hdep' hl0 hy'
      have hb' := h'.1.b
      have hl' := h'.2.2.1
      have hl3' := hl'.1.1
      have go : (0 < l' ∨ w1' = 1 ∨ k' = 2 ∨ s_X9_isBracketWord J' m = some true) → DLR I0 g0 p P m N y C (s_X5_readDeck_L30 p P f (nI w1') (nI (j + 1)) I') (s_X9_readsDeck_L98 m q1 f' J') := fun he => by
        obtain ⟨o, J'', o1, o2, o3⟩ := ih f f' (j + 1) I' J' k' y' x' l' w1' z' (by omega) (by omega) (by omega) h' hw' hwz' (fun _ => hdep') (by omega) he
        refine ⟨o, J'', o1, o2, ?_⟩
        rcases o3 with ⟨I2, k2, y2, x2, z2, e1, e2, e3, e4⟩ | e
        · exact Or.inl ⟨I2, k2, y2, x2, z2, e1, e2, e3, by omega⟩
        · exact Or.inr e
      rw [if_pos h'.1.2.2.2.1, hl'.1.2.2.1, is_digits h'.1]
      by_cases q1 : 0 < l'
      · rw [if_pos (nI_p0 q1 (by omega))]; exact go (Or.inl q1)
      · have q1' : l' = 0 := by omega
        have q2 := hl0 q1'
        subst q1'; subst q2
        rw [if_neg (show ¬ (0 : Int32) < nI 0 by decide)]
        by_cases q3 : k' = 2
        · rw [decide_eq_true q3, if_pos rfl]; exact go (Or.inr (Or.inr (Or.inl q3)))
        · rw [decide_eq_false q3, if_neg Bool.false_ne_true]
          obtain ⟨b1, u1, v1, -⟩ := e_word h'.1 as1 ln1 (by omega)
          obtain ⟨b2, u2, v2, -⟩ := e_word h'.1 as2 ln2 (by omega)
          obtain ⟨b3, u3, v3, -⟩ := e_word h'.1 as3 ln3 (by omega)
          have hbr := bracket_eq v1 v2 v3
          rw [hbr, bd_some]
          by_cases q4 : (b1 || b2 || b3) = true
          · rw [if_pos q4]; exact go (Or.inr (Or.inr (Or.inr (by rw [hbr, q4]))))
          · rw [if_neg q4]
            have e1 : b1 = false := by cases b1; rfl; simp at q4
            have e2 : b2 = false := by cases b2; rfl; simp at q4
            have e3 : b3 = false := by cases b3; rfl; simp at q4
            rw [e1] at u1; rw [e2] at u2; rw [e3] at u3
            obtain ⟨f, rfl⟩ : ∃ g, f = g + 1 := ⟨f - 1, by omega⟩
            have hex : s_X5_readDeck_L30 p P (f + 1) (nI 0) (nI (j + 1)) I' = some (.inl (true, I')) := by
              rw [s_X5_readDeck_L30, if_neg (show ¬ (500 : Int32) ≤ nI (j + 1) from nI_ge (b := 500) (by omega) (by omega)), if_pos (show I' (P + 5) 7 ≤ 0 by rw [hl'.1.2.1]; exact Int32.le_refl 0), if_neg (show ¬ I' (p + 1) 4 = 2 from fun q => q3 ((kind_iff h'.1 (q := 2) (by omega)).mp q)), u1, bd_some, if_neg Bool.false_ne_true, u2, bd_some, if_neg Bool.false_ne_true, u3, bd_some, if_neg Bool.false_ne_true]
              by_cases q5 : I' (p + 1) 4 = 5
              · rw [if_pos q5, if_pos (show nI 0 = 0 from rfl)]
              · rw [if_neg q5, if_pos (show nI 0 = 0 from rfl)]
            exact ⟨_, J', hex, rfl, Or.inl ⟨I', k', y', x', z', rfl, h', hdep', by omega⟩⟩
    obtain ⟨b1, u1, v1, t1⟩ := e_word h.1 as1 ln1 (by omega)
    obtain ⟨b2, u2, v2, t2⟩ := e_word h.1 as2 ln2 (by omega)
    obtain ⟨b3, u3, v3, t3⟩ := e_word h.1 as3 ln3 (by omega)
    have hbr := bracket_eq v1 v2 v3
    have h500 : ¬ (500 : Int32) ≤ nI j := nI_ge (b := 500) (by omega) (by omega)
    rw [s_X9_readsDeck_L98]
    unfold s_X9_readsPart
    rw [is_digits h.1, hbr, is_closes h.1, hl.1.2.2.1]
    by_cases hk2 : k = 2
    · have kd : I (p + 1) 4 = 2 := (kind_iff h.1 (q := 2) (by omega)).mpr hk2
      have step : s_X5_readDeck_L30 p P (f + 1) (nI w1) (nI j) I = (bd2 (s_X5_readCardOfDeck I p P) fun z34 I33 => if z34 = true then (s_X5_readDeck_L30 p P f 0 ((nI j) + 1) I33) else (some (.inl (false, I33)))) := by
        rw [s_X5_readDeck_L30, if_neg h500]
        by_cases e : I (P + 5) 7 ≤ 0
        · rw [if_pos e, if_pos kd]
        · rw [if_neg e, if_pos kd]
      rw [step, decide_eq_true hk2, if_pos rfl]
      rcases it_dcard hP kr h with ⟨I', J', k', y', x', z', a, b, g, r1, r2, r3⟩ | ⟨I', J', a, b, e⟩
      · rw [a, b, bd2_some, bd_some, bd_some, if_pos rfl, nI_1]
        exact cont I' J' k' y' x' l 0 z' g (Or.inl rfl) (fun _ => ⟨fun q => by omega, fun q => by omega⟩) r3 (fun _ => rfl) r1
      · rw [a, b, bd2_some, bd_some, bd_some, if_neg Bool.false_ne_true, if_neg e.em.ne]
        exact DLR_er rfl rfl e
    · have kd : ¬ I (p + 1) 4 = 2 := fun q => hk2 ((kind_iff h.1 (q := 2) (by omega)).mp q)
      rw [decide_eq_false hk2, if_neg Bool.false_ne_true, bd_some]
      by_cases hbb : (b1 || b2 || b3) = true
      · have hk1 : k = 1 := by
          cases b1
          · cases b2
            · cases b3
              · simp at hbb
              · exact (t3 rfl).1
            · exact (t2 rfl).1
          · exact (t1 rfl).1
        have step : s_X5_readDeck_L30 p P (f + 1) (nI w1) (nI j) I = (bd2 (s_X5_readOpening I p P) fun z9 I8 => if z9 = true then (s_X5_readDeck_L30 p P f 1 ((nI j) + 1) I8) else (some (.inl (false, I8)))) := by
          rw [s_X5_readDeck_L30, if_neg h500]
          by_cases e : I (P + 5) 7 ≤ 0
          · rw [if_pos e, if_neg kd, u1, u2, u3, bd_some, bd_some, bd_some]
            cases b1 <;> cases b2 <;> cases b3 <;> simp at hbb <;> rfl
          · rw [if_neg e, if_neg kd, u1, u2, u3, bd_some, bd_some, bd_some]
            cases b1 <;> cases b2 <;> cases b3 <;> simp at hbb <;> rfl
        rw [step, if_pos hbb]
        rcases it_dopen hP h hk1 u1 v1 u2 v2 (fun q => (t1 q).2) (fun q => (t2 q).2) (fun q1 q2 => by
          rw [q1, q2] at hbb
          exact (t3 (by simpa using hbb)).2) with ⟨I', J', k', y', x', z', a, b, g, r1, r2, r3⟩ | ⟨I', J', a, b, e⟩
        · rw [a, b, bd2_some, bd_some, bd_some, if_pos rfl, nI_1]
          exact cont I' J' k' y' x' (l + 1) 1 z' g (Or.inr rfl) (fun _ => ⟨fun _ => r2, fun _ => rfl⟩) r3 (fun q => by omega) r1
        · rw [a, b, bd2_some, bd_some, bd_some, if_neg Bool.false_ne_true, if_neg e.em.ne]
          exact DLR_er rfl rfl e
      · have e1 : b1 = false := by cases b1; rfl; simp at hbb
        have e2 : b2 = false := by cases b2; rfl; simp at hbb
        have e3 : b3 = false := by cases b3; rfl; simp at hbb
        rw [e1] at u1; rw [e2] at u2; rw [e3] at u3
        rw [if_neg hbb]
        obtain ⟨-, ⟨I4, a4, e4⟩, -⟩ := d_fail h
        by_cases hk5 : k = 5
        · have kd5 : I (p + 1) 4 = 5 := (kind_iff h.1 (q := 5) (by omega)).mpr hk5
          rw [decide_eq_true hk5, if_pos rfl]
          by_cases hl0 : l = 0
          · subst hl0
            have hw1 : w1 = 1 := by
              rcases hent with q | q | q | q
              · omega
              · exact q
              · omega
              · rw [hbr] at q; exact absurd (Option.some.inj q) hbb
            have step : s_X5_readDeck_L30 p P (f + 1) (nI w1) (nI j) I = some (.inl (false, I4)) := by
              rw [s_X5_readDeck_L30, if_neg h500, if_pos (show I (P + 5) 7 ≤ 0 by rw [hl.1.2.1]; exact Int32.le_refl 0), if_neg kd, u1, bd_some, if_neg Bool.false_ne_true, u2, bd_some, if_neg Bool.false_ne_true, u3, bd_some, if_neg Bool.false_ne_true, if_pos kd5, hw1, if_neg (show ¬ nI 1 = 0 by decide), a4, bd2_some, if_neg Bool.false_ne_true]
            rw [step, if_pos (show nI 0 ≤ 0 from Int32.le_refl 0), lx_s, bd_some, if_neg e4.em.ne]
            exact DLR_er rfl rfl e4
          · obtain ⟨l, rfl⟩ : ∃ l', l = l' + 1 := ⟨l - 1, by omega⟩
            have hn0 : ¬ nI (l + 1) ≤ 0 := nI_nle (by omega) (by omega)
            rw [if_neg hn0]
            by_cases hw1 : w1 = 1
            · have step : s_X5_readDeck_L30 p P (f + 1) (nI w1) (nI j) I = some (.inl (false, I4)) := by
                rw [s_X5_readDeck_L30, if_neg h500, if_neg (show ¬ I (P + 5) 7 ≤ 0 by rw [hl.1.2.1]; exact hn0), if_neg kd, u1, bd_some, if_neg Bool.false_ne_true, u2, bd_some, if_neg Bool.false_ne_true, u3, bd_some, if_neg Bool.false_ne_true, if_pos kd5, hw1, if_neg (show ¬ nI 1 = 0 by decide), a4, bd2_some, if_neg Bool.false_ne_true]
              rw [step, er_close0 h ((hwz (by omega)).mp hw1) e4.em, bd_some, bd_some, if_neg e4.em.ne]
              exact DLR_er rfl rfl e4
            · have hw0 : w1 = 0 := by omega
              have hz0 : 0 < z (l + 1) := by
                rcases Nat.eq_zero_or_pos (z (l + 1)) with q | q
                · exact absurd ((hwz (by omega)).mpr q) hw1
                · exact q
              have hyx := h.1.lt (by omega)
              have step : s_X5_readDeck_L30 p P (f + 1) (nI w1) (nI j) I = (bd2 (s_X5_readClosing I p P) fun z61 I60 => if z61 = true then (s_X5_readDeck_L30 p P f (nI w1) ((nI j) + 1) I60) else (some (.inl (false, I60)))) := by
                rw [s_X5_readDeck_L30, if_neg h500, if_neg (show ¬ I (P + 5) 7 ≤ 0 by rw [hl.1.2.1]; exact hn0), if_neg kd, u1, bd_some, if_neg Bool.false_ne_true, u2, bd_some, if_neg Bool.false_ne_true, u3, bd_some, if_neg Bool.false_ne_true, if_pos kd5, hw0, if_pos (show nI 0 = 0 from rfl)]
              have hE : eK k = 1 := by unfold eK; rw [if_neg hk2]
              rw [step]
              rcases DS_close hP h hz0 (by omega) (fun y' h1 => by omega) with ⟨I', J', k', y', x', z', a, b, g, r1, r2, r3⟩ | ⟨I', J', a, b, e⟩
              · rw [a, b, bd2_some, bd_some, bd_some, if_pos rfl, nI_1]
                exact cont I' J' k' y' x' l w1 z' g hw (fun _ => ⟨fun q => absurd q hw1, fun q => by omega⟩) (by rw [r3]; exact hdep (Or.inl hw0)) (fun _ => hw0) (by omega)
              · rw [a, b, bd2_some, bd_some, bd_some, if_neg Bool.false_ne_true, if_neg e.em.ne]
                exact DLR_er rfl rfl e
        · have kd5 : ¬ I (p + 1) 4 = 5 := fun q => hk5 ((kind_iff h.1 (q := 5) (by omega)).mp q)
          have step : s_X5_readDeck_L30 p P (f + 1) (nI w1) (nI j) I = some (.inl (false, I4)) := by
            rw [s_X5_readDeck_L30, if_neg h500]
            by_cases e : I (P + 5) 7 ≤ 0
            · have hl0 : l = 0 := by
                rw [hl.1.2.1] at e
                exact Nat.le_zero.mp ((nI_leI (b := 0) (by omega) (by omega)).mp e)
              have hw1 : w1 = 1 := by
                rcases hent with q | q | q | q
                · omega
                · exact q
                · omega
                · rw [hbr] at q; exact absurd (Option.some.inj q) hbb
              rw [if_pos e, if_neg kd, u1, bd_some, if_neg Bool.false_ne_true, u2, bd_some, if_neg Bool.false_ne_true, u3, bd_some, if_neg Bool.false_ne_true, if_neg kd5, hw1, if_neg (show ¬ nI 1 = 0 by decide), a4, bd2_some, if_neg Bool.false_ne_true]
            · rw [if_neg e, if_neg kd, u1, bd_some, if_neg Bool.false_ne_true, u2, bd_some, if_neg Bool.false_ne_true, u3, bd_some, if_neg Bool.false_ne_true, if_neg kd5, a4, bd2_some, if_neg Bool.false_ne_true]
          rw [step, decide_eq_false hk5, if_neg Bool.false_ne_true, lx_s, bd_some, if_neg e4.em.ne]
          exact DLR_er rfl rfl e4
end DKL
