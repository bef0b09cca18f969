/-! going on to the next token, both ways -/
def TKp (I J : JI) (a m N x : Nat) : Prop := (N ≤ 500 ∧ x ≤ N) ∧ (I a 2 = nI N ∧ I a 3 = nI x ∧ J m 12 = nI N ∧ J m 13 = nI x) ∧ ∀ i, i < N → BYt (I (a + 1) i) (J (m + 6) i)
def TK (I J : JI) (a m N k y x : Nat) : Prop := TKp I J a m N x ∧ (I a 4 = nI k ∧ J m 15 = nI (tkM k) ∧ I a 5 = nI y ∧ J m 14 = nI y) ∧ (k ≤ 6 ∧ y ≤ x ∧ (k = 0 → y = N) ∧ (k ≠ 0 → y < x)) ∧ (k = 1 → x ≤ y + 7 ∧ ∀ i, y ≤ i → i < x → s_X2_isLetter (I (a + 1) i) = true) ∧ (k = 2 → (x < N → s_X2_isDigit (I (a + 1) x) = false) ∧ s_X2_isDigit (I (a + 1) y) = true ∧ ∃ v, v ≤ 999 ∧ I a 6 = nI v ∧ J m 16 = nI v ∧ (10 ≤ v → y + 2 ≤ x))
section ADV
variable {I J : JI} {a m N x : Nat}
theorem TK_mk {k y : Nat} {I' J' : JI} (hN : N ≤ 500) (hx : x ≤ N) (hb : ∀ i, i < N → BYt (I (a + 1) i) (J (m + 6) i)) (e1 : I' (a + 1) = I (a + 1)) (e2 : J' (m + 6) = J (m + 6)) (i2 : I' a 2 = nI N) (i3 : I' a 3 = nI x) (j2 : J' m 12 = nI N) (j3 : J' m 13 = nI x) (i4 : I' a 4 = nI k) (j4 : J' m 15 = nI (tkM k)) (i5 : I' a 5 = nI y) (j5 : J' m 14 = nI y) (hk : k ≤ 6) (hy : y ≤ x) (h0 : k = 0 → y = N) (h1 : k ≠ 0 → y < x) (hw : k = 1 → x ≤ y + 7 ∧ ∀ i, y ≤ i → i < x → s_X2_isLetter (I (a + 1) i) = true) (hd : k = 2 → (x < N → s_X2_isDigit (I (a + 1) x) = false) ∧ s_X2_isDigit (I (a + 1) y) = true ∧ ∃ v, v ≤ 999 ∧ I' a 6 = nI v ∧ J' m 16 = nI v ∧ (10 ≤ v → y + 2 ≤ x)) : TK I' J' a m N k y x := by
  refine ⟨⟨⟨hN, hx⟩, ⟨i2, i3, j2, j3⟩, ?_⟩, ⟨i4, j4, i5, j5⟩, ⟨hk, hy, h0, h1⟩, ?_, ?_⟩
  · rw [e1, e2]; exact hb
  · rw [e1]; exact hw
  · rw [e1]; exact hd
theorem e_adv0 (h : TKp I J a m N x) (h10 : J m 10 = 0) : ∃ I' J' k' y' x', s_X2_advance I a = some I' ∧ s_X9_goes J m = some J' ∧ TK I' J' a m N k' y' x' ∧ x ≤ y' := by
  obtain ⟨⟨hN, hx⟩, ⟨a2, a3, m12, m13⟩, hb⟩ := h
  have e1 := t_sp hN (N - x) lf x I a2 a3 (by omega) (by unfold lf; omega)
  have e2 := u_sp hN (N - x) lf x J m12 m13 (by omega) (by unfold lf; omega)
  rw [← scan_congr (q := fun i => decide (I (a + 1) i = 32)) (N - x) x (fun i h1 h2 => (byt_facts (hb i (by omega))).1)] at e2
  obtain ⟨s1, s2, -, -⟩ := @scan_b (fun i => decide (I (a + 1) i = 32)) (N - x) x
  generalize scan (fun i => decide (I (a + 1) i = 32)) (N - x) x = y at e1 e2 s1 s2
  unfold s_X2_advance s_X9_goes
  rw [e1, e2, h10, if_pos (Int32.le_refl 0), bd_some, bd_some, lx_s (stI _ a 5 _), lx_s (stI _ m 14 _), stI_at, stI_at]
  have c0 : stI (stI I a 3 (nI y)) a 5 (nI y) (a + 1) = I (a + 1) := by rw [stI_ne (by omega), stI_ne (by omega)]
  have c2 : stI (stI I a 3 (nI y)) a 5 (nI y) a 2 = nI N := by rw [stI_aj (by decide), stI_aj (by decide)]; exact a2
  have c3 : stI (stI I a 3 (nI y)) a 5 (nI y) a 3 = nI y := by rw [stI_aj (by decide), stI_at]
  have c5 : stI (stI I a 3 (nI y)) a 5 (nI y) a 5 = nI y := stI_at
  have d0 : stI (stI J m 13 (nI y)) m 14 (nI y) (m + 6) = J (m + 6) := by rw [stI_ne (by omega), stI_ne (by omega)]
  have d2 : stI (stI J m 13 (nI y)) m 14 (nI y) m 12 = nI N := by rw [stI_aj (by decide), stI_aj (by decide)]; exact m12
  have d3 : stI (stI J m 13 (nI y)) m 14 (nI y) m 13 = nI y := by rw [stI_aj (by decide), stI_at]
  have d5 : stI (stI J m 13 (nI y)) m 14 (nI y) m 14 = nI y := stI_at
  generalize stI (stI I a 3 (nI y)) a 5 (nI y) = K at c0 c2 c3 c5
  generalize stI (stI J m 13 (nI y)) m 14 (nI y) = M at d0 d2 d3 d5
  rw [c2, c3, d2, d3]
  by_cases hy : y < N
  · have hbN : BYt (I (a + 1) y) (J (m + 6) y) := hb y hy
    obtain ⟨-, f2, f3, -, -⟩ := byt_facts hbN
    rw [if_pos (nI_lt hy (by omega)), if_neg (show ¬ nI y = nI N from fun q => by rw [nI_eq (by omega) (by omega)] at q; omega), lx_s (stI M m 15 0)]
    have d0' : stI M m 15 0 (m + 6) = J (m + 6) := by rw [stI_ne (by omega)]; exact d0
    have d2' : stI M m 15 0 m 12 = nI N := by rw [stI_aj (by decide)]; exact d2
    have d3' : stI M m 15 0 m 13 = nI y := by rw [stI_aj (by decide)]; exact d3
    have d5' : stI M m 15 0 m 14 = nI y := by rw [stI_aj (by decide)]; exact d5
    have d15 : ¬ stI M m 15 0 m 15 = 1 := by rw [stI_at]; decide
    rw [if_neg d15]
    generalize stI M m 15 0 = M' at d0' d2' d3' d5'
    rw [d3', u_small hN d2' (by omega), bd_some, decide_eq_true hy, Bool.true_and, atF_nI (by omega) (by omega), c0, d0']
    by_cases hl : s_X2_isLetter (I (a + 1) y) = true
    · rw [if_pos hl, if_pos (show s_X9_in (J (m + 6) y) 97 122 = true from f2 ▸ hl)]
      have e3 := t_wd hN (N - y) lf y K c2 c3 (by omega) (by unfold lf; omega)
      have e4 := u_wd hN (N - y) lf y M' d2' d3' (by omega) (by unfold lf; omega)
      rw [c0] at e3
      rw [d0', ← scan_congr (q := fun i => s_X2_isLetter (I (a + 1) i)) (N - y) y (fun i h1 h2 => (byt_facts (hb i (by omega))).2.1)] at e4
      obtain ⟨t1, t2, -, t4⟩ := @scan_b (fun i => s_X2_isLetter (I (a + 1) i)) (N - y) y
      have t5 : y < scan (fun i => s_X2_isLetter (I (a + 1) i)) (N - y) y := by
        obtain ⟨d, hd⟩ : ∃ d, N - y = d + 1 := ⟨N - y - 1, by omega⟩
        rw [hd]
        unfold scan
        rw [if_pos hl]
        have := (@scan_b (fun i => s_X2_isLetter (I (a + 1) i)) d (y + 1)).1
        omega
      generalize scan (fun i => s_X2_isLetter (I (a + 1) i)) (N - y) y = z at e3 e4 t1 t2 t4 t5
      unfold s_X2_readWord
      rw [e3, e4, bd_some, bd_some, stI_at, stI_aj (show 5 ≠ 3 by decide), c5, stI_at, stI_aj (show 14 ≠ 13 by decide), d5', nI_sub t1]
      by_cases h7 : z - y ≤ 7
      · rw [if_pos (show nI (z - y) ≤ 7 from nI_le (b := 7) h7 (by omega)), if_neg (show ¬ (7 : Int32) < nI (z - y) from nI_nlt (a := 7) h7 (by omega)), lx_s, lx_s]
        refine ⟨_, _, 1, y, z, rfl, rfl, TK_mk hN (by omega) hb ?_ ?_ ?_ ?_ ?_ ?_ stI_at stI_at ?_ ?_ (by omega) t1 (by omega) (fun _ => t5) (fun _ => ⟨by omega, t4⟩) (by omega), by omega⟩
        · rw [stI_ne (by omega), stI_ne (by omega)]; exact c0
        · rw [stI_ne (by omega), stI_ne (by omega)]; exact d0'
        · rw [stI_aj (by decide), stI_aj (by decide)]; exact c2
        · rw [stI_aj (by decide), stI_at]
        · rw [stI_aj (by decide), stI_aj (by decide)]; exact d2'
        · rw [stI_aj (by decide), stI_at]
        · rw [stI_aj (by decide), stI_aj (by decide)]; exact c5
        · rw [stI_aj (by decide), stI_aj (by decide)]; exact d5'
      · rw [if_neg (show ¬ nI (z - y) ≤ 7 from nI_ge (a := 7) (by omega) (by omega)), if_pos (show (7 : Int32) < nI (z - y) from nI_lt (a := 7) (by omega) (by omega)), lx_s, lx_s]
        refine ⟨_, _, 6, y, z, rfl, rfl, TK_mk hN (by omega) hb ?_ ?_ ?_ ?_ ?_ ?_ stI_at stI_at ?_ ?_ (by omega) t1 (by omega) (fun _ => t5) (by omega) (by omega), by omega⟩
        · rw [stI_ne (by omega), stI_ne (by omega)]; exact c0
        · rw [stI_ne (by omega), stI_ne (by omega)]; exact d0'
        · rw [stI_aj (by decide), stI_aj (by decide)]; exact c2
        · rw [stI_aj (by decide), stI_at]
        · rw [stI_aj (by decide), stI_aj (by decide)]; exact d2'
        · rw [stI_aj (by decide), stI_at]
        · rw [stI_aj (by decide), stI_aj (by decide)]; exact c5
        · rw [stI_aj (by decide), stI_aj (by decide)]; exact d5'
    · rw [if_neg hl, if_neg (show ¬ s_X9_in (J (m + 6) y) 97 122 = true from f2 ▸ hl), u_digit hN d2' (by omega), bd_some, decide_eq_true hy, Bool.true_and, d0']
      by_cases hg : s_X2_isDigit (I (a + 1) y) = true
      · rw [if_pos hg, if_pos (show s_X9_in (J (m + 6) y) 48 57 = true from f3 ▸ hg), lx_s]
        unfold s_X2_readNumber
        rw [lx_s]
        have g0 : stI K a 6 0 (a + 1) = I (a + 1) := by rw [stI_ne (by omega)]; exact c0
        have g2 : stI K a 6 0 a 2 = nI N := by rw [stI_aj (by decide)]; exact c2
        have g3 : stI K a 6 0 a 3 = nI y := by rw [stI_aj (by decide)]; exact c3
        have g5 : stI K a 6 0 a 5 = nI y := by rw [stI_aj (by decide)]; exact c5
        have g6 : stI K a 6 0 a 6 = 0 := stI_at
        generalize stI K a 6 0 = K' at g0 g2 g3 g5 g6
        have k0 : stI M' m 16 0 (m + 6) = J (m + 6) := by rw [stI_ne (by omega)]; exact d0'
        have k2 : stI M' m 16 0 m 12 = nI N := by rw [stI_aj (by decide)]; exact d2'
        have k3 : stI M' m 16 0 m 13 = nI y := by rw [stI_aj (by decide)]; exact d3'
        have k5 : stI M' m 16 0 m 14 = nI y := by rw [stI_aj (by decide)]; exact d5'
        have k6 : stI M' m 16 0 m 16 = 0 := stI_at
        generalize stI M' m 16 0 = M'' at k0 k2 k3 k5 k6
        have e3 := t_nb hN (N - y) lf y K' g2 g3 (by omega) (by unfold lf; omega)
        have e4 := u_nb hN (N - y) lf y M'' k2 k3 k5 (Nat.le_refl y) (by omega) (by unfold lf; omega)
        rw [g0, g6] at e3
        rw [k0, k6, ← scan_congr (q := fun i => s_X2_isDigit (I (a + 1) i)) (N - y) y (fun i h1 h2 => (byt_facts (hb i (by omega))).2.2.1)] at e4
        obtain ⟨t1, t2, t3, t4⟩ := @scan_b (fun i => s_X2_isDigit (I (a + 1) i)) (N - y) y
        have t5 : y < scan (fun i => s_X2_isDigit (I (a + 1) i)) (N - y) y := by
          obtain ⟨d, hd⟩ : ∃ d, N - y = d + 1 := ⟨N - y - 1, by omega⟩
          rw [hd]
          unfold scan
          rw [if_pos hg]
          have := (@scan_b (fun i => s_X2_isDigit (I (a + 1) i)) d (y + 1)).1
          omega
        generalize scan (fun i => s_X2_isDigit (I (a + 1) i)) (N - y) y = z at e3 e4 t1 t2 t3 t4 t5
        rw [e3, e4, bd_some, bd_some, stI_at, stI_aj (show 5 ≠ 3 by decide), stI_aj (show 5 ≠ 6 by decide), g5, stI_at, stI_aj (show 14 ≠ 13 by decide), stI_aj (show 14 ≠ 16 by decide), k5, nI_sub t1]
        by_cases h3 : z - y ≤ 3
        · obtain ⟨v, v1, v2, v3, v4⟩ := nv_3 (g := I (a + 1)) (g' := J (m + 6)) (y := y) h3 (fun i i1 i2 => (byt_facts (hb i (by omega))).2.2.2.1 (t4 i i1 (by omega)))
          rw [if_pos (show nI (z - y) ≤ 3 from nI_le (b := 3) h3 (by omega)), if_neg (show ¬ (3 : Int32) < nI (z - y) from nI_nlt (a := 3) h3 (by omega)), lx_s, lx_s, v2, v3]
          refine ⟨_, _, 2, y, z, rfl, rfl, TK_mk hN (by omega) hb ?_ ?_ ?_ ?_ ?_ ?_ stI_at stI_at ?_ ?_ (by omega) t1 (by omega) (fun _ => t5) (by omega) (fun _ => ⟨fun hz => t3 (by omega), hg, v, v1, ?_, ?_, fun q => by have := v4 q; omega⟩), by omega⟩
          · rw [stI_ne (by omega), stI_ne (by omega), stI_ne (by omega)]; exact g0
          · rw [stI_ne (by omega), stI_ne (by omega), stI_ne (by omega)]; exact k0
          · rw [stI_aj (by decide), stI_aj (by decide), stI_aj (by decide)]; exact g2
          · rw [stI_aj (by decide), stI_at]
          · rw [stI_aj (by decide), stI_aj (by decide), stI_aj (by decide)]; exact k2
          · rw [stI_aj (by decide), stI_at]
          · rw [stI_aj (by decide), stI_aj (by decide), stI_aj (by decide)]; exact g5
          · rw [stI_aj (by decide), stI_aj (by decide), stI_aj (by decide)]; exact k5
          · rw [stI_aj (by decide), stI_aj (by decide), stI_at]
          · rw [stI_aj (by decide), stI_aj (by decide), stI_at]
        · rw [if_neg (show ¬ nI (z - y) ≤ 3 from nI_ge (a := 3) (by omega) (by omega)), if_pos (show (3 : Int32) < nI (z - y) from nI_lt (a := 3) (by omega) (by omega)), lx_s, lx_s]
          refine ⟨_, _, 6, y, z, rfl, rfl, TK_mk hN (by omega) hb ?_ ?_ ?_ ?_ ?_ ?_ stI_at stI_at ?_ ?_ (by omega) t1 (by omega) (fun _ => t5) (by omega) (by omega), by omega⟩
          · rw [stI_ne (by omega), stI_ne (by omega), stI_ne (by omega)]; exact g0
          · rw [stI_ne (by omega), stI_ne (by omega), stI_ne (by omega)]; exact k0
          · rw [stI_aj (by decide), stI_aj (by decide), stI_aj (by decide)]; exact g2
          · rw [stI_aj (by decide), stI_at]
          · rw [stI_aj (by decide), stI_aj (by decide), stI_aj (by decide)]; exact k2
          · rw [stI_aj (by decide), stI_at]
          · rw [stI_aj (by decide), stI_aj (by decide), stI_aj (by decide)]; exact g5
          · rw [stI_aj (by decide), stI_aj (by decide), stI_aj (by decide)]; exact k5
      · rw [if_neg hg, if_neg (show ¬ s_X9_in (J (m + 6) y) 48 57 = true from f3 ▸ hg), gd_in (by omega) (by omega), cl_nI (by omega), lx_s, lx_s, lx_s, lx_s]
        obtain ⟨k, k1, k2, k3, k4⟩ := sign_facts hbN
        rw [k3, k4, stI_aj (show 3 ≠ 4 by decide), c3, nI_1, stI_aj (show 13 ≠ 15 by decide), d3', nI_1]
        refine ⟨_, _, k, y, y + 1, rfl, rfl, TK_mk hN (by omega) hb ?_ ?_ ?_ stI_at ?_ stI_at ?_ ?_ ?_ ?_ (by omega) (by omega) (by omega) (fun _ => by omega) (by omega) (by omega), by omega⟩
        · rw [stI_ne (by omega), stI_ne (by omega)]; exact c0
        · rw [stI_ne (by omega), stI_ne (by omega)]; exact d0'
        · rw [stI_aj (by decide), stI_aj (by decide)]; exact c2
        · rw [stI_aj (by decide), stI_aj (by decide)]; exact d2'
        · rw [stI_aj (by decide), stI_at]
        · rw [stI_aj (by decide), stI_at]
        · rw [stI_aj (by decide), stI_aj (by decide)]; exact c5
        · rw [stI_aj (by decide), stI_aj (by decide)]; exact d5'
  · have : y = N := by omega
    subst this
    rw [if_neg (nI_nlt (Nat.le_refl y) (by omega)), if_pos rfl, lx_s, lx_s, if_pos stI_at]
    refine ⟨_, _, 0, y, y, rfl, rfl, TK_mk hN (Nat.le_refl y) hb ?_ ?_ ?_ ?_ ?_ ?_ stI_at stI_at ?_ ?_ (by omega) (Nat.le_refl y) (fun _ => rfl) (fun q => absurd rfl q) (by omega) (by omega), s1⟩
    · rw [stI_ne (by omega)]; exact c0
    · rw [stI_ne (by omega)]; exact d0
    · rw [stI_aj (by decide)]; exact c2
    · rw [stI_aj (by decide)]; exact c3
    · rw [stI_aj (by decide)]; exact d2
    · rw [stI_aj (by decide)]; exact d3
    · rw [stI_aj (by decide)]; exact c5
    · rw [stI_aj (by decide)]; exact d5
end ADV
