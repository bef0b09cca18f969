/-! the changing calls -/
section MUT2
variable {I J : JI} {c L m P : Nat}
theorem Eqv_mut {α : Type} {Es : List String} {v : α} {I2 J2 : JI} {cl : Option ((α ⊕ String) × JI)} {mo : Option (α × JI)} (e1 : cl = some (.inl v, I2)) (e2 : mo = some (v, J2)) (h : RR I2 J2 c L m ∧ J2 m 0 = 0) : Eqv c L m Es cl mo :=
  ⟨.inl v, I2, v, J2, e1, e2, ⟨h.2, rfl⟩, h.1⟩
theorem in_f {x : Int32} {n : Nat} (hn : n < 2 ^ 31) (q : ¬ inR x n) : s_X9_in x 0 (nI n - 1) = false := by
  cases hb : s_X9_in x 0 (nI n - 1)
  · rfl
  · exact absurd ((min_iff hn).mp hb) q
theorem q_oil (h : RR I J c L m) (hL : L = c + 4 ∨ L = c + 104) (x : Int32) : Eqv c L m [eIS, eIX] (s_X8_oil I c L P x) (s_X9_oil J m x) := by
  rcases rq_Harness (P := P) h x with ⟨E, t, e1, e2, e3⟩ | ⟨H, W, C, P', R, k, hl, hk, hx, rfl, e1, e2⟩
  · exact Eqv_ref h (by unfold s_X8_oil; rw [e1, bx_r]) (by unfold s_X9_oil; rw [e2, bd2_some]; rfl) e3
  · obtain ⟨-, b1, b2, b3, b4, b5, b6⟩ := hk.g
    obtain ⟨I1, J1, r1, r2, hk1, fin⟩ := mut_start h hl hL
    obtain ⟨J2, o1, hk2⟩ := e_oils hk1 (Nat.le_refl _) hx
    unfold s_X8_oil s_X9_oil
    rw [e1, e2, bx_l, bd2_some, if_pos rfl, r1, r2, bd_some, bd_some, lx_s, lx_s, a_ofH1 (by omega), bd_some, o1, bd_some, (hk1.har hx).2.1, atF_nI (by omega) (by omega)]
    refine Eqv_mut rfl rfl (fin _ _ _ (fun z hz => fr_x7_oilHarness (by omega)) (fun z hz => fr_X9_oils o1 hz) hk2)
theorem q_mend (h : RR I J c L m) (hL : L = c + 4 ∨ L = c + 104) (x : Int32) : Eqv c L m [eIS, eIX, eIA] (s_X8_mend I c L P x) (s_X9_mend J m x) := by
  rcases RR_ld h with ⟨a, b⟩ | ⟨a, b, H, W, C, P', R, hl⟩
  · refine Eqv_ref h (by unfold s_X8_mend s_X8_requireWarp; rw [x_ld0 a, bx_r, bx_r]) (t := 1) (v := 0) ?_ tA
    unfold s_X9_mend
    rw [m_isWarp0 b, bd_some, gd_b0 b, if_neg (by decide), b, nz0, m_may]
    rfl
  · have hk := hl.2.1
    obtain ⟨-, b1, b2, b3, b4, b5, b6⟩ := hk.g
    rcases x_reqWarp (c := c) (P := P) a hk x with ⟨⟨k, hx, rfl⟩, e⟩ | ⟨q, e⟩
    · rcases m_isWarp b hk (nI k) with ⟨-, e2⟩ | ⟨q2, -⟩
      · unfold s_X8_mend s_X9_mend
        rw [e, bx_l, e2, bd_some, gd_b1 b, if_pos rfl, a_breaks (by omega), bd_some, hasB_bt (by omega), hk.brk hx, b, nz1]
        by_cases q3 : bt (I (L + 10) 2) k = true
        · rw [q3, if_pos rfl, if_pos (by decide), m_may, bd2_some]
          obtain ⟨I1, J1, r1, r2, hk1, fin⟩ := mut_start h hl hL
          obtain ⟨J2, o1, hk2⟩ := e_mends hk1 (Nat.le_refl _) hx
          show Eqv c L m _ _ (bd (s_X9_remembers (stI J m 0 0) m) _)
          rw [r1, r2, bd_some, bd_some, o1, bd_some, lx_s, e_brokenOnes hk2, bd_some]
          exact Eqv_mut rfl rfl (fin _ _ _ (fun z hz => fr_x7_mendWarp (by omega)) (fun z hz => fr_X9_putsWarp o1 hz) hk2)
        · simp only [Bool.not_eq_true] at q3
          rw [q3, if_neg (by decide), if_neg (by decide), m_may]
          exact Eqv_ref h rfl (t := 3) rfl tC
      · exact absurd ⟨k, hx, rfl⟩ q2
    · rcases m_isWarp b hk x with ⟨q2, -⟩ | ⟨-, e2⟩
      · exact absurd q2 q
      · refine Eqv_ref h (by unfold s_X8_mend; rw [e, bx_r]) (t := 2) (v := 0) ?_ tB
        unfold s_X9_mend
        rw [e2, bd_some, gd_b1 b, if_neg (by decide), b, nz1, m_may]
        rfl
theorem x_rg {x : Int32} {n : Nat} (hn : n < 2 ^ 31) : ((∃ k, 1 ≤ k ∧ k ≤ n ∧ x = nI k) ∧ s_X8_requireRange I x 1 (nI n) = some (.inl (), I) ∧ s_X9_in x 1 (nI n) = true) ∨ ((¬ ∃ k, 1 ≤ k ∧ k ≤ n ∧ x = nI k) ∧ s_X8_requireRange I x 1 (nI n) = some (.inr eIA, I) ∧ s_X9_in x 1 (nI n) = false) := x_rng (a := 1) hn (by omega)
theorem q_weave (h : RR I J c L m) (hL : L = c + 4 ∨ L = c + 104) (x : Int32) : Eqv c L m [eIS, eIA] (s_X8_weave I c L P x) (s_X9_weave J m x) := by
  rcases RR_ld h with ⟨a, b⟩ | ⟨a, b, H, W, C, P', R, hl⟩
  · refine Eqv_ref h (by unfold s_X8_weave; rw [x_ld0 a, bx_r]) (t := 1) (v := 0) ?_ tA
    unfold s_X9_weave
    rw [gd_b0 b, b, nz0, m_may2]
    rfl
  · unfold s_X8_weave s_X9_weave
    rw [x_ld1 a, bx_l, gd_b1 b, b, nz1, m_may2, bd2_some]
    rcases x_rg (I := I) (x := x) (n := 60) (by omega) with ⟨⟨k, k1, k2, rfl⟩, e1, e2⟩ | ⟨q, e1, e2⟩
    · rw [show s_X8_requireRange I (nI k) 1 60 = _ from e1, show s_X9_in (nI k) 1 60 = true from e2, bx_l]
      obtain ⟨I1, J1, r1, r2, hk1, fin⟩ := mut_start h hl hL
      obtain ⟨J2, R2, o1, hk2⟩ := e_weaves hk1 (Nat.le_refl _) k2
      show Eqv c L m _ _ (bd (s_X9_remembers (stI J m 0 0) m) _)
      rw [r1, r2, bd_some, bd_some, gd_i (wvok hk1), o1, bd2_some, lx_s, lx_s, cl_nI (by omega)]
      exact Eqv_mut rfl rfl (fin _ _ _ (fun z hz => fr_wuI (by omega)) (fun z hz => fr_X9_weaves o1 hz) hk2)
    · rw [show s_X8_requireRange I x 1 60 = _ from e1, show s_X9_in x 1 60 = false from e2, bx_r]
      exact Eqv_ref h rfl (t := 2) rfl tB
theorem q_unweave (h : RR I J c L m) (hL : L = c + 4 ∨ L = c + 104) (x : Int32) : Eqv c L m [eIS, eIA] (s_X8_unweave I c L P x) (s_X9_unweave J m x) := by
  rcases RR_ld h with ⟨a, b⟩ | ⟨a, b, H, W, C, P', R, hl⟩
  · refine Eqv_ref h (by unfold s_X8_unweave; rw [x_ld0 a, bx_r]) (t := 1) (v := 0) ?_ tA
    unfold s_X9_unweave
    rw [gd_b0 b, gd_b0 b, b, nz0, if_neg (by decide), m_may2]
    rfl
  · obtain ⟨⟨g0, g2, g3, g4, g5⟩, b1, b2, b3, b4, b5, b6⟩ := hl.2.1.g
    obtain ⟨c0, c4, c7, c3, cs⟩ := hl.2.1.c
    unfold s_X8_unweave s_X9_unweave
    rw [x_ld1 a, bx_l, gd_b1 b, gd_b1 b, b, nz1, if_pos rfl, gl5, cl5, g5, cs]
    rcases x_rg (I := I) (x := x) (n := R) (by omega) with ⟨⟨k, k1, k2, rfl⟩, e1, e2⟩ | ⟨q, e1, e2⟩
    · rw [e1, e2, if_pos rfl, m_may2, bd2_some, bx_l]
      obtain ⟨I1, J1, r1, r2, hk1, fin⟩ := mut_start h hl hL
      obtain ⟨J2, o1, hk2⟩ := e_removes hk1 k2
      show Eqv c L m _ _ (bd (s_X9_remembers (stI J m 0 0) m) _)
      rw [r1, r2, bd_some, bd_some, o1, bd_some, lx_s, gl5, cl_nI (by omega), hk2.g.1.2.2.2.2, hk2.c.2.2.2.2]
      exact Eqv_mut rfl rfl (fin _ _ _ (fun z hz => by
        have : ∀ t (K : JI), rmI L t K z = K z := by
          intro t
          induction t with
          | zero => intro K; rfl
          | succ t ih =>
            intro K
            unfold rmI
            split
            · rw [ih]
              unfold rmB
              rw [fr_x7_addYarn (by omega), stI_ne (by omega)]
            · rfl
        exact this _ _) (fun z hz => fr_X9_removes o1 hz) hk2)
    · rw [e1, e2, if_neg (by decide), m_may2, bx_r]
      exact Eqv_ref h rfl (t := 2) rfl tB
theorem q_swapCards (h : RR I J c L m) (hL : L = c + 4 ∨ L = c + 104) (x y : Int32) : Eqv c L m [eIS, eIX] (s_X8_swapCards I c L P x y) (s_X9_swapCards J m x y) := by
  rcases RR_ld h with ⟨a, b⟩ | ⟨a, b, H, W, C, P', R, hl⟩
  · refine Eqv_ref h (by unfold s_X8_swapCards s_X8_requireCard; rw [x_ld0 a, bx_r, bx_r]) (t := 1) (v := 0) ?_ tA
    unfold s_X9_swapCards s_X9_mayCards
    simp only [m_isCard0 b, gd_b0 b, bd_some]
    simp only [b, m_may2, m_may, nz0]
    rfl
  · have hk := hl.2.1
    obtain ⟨⟨g0, g2, g3, g4, g5⟩, b1, b2, b3, b4, b5, b6⟩ := hk.g
    obtain ⟨c0, c4, c7, c3, cs⟩ := hk.c
    rcases x_reqCard (c := c) (P := P) a hk x with ⟨⟨k, hx, rfl⟩, e⟩ | ⟨q, e⟩
    · rcases m_isCard b hk (nI k) with ⟨-, e2⟩ | ⟨q2, -⟩
      · rcases x_reqCard (c := c) (P := P) a hk y with ⟨⟨k', hy, rfl⟩, e3⟩ | ⟨q, e3⟩
        · rcases m_isCard b hk (nI k') with ⟨-, e4⟩ | ⟨q4, -⟩
          · unfold s_X8_swapCards s_X9_swapCards s_X9_mayCards
            simp only [e, e2, e3, e4, gd_b1 b, bx_l, bd_some]
            simp only [b, m_may2, nz1]
            rw [t_ok]
            obtain ⟨I1, J1, r1, r2, hk1, fin⟩ := mut_start h hl hL
            show Eqv c L m _ _ (bd (s_X9_remembers (stI J m 0 0) m) _)
            rw [r1, r2, bd_some, bd_some]
            obtain ⟨J2, o1, hk2⟩ := e_swaps hk1 (Nat.le_refl _) hx hy
            rw [o1, bd_some, lx_s, lx_s, e_usesOf hk2, bd_some, hk2.c.2.2.2.1, cl_nI (by omega)]
            have R0 := fin _ _ _ (fun z hz => fr_x7_exchangeCards (by omega)) (fun z hz => fr_X9_swaps o1 hz) hk2
            unfold uF
            by_cases q5 : nI k = nI k'
            · rw [if_pos q5, if_pos q5]; exact Eqv_mut rfl rfl R0
            · rw [if_neg q5, if_neg q5]; exact Eqv_mut rfl rfl R0
          · exact absurd ⟨k', hy, rfl⟩ q4
        · rcases m_isCard b hk y with ⟨q4, -⟩ | ⟨-, e4⟩
          · exact absurd q4 q
          · refine Eqv_ref h (by unfold s_X8_swapCards; rw [e, bx_l, e3, bx_r]) (t := 2) (v := 0) ?_ tB
            unfold s_X9_swapCards s_X9_mayCards
            simp only [e2, e4, gd_b1 b, bd_some]
            simp only [b, m_may2, nz1]
            rfl
      · exact absurd ⟨k, hx, rfl⟩ q2
    · rcases m_isCard b hk x with ⟨q2, -⟩ | ⟨-, e2⟩
      · exact absurd q2 q
      · refine Eqv_ref h (by unfold s_X8_swapCards; rw [e, bx_r]) (t := 2) (v := 0) ?_ tB
        unfold s_X9_swapCards s_X9_mayCards
        simp only [e2, gd_b1 b, bd_some]
        simp only [b, m_may2, nz1]
        rfl
theorem q_punch (h : RR I J c L m) (hL : L = c + 4 ∨ L = c + 104) (x y : Int32) : Eqv c L m [eIS, eIX] (s_X8_punch I c L P x y) (s_X9_punch J m x y) := by
  rcases RR_ld h with ⟨a, b⟩ | ⟨a, b, H, W, C, P', R, hl⟩
  · refine Eqv_ref h (by unfold s_X8_punch s_X8_requireCard; rw [x_ld0 a, bx_r, bx_r]) (t := 1) (v := false) ?_ tA
    unfold s_X9_punch 
    simp only [m_isCard0 b, gd_b0 b, bd_some]
    simp only [b, m_may2, m_may, nz0]
    rfl
  · have hk := hl.2.1
    obtain ⟨⟨g0, g2, g3, g4, g5⟩, b1, b2, b3, b4, b5, b6⟩ := hk.g
    obtain ⟨c0, c4, c7, c3, cs⟩ := hk.c
    rcases x_reqCard (c := c) (P := P) a hk x with ⟨⟨k, hx, rfl⟩, e⟩ | ⟨q, e⟩
    · rcases m_isCard b hk (nI k) with ⟨-, e2⟩ | ⟨q2, -⟩
      · rcases x_reqHarness (c := c) (P := P) a hk y with ⟨⟨k', hy, rfl⟩, e3⟩ | ⟨q, e3⟩
        · rcases m_isHarness b hk (nI k') with ⟨-, e4⟩ | ⟨q4, -⟩
          · unfold s_X8_punch s_X9_punch 
            simp only [e, e2, e3, e4, gd_b1 b, bx_l, bd_some]
            simp only [b, m_may2, nz1]
            rw [t_ok]
            obtain ⟨I1, J1, r1, r2, hk1, fin⟩ := mut_start h hl hL
            show Eqv c L m _ _ (bd (s_X9_remembers (stI J m 0 0) m) _)
            rw [r1, r2, bd_some, bd_some]
            obtain ⟨J2, o1, hk2⟩ := e_punches hk1 (Nat.le_refl _) hx hy
            obtain ⟨k1, k2, -⟩ := hk2.card hx
            rw [o1, bd_some, lx_s, a_ofCard0 (by omega), bd_some, k2, mhas_bt (by omega), atF_nI (by omega) (by omega), hasB_bt (by omega)]
            exact Eqv_mut rfl rfl (fin _ _ _ (fun z hz => fr_x7_punchCard (by omega)) (fun z hz => fr_X9_punches o1 hz) hk2)
          · exact absurd ⟨k', hy, rfl⟩ q4
        · rcases m_isHarness b hk y with ⟨q4, -⟩ | ⟨-, e4⟩
          · exact absurd q4 q
          · refine Eqv_ref h (by unfold s_X8_punch; rw [e, bx_l, e3, bx_r]) (t := 2) (v := false) ?_ tB
            unfold s_X9_punch 
            simp only [e2, e4, gd_b1 b, bd_some]
            simp only [b, m_may2, nz1]
            rfl
      · exact absurd ⟨k, hx, rfl⟩ q2
    · rcases m_isCard b hk x with ⟨q2, -⟩ | ⟨-, e2⟩
      · exact absurd q2 q
      · refine Eqv_ref h (by unfold s_X8_punch; rw [e, bx_r]) (t := 2) (v := false) ?_ tB
        unfold s_X9_punch 
        simp only [e2, gd_b1 b, bd_some]
        simp only [b, m_may2, nz1]
        rfl
theorem q_setCardColour (h : RR I J c L m) (hL : L = c + 4 ∨ L = c + 104) (x y : Int32) : Eqv c L m [eIS, eIX, eIA] (s_X8_setCardColour I c L P x y) (s_X9_setCardColour J m x y) := by
  rcases RR_ld h with ⟨a, b⟩ | ⟨a, b, H, W, C, P', R, hl⟩
  · refine Eqv_ref h (by unfold s_X8_setCardColour s_X8_requireCard; rw [x_ld0 a, bx_r, bx_r]) (t := 1) (v := 0) ?_ tA
    unfold s_X9_setCardColour
    rw [gd_b0 b, m_isCard0 b, bd_some, b, nz0, m_may]
    rfl
  · have hk := hl.2.1
    obtain ⟨-, b1, b2, b3, b4, b5, b6⟩ := hk.g
    unfold s_X8_setCardColour s_X9_setCardColour
    rw [gd_b1 b]
    rcases x_reqCard (c := c) (P := P) a hk x with ⟨⟨k, hx, rfl⟩, e⟩ | ⟨q, e⟩
    · rcases m_isCard b hk (nI k) with ⟨-, e2⟩ | ⟨q2, -⟩
      · rw [e, bx_l, e2, bd_some, b, nz1, m_may, bd2_some]
        rcases x_reqColour (L := L) (P := P) a y with ⟨⟨k', hy, rfl⟩, e3, e4⟩ | ⟨q, e3, e4⟩
        · rw [e3, e4, bx_l]
          obtain ⟨I1, J1, r1, r2, hk1, fin⟩ := mut_start h hl hL
          obtain ⟨J2, o1, hk2⟩ := e_dyes hk1 (Nat.le_refl _) hx hy
          obtain ⟨-, -, q, q1, q2, q3⟩ := hk1.card hx
          show Eqv c L m _ _ (bd (s_X9_remembers (stI J m 0 0) m) _)
          rw [r1, r2, bd_some, bd_some, lx_s, lx_s, a_ofCard1 (by omega), bd_some, o1, bd_some, q3, atF_nI (by omega) (by omega), q2]
          exact Eqv_mut rfl rfl (fin _ _ _ (fun z hz => fr_x7_changeColour (by omega)) (fun z hz => fr_X9_dyes o1 hz) hk2)
        · rw [e3, e4, bx_r]
          exact Eqv_ref h rfl (t := 3) rfl tC
      · exact absurd ⟨k, hx, rfl⟩ q2
    · rcases m_isCard b hk x with ⟨q2, -⟩ | ⟨-, e2⟩
      · exact absurd q2 q
      · rw [e, bx_r, e2, bd_some, b, nz1, m_may]
        exact Eqv_ref h rfl (t := 2) (v := 0) (by cases s_X9_isColour y <;> rfl) tB
theorem q_bringYarn (h : RR I J c L m) (hL : L = c + 4 ∨ L = c + 104) (x y : Int32) : Eqv c L m [eIS, eIA] (s_X8_bringYarn I c L P x y) (s_X9_bringYarn J m x y) := by
  rcases RR_ld h with ⟨a, b⟩ | ⟨a, b, H, W, C, P', R, hl⟩
  · refine Eqv_ref h (by unfold s_X8_bringYarn s_X8_requireColour; rw [x_ld0 a, bx_r, bx_r]) (t := 1) (v := 0) ?_ tA
    unfold s_X9_bringYarn
    rw [gd_b0 b, b, nz0]
    simp only [m_may2]
    split
    · split <;> rfl
    · rfl
  · have hk := hl.2.1
    unfold s_X8_bringYarn s_X9_bringYarn
    rw [gd_b1 b]
    rcases x_reqColour (L := L) (P := P) a x with ⟨⟨k, hx, rfl⟩, e3, e4⟩ | ⟨q, e3, e4⟩
    · rw [e3, e4, if_pos rfl, bx_l]
      rcases x_rg (I := I) (x := y) (n := 999) (by omega) with ⟨⟨k', k1, k2, rfl⟩, e1, e2⟩ | ⟨q, e1, e2⟩
      · rw [show s_X8_requireRange I (nI k') 1 999 = _ from e1, show s_X9_in (nI k') 1 999 = true from e2, if_pos rfl, bx_l, b, nz1, m_may2, bd2_some]
        obtain ⟨I1, J1, r1, r2, hk1, fin⟩ := mut_start h hl hL
        obtain ⟨J2, o1, hk2⟩ := e_brings hk1 (Nat.le_refl _) hx (nI k')
        show Eqv c L m _ _ (bd (s_X9_remembers (stI J m 0 0) m) _)
        rw [r1, r2, bd_some, bd_some, lx_s, o1, bd_some, show (110 : Int32) = nI 110 from rfl, nI_add, gd_in (by omega) (by omega), cl_nI (by omega), hk2.yarn hx, atF_nI (by omega) (by omega)]
        exact Eqv_mut rfl rfl (fin _ _ _ (fun z hz => fr_x7_bring (by omega)) (fun z hz => fr_X9_brings o1 hz) hk2)
      · rw [show s_X8_requireRange I y 1 999 = _ from e1, show s_X9_in y 1 999 = false from e2, if_neg (by decide), bx_r, b, nz1, m_may2]
        exact Eqv_ref h rfl (t := 2) rfl tB
    · rw [e3, e4, if_neg (by decide), bx_r, b, nz1, m_may2]
      exact Eqv_ref h rfl (t := 2) rfl tB
end MUT2
