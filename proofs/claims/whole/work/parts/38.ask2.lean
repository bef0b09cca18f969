/-! the reading calls with two arguments, and the rest of them -/
section ASK2
variable {I J : JI} {c L m P : Nat}
theorem t_ok : (if true = false then (1 : Int32) else if true = false then 2 else 0) = 0 := rfl
theorem gd_b0 {α : Type} (b : J m 6 = 0) {x : Option α} : gd (J m 6 = 0 ∨ J m 6 = 1) x = x := gd_i (Or.inl b)
theorem gd_b1 {α : Type} (b : J m 6 = 1) {x : Option α} : gd (J m 6 = 0 ∨ J m 6 = 1) x = x := gd_i (Or.inr b)
theorem zbn (b : Bool) : (if b = true then (some (true, J) : Option (Bool × JI)) else some (false, J)) = some (b, J) := by cases b <;> rfl
theorem v_parseErrorCode (h : RR I J c L m) : ∃ v, s_X8_parseErrorCode I c L P = v ∧ s_X9_parseErrorCode J m = some (v, stI J m 0 0) := ⟨_, rfl, by unfold s_X9_parseErrorCode s_X9_told; rw [h.2.2.1.1]; rfl⟩
theorem v_parseErrorPosition (h : RR I J c L m) : ∃ v, s_X8_parseErrorPosition I c L P = v ∧ s_X9_parseErrorPosition J m = some (v, stI J m 0 0) := ⟨_, rfl, by unfold s_X9_parseErrorPosition s_X9_told; rw [h.2.2.1.2]; rfl⟩
theorem v_bufferLength (h : RR I J c L m) : ∃ v, s_X8_bufferLength I c L P = v ∧ s_X9_bufferLength J m = some (v, stI J m 0 0) := by
  obtain ⟨⟨n, n1, n2, n3, -⟩, -⟩ := h
  exact ⟨_, rfl, by unfold s_X9_bufferLength s_X9_told s_X8_bufferLength; rw [n3, show c + 1 + 1 = c + 2 from rfl, n2]; rfl⟩
theorem v_undoCount (h : RR I J c L m) : ∃ v, s_X8_undoCount I c L P = v ∧ s_X9_undoCount J m = some (v, stI J m 0 0) := by
  refine ⟨_, rfl, ?_⟩
  have e : J m 7 = I (c + 30) 2 := by
    obtain ⟨-, -, -, h | ⟨H, W, C, P', R, h⟩⟩ := h
    · rw [h.2.1, h.2.2.2.1]
    · obtain ⟨u, x, h1, h2, h3, h4, h5, -⟩ := h.2.2.2.2.1
      rw [h3, h5]
  unfold s_X9_undoCount s_X9_told s_X8_undoCount
  rw [e]; rfl
theorem q_lifts (h : RR I J c L m) (x y : Int32) : Eqv c L m [eIS, eIX] (s_X8_lifts I c L P x y) (s_X9_lifts J m x y) := by
  rcases RR_ld h with ⟨a, b⟩ | ⟨a, b, H, W, C, P', R, hl⟩
  · refine Eqv_ref h (by unfold s_X8_lifts s_X8_requireCard; rw [x_ld0 a, bx_r, bx_r]) (t := 1) (v := false) ?_ tA
    unfold s_X9_lifts 
    simp only [m_isCard0 b, gd_b0 b, bd_some]
    simp only [b, m_may2, nz0]
    rfl
  · rcases x_reqCard (c := c) (P := P) a hl.2.1 x with ⟨⟨k, hx, rfl⟩, e⟩ | ⟨q, e⟩
    · rcases m_isCard b hl.2.1 (nI k) with ⟨-, e2⟩ | ⟨q2, -⟩
      · rcases x_reqHarness (c := c) (P := P) a hl.2.1 y with ⟨⟨k', hy, rfl⟩, e3⟩ | ⟨q, e3⟩
        · rcases m_isHarness b hl.2.1 (nI k') with ⟨-, e4⟩ | ⟨q4, -⟩
          · have hk := hl.kr 0
            obtain ⟨⟨g0, g2, g3, g4, g5⟩, b1, b2, b3, b4, b5, b6⟩ := hk.g
            obtain ⟨c0, c4, c7, c3, cs⟩ := hk.c
            unfold s_X8_lifts s_X9_lifts 
            simp only [e, e2, e3, e4, gd_b1 b, bx_l, bd_some]
            simp only [b, m_may2, nz1]
            rw [t_ok]
            obtain ⟨k1, k2, -⟩ := hk.card hx
            show Eqv c L m _ _ (bd (s_X9_ofCard (stI J m 0 0) m (nI k) 0) _)
            rw [a_ofCard0 (by omega), bd_some, k2, mhas_bt (by omega), zbn, atF_nI (by omega) (by omega), hasB_bt (by omega)]
            exact Eqv_ok h rfl rfl
          · exact absurd ⟨k', hy, rfl⟩ q4
        · rcases m_isHarness b hl.2.1 y with ⟨q4, -⟩ | ⟨-, e4⟩
          · exact absurd q4 q
          · refine Eqv_ref h (by unfold s_X8_lifts; rw [e, bx_l, e3, bx_r]) (t := 2) (v := false) ?_ tB
            unfold s_X9_lifts 
            simp only [e2, e4, gd_b1 b, bd_some]
            simp only [b, m_may2, nz1]
            rfl
      · exact absurd ⟨k, hx, rfl⟩ q2
    · rcases m_isCard b hl.2.1 x with ⟨q2, -⟩ | ⟨-, e2⟩
      · exact absurd q2 q
      · refine Eqv_ref h (by unfold s_X8_lifts; rw [e, bx_r]) (t := 2) (v := false) ?_ tB
        unfold s_X9_lifts 
        simp only [e2, gd_b1 b, bd_some]
        simp only [b, m_may2, nz1]
        rfl
theorem q_liftDistance (h : RR I J c L m) (x y : Int32) : Eqv c L m [eIS, eIX] (s_X8_liftDistance I c L P x y) (s_X9_liftDistance J m x y) := by
  rcases RR_ld h with ⟨a, b⟩ | ⟨a, b, H, W, C, P', R, hl⟩
  · refine Eqv_ref h (by unfold s_X8_liftDistance s_X8_requireCard; rw [x_ld0 a, bx_r, bx_r]) (t := 1) (v := 0) ?_ tA
    unfold s_X9_liftDistance s_X9_mayCards
    simp only [m_isCard0 b, gd_b0 b, bd_some]
    simp only [b, m_may2, nz0]
    rfl
  · rcases x_reqCard (c := c) (P := P) a hl.2.1 x with ⟨⟨k, hx, rfl⟩, e⟩ | ⟨q, e⟩
    · rcases m_isCard b hl.2.1 (nI k) with ⟨-, e2⟩ | ⟨q2, -⟩
      · rcases x_reqCard (c := c) (P := P) a hl.2.1 y with ⟨⟨k', hy, rfl⟩, e3⟩ | ⟨q, e3⟩
        · rcases m_isCard b hl.2.1 (nI k') with ⟨-, e4⟩ | ⟨q4, -⟩
          · have hk := hl.kr 0
            obtain ⟨⟨g0, g2, g3, g4, g5⟩, b1, b2, b3, b4, b5, b6⟩ := hk.g
            obtain ⟨c0, c4, c7, c3, cs⟩ := hk.c
            unfold s_X8_liftDistance s_X9_liftDistance s_X9_mayCards
            simp only [e, e2, e3, e4, gd_b1 b, bx_l, bd_some]
            simp only [b, m_may2, nz1]
            rw [t_ok]
            obtain ⟨k1, k2, -⟩ := hk.card hx
            obtain ⟨k3, k4, -⟩ := hk.card hy
            show Eqv c L m _ _ (bd (s_X9_ofCard (stI J m 0 0) m (nI k) 0) _)
            rw [a_ofCard0 (by omega), bd_some, a_ofCard0 (by omega), bd_some, k2, k4, countOf_bc ((k1.xor k3).mono b1), bd_some, atF_nI (by omega) (by omega), atF_nI (by omega) (by omega)]
            exact Eqv_ok h rfl rfl
          · exact absurd ⟨k', hy, rfl⟩ q4
        · rcases m_isCard b hl.2.1 y with ⟨q4, -⟩ | ⟨-, e4⟩
          · exact absurd q4 q
          · refine Eqv_ref h (by unfold s_X8_liftDistance; rw [e, bx_l, e3, bx_r]) (t := 2) (v := 0) ?_ tB
            unfold s_X9_liftDistance s_X9_mayCards
            simp only [e2, e4, gd_b1 b, bd_some]
            simp only [b, m_may2, nz1]
            rfl
      · exact absurd ⟨k, hx, rfl⟩ q2
    · rcases m_isCard b hl.2.1 x with ⟨q2, -⟩ | ⟨-, e2⟩
      · exact absurd q2 q
      · refine Eqv_ref h (by unfold s_X8_liftDistance; rw [e, bx_r]) (t := 2) (v := 0) ?_ tB
        unfold s_X9_liftDistance s_X9_mayCards
        simp only [e2, gd_b1 b, bd_some]
        simp only [b, m_may2, nz1]
        rfl
theorem q_cellColour (h : RR I J c L m) (x y : Int32) : Eqv c L m [eIS, eIX] (s_X8_cellColour I c L P x y) (s_X9_cellColour J m x y) := by
  rcases RR_ld h with ⟨a, b⟩ | ⟨a, b, H, W, C, P', R, hl⟩
  · refine Eqv_ref h (by unfold s_X8_cellColour s_X8_requireRow; rw [x_ld0 a, bx_r, bx_r]) (t := 1) (v := 0) ?_ tA
    unfold s_X9_cellColour s_X9_mayCell
    simp only [m_isRow0 b, gd_b0 b, bd_some]
    simp only [b, m_may2, nz0]
    rfl
  · rcases x_reqRow (c := c) (P := P) a hl.2.1 x with ⟨⟨k, hx, rfl⟩, e⟩ | ⟨q, e⟩
    · rcases m_isRow b hl.2.1 (nI k) with ⟨-, e2⟩ | ⟨q2, -⟩
      · rcases x_reqWarp (c := c) (P := P) a hl.2.1 y with ⟨⟨k', hy, rfl⟩, e3⟩ | ⟨q, e3⟩
        · rcases m_isWarp b hl.2.1 (nI k') with ⟨-, e4⟩ | ⟨q4, -⟩
          · have hk := hl.kr 0
            obtain ⟨⟨g0, g2, g3, g4, g5⟩, b1, b2, b3, b4, b5, b6⟩ := hk.g
            obtain ⟨c0, c4, c7, c3, cs⟩ := hk.c
            unfold s_X8_cellColour s_X9_cellColour s_X9_mayCell
            simp only [e, e2, e3, e4, gd_b1 b, bx_l, bd_some]
            simp only [b, m_may2, nz1]
            rw [t_ok]
            show Eqv c L m _ _ (bd (s_X9_cellOf (stI J m 0 0) m (nI k) (nI k')) _)
            rw [e_cellOf hk hx hy, bd_some, e_half hk hx hy]
            exact Eqv_ok h rfl rfl
          · exact absurd ⟨k', hy, rfl⟩ q4
        · rcases m_isWarp b hl.2.1 y with ⟨q4, -⟩ | ⟨-, e4⟩
          · exact absurd q4 q
          · refine Eqv_ref h (by unfold s_X8_cellColour; rw [e, bx_l, e3, bx_r]) (t := 2) (v := 0) ?_ tB
            unfold s_X9_cellColour s_X9_mayCell
            simp only [e2, e4, gd_b1 b, bd_some]
            simp only [b, m_may2, nz1]
            rfl
      · exact absurd ⟨k, hx, rfl⟩ q2
    · rcases m_isRow b hl.2.1 x with ⟨q2, -⟩ | ⟨-, e2⟩
      · exact absurd q2 q
      · refine Eqv_ref h (by unfold s_X8_cellColour; rw [e, bx_r]) (t := 2) (v := 0) ?_ tB
        unfold s_X9_cellColour s_X9_mayCell
        simp only [e2, gd_b1 b, bd_some]
        simp only [b, m_may2, nz1]
        rfl
theorem q_showsWarp (h : RR I J c L m) (x y : Int32) : Eqv c L m [eIS, eIX] (s_X8_showsWarp I c L P x y) (s_X9_showsWarp J m x y) := by
  rcases RR_ld h with ⟨a, b⟩ | ⟨a, b, H, W, C, P', R, hl⟩
  · refine Eqv_ref h (by unfold s_X8_showsWarp s_X8_requireRow; rw [x_ld0 a, bx_r, bx_r]) (t := 1) (v := false) ?_ tA
    unfold s_X9_showsWarp s_X9_mayCell
    simp only [m_isRow0 b, gd_b0 b, bd_some]
    simp only [b, m_may2, nz0]
    rfl
  · rcases x_reqRow (c := c) (P := P) a hl.2.1 x with ⟨⟨k, hx, rfl⟩, e⟩ | ⟨q, e⟩
    · rcases m_isRow b hl.2.1 (nI k) with ⟨-, e2⟩ | ⟨q2, -⟩
      · rcases x_reqWarp (c := c) (P := P) a hl.2.1 y with ⟨⟨k', hy, rfl⟩, e3⟩ | ⟨q, e3⟩
        · rcases m_isWarp b hl.2.1 (nI k') with ⟨-, e4⟩ | ⟨q4, -⟩
          · have hk := hl.kr 0
            obtain ⟨⟨g0, g2, g3, g4, g5⟩, b1, b2, b3, b4, b5, b6⟩ := hk.g
            obtain ⟨c0, c4, c7, c3, cs⟩ := hk.c
            unfold s_X8_showsWarp s_X9_showsWarp s_X9_mayCell
            simp only [e, e2, e3, e4, gd_b1 b, bx_l, bd_some]
            simp only [b, m_may2, nz1]
            rw [t_ok]
            show Eqv c L m _ _ (bd (s_X9_shows (stI J m 0 0) m (nI k) (nI k')) _)
            rw [e_shows hk hx hy, bd_some, zbn, sh_C (by omega) (by omega)]
            exact Eqv_ok h rfl rfl
          · exact absurd ⟨k', hy, rfl⟩ q4
        · rcases m_isWarp b hl.2.1 y with ⟨q4, -⟩ | ⟨-, e4⟩
          · exact absurd q4 q
          · refine Eqv_ref h (by unfold s_X8_showsWarp; rw [e, bx_l, e3, bx_r]) (t := 2) (v := false) ?_ tB
            unfold s_X9_showsWarp s_X9_mayCell
            simp only [e2, e4, gd_b1 b, bd_some]
            simp only [b, m_may2, nz1]
            rfl
      · exact absurd ⟨k, hx, rfl⟩ q2
    · rcases m_isRow b hl.2.1 x with ⟨q2, -⟩ | ⟨-, e2⟩
      · exact absurd q2 q
      · refine Eqv_ref h (by unfold s_X8_showsWarp; rw [e, bx_r]) (t := 2) (v := false) ?_ tB
        unfold s_X9_showsWarp s_X9_mayCell
        simp only [e2, gd_b1 b, bd_some]
        simp only [b, m_may2, nz1]
        rfl
theorem q_deckCard (h : RR I J c L m) (x : Int32) : Eqv c L m [eIS, eIX] (s_X8_deckCard I c L P x) (s_X9_deckCard J m x) := by
  rcases RR_ld h with ⟨a, b⟩ | ⟨a, b, H, W, C, P', R, hl⟩
  · refine Eqv_ref h (by unfold s_X8_deckCard; rw [x_ld0 a, bx_r]) (t := 1) (v := 0) ?_ tA
    unfold s_X9_deckCard
    rw [b, gd_i (Or.inl rfl), gd_i (Or.inl rfl), nz0, if_neg (by decide), m_may2]
    rfl
  · have hk := hl.kr 0
    obtain ⟨⟨g0, g2, g3, g4, g5⟩, b1, b2, b3, b4, b5, b6⟩ := hk.g
    obtain ⟨c0, c4, c7, c3, cs⟩ := hk.c
    have g4' : J (m + 1) 4 = nI P' := hl.2.1.g.1.2.2.2.1
    unfold s_X8_deckCard s_X9_deckCard
    rw [x_ld1 a, bx_l, c3, b, gd_i (Or.inr rfl), gd_i (Or.inr rfl), nz1, if_pos rfl, gl4, cl4, g4']
    rcases x_idx (I := I) (x := x) (n := P') (by omega) with ⟨q, e⟩ | ⟨q, e⟩
    · rw [if_pos ((min_iff (by omega)).mpr q), m_may2]
      obtain ⟨k, hx, rfl⟩ := q
      obtain ⟨d, d1, d2, d3⟩ := hk.pick hx
      show Eqv c L m _ _ (gd (vp_in (164 + nI k) 2030) _)
      rw [e, bx_l, show (164 : Int32) = nI 164 from rfl, nI_add, gd_in (by omega) (by omega), cl_nI (by omega)]
      refine Eqv_ok h rfl ?_
      rw [atF_nI (by omega) (by omega), d2]
      exact congrArg (fun z => some (z, stI J m 0 0)) d3
    · rw [if_neg (fun z => q ((min_iff (by omega)).mp z)), m_may2]
      exact Eqv_ref h (by rw [e, bx_r]) (t := 2) rfl tB
theorem q_outputByte (h : RR I J c L m) (x : Int32) : Eqv c L m [eIX] (s_X8_outputByte I c L P x) (s_X9_outputByte J m x) := by
  obtain ⟨-, ⟨n, n1, n2, n3, n4⟩, -⟩ := id h
  unfold s_X8_outputByte s_X9_outputByte
  rw [n2, n3]
  rcases x_idx (I := I) (x := x) (n := n) (by omega) with ⟨q, e⟩ | ⟨q, e⟩
  · rw [e, bx_l, (min_iff (by omega)).mpr q, m_may, bd2_some]
    obtain ⟨k, hx, rfl⟩ := q
    show Eqv c L m _ _ (gd (vp_in (nI k) 1000) _)
    rw [gd_in (by omega) (by omega), cl_nI (by omega), atF_nI (by omega) (by omega), show c + 28 + 1 = c + 29 from rfl, n4 k hx]
    refine Eqv_ok h rfl ?_
    rw [show stI J m 0 (if true = false then 1 else if true = false then 2 else if true = false then 3 else 0) = stI J m 0 0 from rfl, stI_ne (show m + 10 ≠ m by omega)]
  · have : s_X9_in x 0 (nI n - 1) = false := by
      cases hb : s_X9_in x 0 (nI n - 1)
      · rfl
      · exact absurd ((min_iff (by omega)).mp hb) q
    rw [e, bx_r, this, m_may, bd2_some]
    exact Eqv_ref h rfl (t := 1) rfl tA
theorem ones_bt {H k : Nat} (hH : H ≤ 8) (hk : k < 32) : bt (((1 : Int32) <<< (nI H &&& 31)) - 1) k = decide (k < H) := by
  have : ∀ (H : Fin 9) (k : Fin 32), bt (((1 : Int32) <<< (nI H.val &&& 31)) - 1) k.val = decide (k.val < H.val) := by decide +kernel
  exact this ⟨H, by omega⟩ ⟨k, hk⟩
theorem opp_iff {a b : Int32} {H : Nat} (ha : LB H a) (hb : LB H b) (hH : H ≤ 8) : b = (((1 : Int32) <<< (nI H &&& 31)) - 1 &&& (a ^^^ (-1))) ↔ cntB (bt (a ^^^ b)) 8 = H := by
  rw [cntB_cut (n := H) (fun k hk => (ha.xor hb) k hk) hH, cntB_full]
  constructor
  · intro e k hk
    have := congrArg (fun z => bt z k) e
    rw [bt_and, ones_bt hH (by omega), bt_not (by omega), decide_eq_true hk, Bool.true_and] at this
    rw [bt_xor, this]
    cases bt a k <;> rfl
  · intro e
    apply bt_ext
    intro k hk
    rw [bt_and, ones_bt hH hk, bt_not hk]
    by_cases q : k < H
    · have := e k q
      rw [bt_xor] at this
      rw [decide_eq_true q, Bool.true_and]
      cases ha' : bt a k <;> cases hb' : bt b k <;> simp_all
    · rw [hb k (by omega), decide_eq_false q, Bool.false_and]
theorem q_oppositeCard (h : RR I J c L m) (x : Int32) : Eqv c L m [eIS, eIX] (s_X8_oppositeCard I c L P x) (s_X9_oppositeCard J m x) := by
  rcases rq_Card (P := P) h x with ⟨E, t, e1, e2, e3⟩ | ⟨H, W, C, P', R, k, hl, hk, hx, rfl, e1, e2⟩
  · exact Eqv_ref h (by unfold s_X8_oppositeCard; rw [e1, bx_r]) (by unfold s_X9_oppositeCard; rw [e2, bd2_some]; rfl) e3
  · obtain ⟨⟨g0, g2, g3, g4, g5⟩, b1, b2, b3, b4, b5, b6⟩ := hk.g
    obtain ⟨c0, c4, c7, c3, cs⟩ := hk.c
    obtain ⟨k1, k2, -⟩ := hk.card hx
    unfold s_X8_oppositeCard s_X9_oppositeCard
    rw [e1, e2, bx_l, bd2_some, if_pos rfl, lx_s, atF_nI (by omega) (by omega)]
    have hc : s_X8_oppositeCard_L29 I c L P (x3_other I L (I (L + 10 + 3) k)) (nI k) lf 0 = some (sumF (fun j => (.inl (nI j), I)) (nI C) (findF (fun j => decide (I (L + 10 + 3) j = x3_other I L (I (L + 10 + 3) k))) (C - 0) 0)) := by
      refine loopS (fun f i => s_X8_oppositeCard_L29 I c L P (x3_other I L (I (L + 10 + 3) k)) (nI k) f i) _ _ _ 0 C (fun f => ?_) (fun f j hj1 hj => ?_) lf 0 (Nat.le_refl 0) (Nat.zero_le C) (by unfold lf; omega)
      · show s_X8_oppositeCard_L29 I c L P (x3_other I L (I (L + 10 + 3) k)) (nI k) (f + 1) (nI C) = _
        rw [s_X8_oppositeCard_L29, c7, if_pos (Int32.le_refl _)]
      · show s_X8_oppositeCard_L29 I c L P (x3_other I L (I (L + 10 + 3) k)) (nI k) (f + 1) (nI j) = _
        rw [s_X8_oppositeCard_L29, c7, if_neg (nI_ge hj (by omega)), atF_nI (by omega) (by omega), nI_1]
        by_cases q : I (L + 10 + 3) j = x3_other I L (I (L + 10 + 3) k)
        · rw [if_pos q, decide_eq_true q]; rfl
        · rw [if_neg q, decide_eq_false q]; rfl
    have hm : s_X9_oppositeCard_L12 (stI J m 0 0) m (nI k) lf 0 = some (sumF (fun j => (nI j, stI J m 0 0)) (nI C) (findF (fun j => decide (I (L + 10 + 3) j = x3_other I L (I (L + 10 + 3) k))) (C - 0) 0)) := by
      refine loopS (fun f i => s_X9_oppositeCard_L12 (stI J m 0 0) m (nI k) f i) _ _ _ 0 C (fun f => ?_) (fun f j hj1 hj => ?_) lf 0 (Nat.le_refl 0) (Nat.zero_le C) (by unfold lf; omega)
      · show s_X9_oppositeCard_L12 (stI J m 0 0) m (nI k) (f + 1) (nI C) = _
        rw [s_X9_oppositeCard_L12, gl3, cl3, g3, if_pos (Int32.le_refl _)]
      · show s_X9_oppositeCard_L12 (stI J m 0 0) m (nI k) (f + 1) (nI j) = _
        obtain ⟨k3, k4, -⟩ := hk.card hj
        rw [s_X9_oppositeCard_L12, gl3, cl3, g3, if_neg (nI_ge hj (by omega)), a_ofCard0 (by omega), bd_some, a_ofCard0 (by omega), bd_some, k2, k4, e_countOf, bd_some, gl0, cl0, g0, nI_1]
        have hi := opp_iff k1 k3 b1
        have hle := cntB_le (bt (I (L + 10 + 3) k ^^^ I (L + 10 + 3) j)) 8
        unfold x3_other
        rw [c0]
        by_cases q : I (L + 10 + 3) j = (((1 : Int32) <<< (nI H &&& 31)) - 1 &&& (I (L + 10 + 3) k ^^^ (-1)))
        · rw [decide_eq_true q, hi.mp q, if_pos rfl]; rfl
        · rw [decide_eq_false q, if_neg (fun z => q (hi.mpr ((nI_eq (by omega) (by omega)).mp z)))]; rfl
    rw [hc, hm]
    cases findF (fun j => decide (I (L + 10 + 3) j = x3_other I L (I (L + 10 + 3) k))) (C - 0) 0 <;> exact Eqv_ok h rfl rfl
theorem q_warpShare (h : RR I J c L m) : Eqv c L m [eIS] (s_X8_warpShare I c L P) (s_X9_warpShare J m) := by
  rcases rq_look (P := P) h with ⟨e1, e2⟩ | ⟨H, W, C, P', R, hl, hk, e1, e2⟩
  · refine Eqv_ref h (by unfold s_X8_warpShare; rw [e1, bx_r]) (by unfold s_X9_warpShare; rw [e2, bd2_some]; rfl) tA
  · obtain ⟨⟨g0, g2, g3, g4, g5⟩, b1, b2, b3, b4, b5, b6⟩ := hk.g
    obtain ⟨c0, c4, c7, c3, cs⟩ := hk.c
    have hW := hl.2.2.1
    unfold s_X8_warpShare s_X9_warpShare
    rw [e1, e2, bx_l, bd2_some, if_pos rfl, lx_s]
    simp only [gl0, gl1, gl2, gl3, gl4, gl5, gl6, gl7, gl8, gl9, gl10, gl11, gl12, gl13, cl0, cl1, cl2, cl3, cl4, cl5, cl6, cl7, cl8, cl9, cl10, cl11, cl12, cl13, g5, g2, cs, c4, nI_mul]
    rw [cl_nI (by omega)]
    have hRW : R * W ≤ 60 * 24 := Nat.mul_le_mul b5 b2
    by_cases q : R = 0
    · subst q
      rw [Nat.zero_mul, if_neg (by decide), if_pos nI_z]
      exact Eqv_ok h rfl rfl
    · have hp : 0 < R * W := Nat.mul_pos (by omega) hW
      rw [if_pos (nI_p0 hp (by omega)), if_neg (nI_ne0 (by omega) (by omega))]
      rw [show s_X9_warpShare_L22 (stI J m 0 0) m lf 0 0 = some (shF (I (L + 10 + 5)) R, nI R) from l_share2 hk (j := 0) (Nat.le_refl 0) (Nat.zero_le R), bd_some]
      obtain ⟨z, z1, z2⟩ := shF_sum hk R (Nat.le_refl R)
      dsimp only
      rw [z2, gd_i (n32_div (by omega) hp (by omega)), gd_i (n32_div (by omega) hp (by omega))]
      exact Eqv_ok h rfl rfl
theorem alF_sum {H W C P' R : Nat} {f : Nat → Int32} (hk : KR I L (L + 10) f H W C P' R) : ∀ n, n ≤ C → ∃ z, z ≤ 8 * n ∧ alF (I (L + 10 + 3)) n = nI z := by
  obtain ⟨-, b1, b2, b3, b4, b5, b6⟩ := hk.g
  intro n
  induction n with
  | zero => intro _; exact ⟨0, by omega, rfl⟩
  | succ n ih =>
    intro hn
    obtain ⟨z, z1, z2⟩ := ih (by omega)
    have hl := cntB_le (bt (I (L + 10 + 3) n)) 8
    refine ⟨z + cntB (bt (I (L + 10 + 3) n)) 8, by omega, ?_⟩
    unfold alF
    rw [z2, atF_nI (by omega) (by omega), bcF_LB ((hk.card (by omega)).1.mono b1) (by omega), nI_add]
theorem q_averageLifts (h : RR I J c L m) : Eqv c L m [eIS] (s_X8_averageLifts I c L P) (s_X9_averageLifts J m) := by
  rcases rq_look (P := P) h with ⟨e1, e2⟩ | ⟨H, W, C, P', R, hl, hk, e1, e2⟩
  · refine Eqv_ref h (by unfold s_X8_averageLifts; rw [e1, bx_r]) (by unfold s_X9_averageLifts; rw [e2, bd2_some]; rfl) tA
  · obtain ⟨⟨g0, g2, g3, g4, g5⟩, b1, b2, b3, b4, b5, b6⟩ := hk.g
    obtain ⟨c0, c4, c7, c3, cs⟩ := hk.c
    unfold s_X8_averageLifts s_X9_averageLifts
    rw [e1, e2, bx_l, bd2_some, if_pos rfl]
    simp only [gl0, gl1, gl2, gl3, gl4, gl5, gl6, gl7, gl8, gl9, gl10, gl11, gl12, gl13, cl0, cl1, cl2, cl3, cl4, cl5, cl6, cl7, cl8, cl9, cl10, cl11, cl12, cl13, g3, c7]
    by_cases q : C = 0
    · subst q
      rw [if_neg (by decide), if_pos nI_z]
      exact Eqv_ok h rfl rfl
    · rw [if_pos (nI_p0 (by omega) (by omega)), if_neg (nI_ne0 (by omega) (by omega))]
      have hc : s_X8_averageLifts_L22 I c L P (nI C) lf 0 0 = some (alF (I (L + 10 + 3)) C, nI C) := by
        refine loopA (fun f a i => s_X8_averageLifts_L22 I c L P (nI C) f a i) (fun j => alF (I (L + 10 + 3)) j) _ 0 C (fun f => ?_) (fun f j hj1 hj => ?_) lf 0 (Nat.le_refl 0) (Nat.zero_le C) (by unfold lf; omega)
        · show s_X8_averageLifts_L22 I c L P (nI C) (f + 1) (alF (I (L + 10 + 3)) C) (nI C) = _
          rw [s_X8_averageLifts_L22, if_pos (Int32.le_refl _)]
        · show s_X8_averageLifts_L22 I c L P (nI C) (f + 1) (alF (I (L + 10 + 3)) j) (nI j) = _
          rw [s_X8_averageLifts_L22, if_neg (nI_ge hj (by omega)), lx_s, nI_1]
          rfl
      rw [hc, show s_X9_averageLifts_L22 (stI J m 0 0) m lf 0 0 = some (alF (I (L + 10 + 3)) C, nI C) from l_avg hk (j := 0) (Nat.le_refl 0) (Nat.zero_le C), bd_some, bd_some]
      obtain ⟨z, z1, z2⟩ := alF_sum hk C (Nat.le_refl C)
      dsimp only
      rw [z2, gd_i (n64_div (by omega) (by omega) (by omega)), gd_i (n64_div (by omega) (by omega) (by omega))]
      exact Eqv_ok h rfl rfl
end ASK2
