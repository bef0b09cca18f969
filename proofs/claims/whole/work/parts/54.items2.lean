/-! the items that change the state or a setting -/
section ITB
variable {I J I' J' : JI} {p P m N k y x H W C K R y0 : Nat}
theorem it_yarn (hP : p + 3 ≤ P) (h : GS I J p P m N k y x H W C K R) (hk : k ≠ 0) : ITM p P m N y (s_X5_readYarn I p P) (s_X9_readsYarn J m) := by
  unfold s_X5_readYarn s_X9_readsYarn
  obtain ⟨I1, J1, k1, y1, x1, a1, b1, g1, l1, -⟩ := g_adv hP h hk
  rw [a1, b1, bd_some, bd_some]
  rcases g_col hP g1 with ⟨q, I2, J2, k2, y2, x2, hq, a2, b2, n2, g2, l2⟩ | ⟨I2, J2, a2, b2, e2⟩
  · rw [a2, b2, bd2_some, bd2_some, if_pos rfl]
    rcases g_take hP g2 (lo := 1) (hi := 999) with ⟨v, I3, J3, k3, y3, x3, v1, v2, v3, a3, b3, n3, g3, l3⟩ | ⟨I3, J3, a3, b3, e3⟩
    · obtain ⟨J4, o1, hk2⟩ := e_brings g3.2.1 (Nat.le_refl _) hq (nI v)
      rw [a3, b3, bd2_some, bd2_some, if_pos rfl, if_pos (g_c10 g3), lx_s, n2, n3, o1, bd_some]
      exact ITM_ok rfl rfl (GS_op hP g3 hk2 (fun z hz => fr_x7_bring (by omega)) (fun z hz => fr_X9_brings o1 hz)) (by omega)
    · rw [a3, b3, bd2_some, bd2_some, if_neg Bool.false_ne_true, if_neg e3.em.ne]
      exact ITM_er rfl rfl e3
  · rw [a2, b2, bd2_some, bd2_some, if_neg Bool.false_ne_true, er_readNumber e2.em, bd2_some, if_neg e2.em.ne]
    exact ITM_er rfl rfl e2
theorem it_punch (hP : p + 3 ≤ P) (h : GS I J p P m N k y x H W C K R) (hk : k ≠ 0) : ITM p P m N y (s_X5_readPunch I p P) (s_X9_readsPunch J m) := by
  unfold s_X5_readPunch s_X9_readsPunch
  obtain ⟨I1, J1, k1, y1, x1, a1, b1, g1, l1, -⟩ := g_adv hP h hk
  rw [a1, b1, bd_some, bd_some]
  rcases g_takeC hP g1 with ⟨q, I2, J2, k2, y2, x2, hq, a2, b2, n2, g2, l2⟩ | ⟨I2, J2, a2, b2, e2⟩
  · rw [a2, b2, bd2_some, bd2_some, if_pos rfl]
    rcases g_takeH hP g2 with ⟨v, I3, J3, k3, y3, x3, v1, a3, b3, n3, g3, l3⟩ | ⟨I3, J3, a3, b3, e3⟩
    · obtain ⟨J4, o1, hk2⟩ := e_punches g3.2.1 (Nat.le_refl _) hq v1
      rw [a3, b3, bd2_some, bd2_some, if_pos rfl, if_pos (g_c10 g3), lx_s, n2, n3, o1, bd_some]
      exact ITM_ok rfl rfl (GS_op hP g3 hk2 (fun z hz => fr_x7_punchCard (by omega)) (fun z hz => fr_X9_punches o1 hz)) (by omega)
    · rw [a3, b3, bd2_some, bd2_some, if_neg Bool.false_ne_true, if_neg e3.em.ne]
      exact ITM_er rfl rfl e3
  · rw [a2, b2, bd2_some, bd2_some, if_neg Bool.false_ne_true, er_r0 e2.em, bd2_some, if_neg e2.em.ne]
    exact ITM_er rfl rfl e2
theorem it_dye (hP : p + 3 ≤ P) (h : GS I J p P m N k y x H W C K R) (hk : k ≠ 0) : ITM p P m N y (s_X5_readDye I p P) (s_X9_readsDye J m) := by
  unfold s_X5_readDye s_X9_readsDye
  obtain ⟨I1, J1, k1, y1, x1, a1, b1, g1, l1, -⟩ := g_adv hP h hk
  rw [a1, b1, bd_some, bd_some]
  rcases g_takeC hP g1 with ⟨q, I2, J2, k2, y2, x2, hq, a2, b2, n2, g2, l2⟩ | ⟨I2, J2, a2, b2, e2⟩
  · rw [a2, b2, bd2_some, bd2_some, if_pos rfl]
    rcases g_col hP g2 with ⟨v, I3, J3, k3, y3, x3, v1, a3, b3, n3, g3, l3⟩ | ⟨I3, J3, a3, b3, e3⟩
    · obtain ⟨J4, o1, hk2⟩ := e_dyes g3.2.1 (Nat.le_refl _) hq v1
      rw [a3, b3, bd2_some, bd2_some, if_pos rfl, if_pos (g_c10 g3), lx_s, n2, n3, o1, bd_some]
      exact ITM_ok rfl rfl (GS_op hP g3 hk2 (fun z hz => fr_x7_changeColour (by omega)) (fun z hz => fr_X9_dyes o1 hz)) (by omega)
    · rw [a3, b3, bd2_some, bd2_some, if_neg Bool.false_ne_true, if_neg e3.em.ne]
      exact ITM_er rfl rfl e3
  · rw [a2, b2, bd2_some, bd2_some, if_neg Bool.false_ne_true, er_colour e2.em, bd2_some, if_neg e2.em.ne]
    exact ITM_er rfl rfl e2
theorem it_oil (hP : p + 3 ≤ P) (h : GS I J p P m N k y x H W C K R) (hk : k ≠ 0) : ITM p P m N y (s_X5_readOil I p P) (s_X9_readsOil J m) := by
  unfold s_X5_readOil s_X9_readsOil
  obtain ⟨I1, J1, k1, y1, x1, a1, b1, g1, l1, -⟩ := g_adv hP h hk
  rw [a1, b1, bd_some, bd_some]
  rcases g_takeH hP g1 with ⟨v, I3, J3, k3, y3, x3, v1, a3, b3, n3, g3, l3⟩ | ⟨I3, J3, a3, b3, e3⟩
  · obtain ⟨J4, o1, hk2⟩ := e_oils g3.2.1 (Nat.le_refl _) v1
    rw [a3, b3, bd2_some, bd2_some, if_pos rfl, if_pos (g_c10 g3), lx_s, n3, o1, bd_some]
    exact ITM_ok rfl rfl (GS_op hP g3 hk2 (fun z hz => fr_x7_oilHarness (by omega)) (fun z hz => fr_X9_oils o1 hz)) (by omega)
  · rw [a3, b3, bd2_some, bd2_some, if_neg Bool.false_ne_true, if_neg e3.em.ne]
    exact ITM_er rfl rfl e3
theorem other_x {ls : Int32} (hl : LB H ls) (hH : H ≤ 8) : (((1 : Int32) <<< (nI H &&& 31)) - 1 &&& (ls ^^^ (-1))) = ls ^^^ (((1 : Int32) <<< (nI H &&& 31)) - 1) := by
  apply bt_ext
  intro j hj
  rw [bt_and, bt_not hj, bt_xor, ones_bt hH hj]
  by_cases q : j < H
  · rw [decide_eq_true q]; cases bt ls j <;> rfl
  · rw [decide_eq_false q, hl j (by omega)]; rfl
theorem LB_ones (hH : H ≤ 8) : LB H (((1 : Int32) <<< (nI H &&& 31)) - 1) := by
  intro j hj
  by_cases q : j < 32
  · rw [ones_bt hH q, decide_eq_false (by omega)]
  · exact bt_ge (by omega)
theorem a_puts0 {c : Nat} {v : Int32} (hc : c < 12) : s_X9_putsCard J m (nI c) 0 v = some (stI J (m + 1) (116 + 4 * c) v) := a_putsCard (k := 0) hc (by decide)
theorem a_puts1 {c : Nat} {v : Int32} (hc : c < 12) : s_X9_putsCard J m (nI c) 1 v = some (stI J (m + 1) (117 + 4 * c) v) := by
  rw [show (1 : Int32) = nI 1 from rfl, a_putsCard hc (show 1 < 4 by decide), show 116 + 4 * c + 1 = 117 + 4 * c by omega]
theorem a_puts2 {c : Nat} {v : Int32} (hc : c < 12) : s_X9_putsCard J m (nI c) 2 v = some (stI J (m + 1) (118 + 4 * c) v) := by
  rw [show (2 : Int32) = nI 2 from rfl, a_putsCard hc (show 2 < 4 by decide), show 116 + 4 * c + 2 = 118 + 4 * c by omega]
theorem a_puts3 {c : Nat} {v : Int32} (hc : c < 12) : s_X9_putsCard J m (nI c) 3 v = some (stI J (m + 1) (119 + 4 * c) v) := by
  rw [show (3 : Int32) = nI 3 from rfl, a_putsCard hc (show 3 < 4 by decide), show 116 + 4 * c + 3 = 119 + 4 * c by omega]
theorem it_invert (hP : p + 3 ≤ P) (h : GS I J p P m N k y x H W C K R) (hk : k ≠ 0) : ITM p P m N y (s_X5_readInvert I p P) (s_X9_readsInvert J m) := by
  unfold s_X5_readInvert s_X9_readsInvert
  obtain ⟨I1, J1, k1, y1, x1, a1, b1, g1, l1, -⟩ := g_adv hP h hk
  rw [a1, b1, bd_some, bd_some]
  rcases g_takeC hP g1 with ⟨q, I2, J2, k2, y2, x2, hq, a2, b2, n2, g2, l2⟩ | ⟨I2, J2, a2, b2, e2⟩
  · have hC := g2.2.1.g.2.2.2.1
    have hH := g2.2.1.g.2.1
    obtain ⟨d1, d2, -⟩ := g2.2.1.card hq
    rw [a2, b2, bd2_some, bd2_some, if_pos rfl, if_pos (show J2 m 10 ≤ 0 by rw [g_c10 g2]; exact Int32.le_refl 0), lx_s, n2, a_ofCard0 (by omega), bd_some, gl0, cl0, g2.2.1.g.1.1, d2, a_puts0 (by omega), bd_some, gl8, cl8, lx_s, atF_nI (by omega) (by omega), chL (by omega)]
    unfold x3_other
    rw [g2.2.1.c.1, other_x d1 hH]
    refine ITM_ok rfl rfl (GS_op hP g2 (R' := R) ?_ (fun z hz => by rw [stI_ne (by omega), stI_ne (by omega)]) (fun z hz => by rw [stI_ne (by omega), stI_ne (by omega)])) (by omega)
    rw [stI_up, stI_up]
    exact KR_lifts g2.2.1 (Nat.le_refl _) hq (d1.xor (LB_ones hH))
  · rw [a2, b2, bd2_some, bd2_some, if_neg Bool.false_ne_true, if_neg e2.em.le]
    exact ITM_er rfl rfl e2
theorem GS_set (hP : p + 3 ≤ P) (h : GS I J p P m N k y x H W C K R) (kr : KR I' P (P + 10) (J' (m + 1)) H W C K R) (fI : ∀ z, z ≠ P → I' z = I z) (fJ : ∀ z, z ≠ m + 1 → J' z = J z) : GS I' J' p P m N k y x H W C K R :=
  ⟨TS_dep h.1 (fI _ (by omega)) (fI _ (by omega)) (fI _ (by omega)) (fJ _ (by omega)) (fJ _ (by omega)), kr, DW_same h.2.2 (fI _ (by omega)) (fI _ (by omega))⟩
theorem it_strain (hP : p + 3 ≤ P) (h : GS I J p P m N k y x H W C K R) (hk : k ≠ 0) : ITM p P m N y (s_X5_readStrain I p P) (s_X9_readsSetting J m 11 0 60) := by
  unfold s_X5_readStrain s_X9_readsSetting
  obtain ⟨I1, J1, k1, y1, x1, a1, b1, g1, l1, -⟩ := g_adv hP h hk
  rw [a1, b1, bd_some, bd_some]
  rcases g_take hP g1 (lo := 0) (hi := 60) with ⟨v, I3, J3, k3, y3, x3, v1, v2, v3, a3, b3, n3, g3, l3⟩ | ⟨I3, J3, a3, b3, e3⟩
  · rw [a3, b3, bd2_some, bd2_some, if_pos rfl, if_pos (g_c10 g3), lx_s, n3, gl11, cl11, lx_s]
    have hv : v ≤ 60 := (nI_leL (n := 60) (by omega) (by omega)).mp v3
    refine ITM_ok rfl rfl (GS_set hP g3 ?_ (fun z hz => stI_ne hz) (fun z hz => stI_ne hz)) (by omega)
    rw [stI_up]
    refine KR_fix g3.2.1 (Nat.le_refl _) (fun z hz => stI_ne hz) (fun j j1 j2 => stI_aj j1) (fun j j1 j2 => up_ne j1) ⟨v, hv, stI_at⟩ ?_ (by rw [stI_at]; exact up_eq) ?_
    · obtain ⟨-, ⟨q, q1, q2, -⟩, -⟩ := g3.2.1.set
      exact ⟨q, q1, by rw [stI_aj (by decide)]; exact q2⟩
    · obtain ⟨-, ⟨q, q1, q2, q3⟩, -⟩ := g3.2.1.set
      rw [up_ne (by decide), stI_aj (by decide), q2]; exact q3
  · rw [a3, b3, bd2_some, bd2_some, if_neg Bool.false_ne_true, if_neg e3.em.ne]
    exact ITM_er rfl rfl e3
theorem it_motor (hP : p + 3 ≤ P) (h : GS I J p P m N k y x H W C K R) (hk : k ≠ 0) : ITM p P m N y (s_X5_readMotor I p P) (s_X9_readsSetting J m 12 1 24) := by
  unfold s_X5_readMotor s_X9_readsSetting
  obtain ⟨I1, J1, k1, y1, x1, a1, b1, g1, l1, -⟩ := g_adv hP h hk
  rw [a1, b1, bd_some, bd_some]
  rcases g_take hP g1 (lo := 1) (hi := 24) with ⟨v, I3, J3, k3, y3, x3, v1, v2, v3, a3, b3, n3, g3, l3⟩ | ⟨I3, J3, a3, b3, e3⟩
  · rw [a3, b3, bd2_some, bd2_some, if_pos rfl, if_pos (g_c10 g3), lx_s, n3, gl12, cl12, lx_s]
    have hv : v ≤ 24 := (nI_leL (n := 24) (by omega) (by omega)).mp v3
    refine ITM_ok rfl rfl (GS_set hP g3 ?_ (fun z hz => stI_ne hz) (fun z hz => stI_ne hz)) (by omega)
    rw [stI_up]
    refine KR_fix g3.2.1 (Nat.le_refl _) (fun z hz => stI_ne hz) (fun j j1 j2 => stI_aj j2) (fun j j1 j2 => up_ne j2) ?_ ⟨v, hv, stI_at⟩ ?_ (by rw [stI_at]; exact up_eq)
    · obtain ⟨⟨q, q1, q2, -⟩, -⟩ := g3.2.1.set
      exact ⟨q, q1, by rw [stI_aj (by decide)]; exact q2⟩
    · obtain ⟨⟨q, q1, q2, q3⟩, -⟩ := g3.2.1.set
      rw [up_ne (by decide), stI_aj (by decide), q2]; exact q3
  · rw [a3, b3, bd2_some, bd2_some, if_neg Bool.false_ne_true, if_neg e3.em.ne]
    exact ITM_er rfl rfl e3
theorem g_fail (h : GS I J p P m N k y x H W C K R) : (∃ I', s_X5_fail I p P 3 = some (false, I') ∧ ER I' (s_X9_refuses J m true) p m) ∧ (∃ I', s_X5_fail I p P 4 = some (false, I') ∧ ER I' (s_X9_limits J m true) p m) ∧ (∃ I', s_X5_fail I p P 1 = some (false, I') ∧ ER I' (s_X9_faults J m 1) p m) ∧ s_X9_refuses J m false = J ∧ s_X9_limits J m false = J := by
  obtain ⟨r1, r2, r3, r4⟩ := e_refuses h.1
  refine ⟨?_, ?_, ?_, r3, r4⟩
  · rw [r1]; exact e_fail (P := P) h.1 (e := 3) (by omega)
  · rw [r2]; exact e_fail (P := P) h.1 (e := 4) (by omega)
  · exact e_fail (P := P) h.1 (e := 1) (by omega)
theorem it_swap (hP : p + 3 ≤ P) (h : GS I J p P m N k y x H W C K R) (hk : k ≠ 0) : ITM p P m N y (s_X5_readSwap I p P) (s_X9_readsSwap J m) := by
  unfold s_X5_readSwap s_X9_readsSwap
  obtain ⟨I1, J1, k1, y1, x1, a1, b1, g1, l1, -⟩ := g_adv hP h hk
  rw [a1, b1, bd_some, bd_some]
  rcases g_takeC hP g1 with ⟨q, I2, J2, k2, y2, x2, hq, a2, b2, n2, g2, l2⟩ | ⟨I2, J2, a2, b2, e2⟩
  · have hC := g2.2.1.g.2.2.2.1
    rw [a2, b2, bd2_some, bd2_some, if_pos rfl, n2]
    rcases (g_see hP g2).2.1 with ⟨v, v1, hk2, v2, v3, a3, b3, g3⟩ | ⟨I3, J3, a3, b3, e3⟩
    · rw [a3, b3, bd2_some, bd2_some, if_pos rfl, stI_at]
      by_cases e : v = q
      · subst e
        obtain ⟨⟨I4, a4, e4⟩, -⟩ := g_fail (P := P) g3
        rw [if_pos rfl, if_pos rfl, a4, bd2_some, lx_s, if_neg e4.em.ne, er_goes e4.em, bd_some]
        exact ITM_er rfl rfl e4
      · obtain ⟨-, -, -, r3, -⟩ := g_fail (P := P) g3
        obtain ⟨J4, o1, hk2⟩ := e_swaps g3.2.1 (Nat.le_refl _) hq v1
        have g4 := GS_op hP g3 hk2 (fun z hz => fr_x7_exchangeCards (by omega)) (fun z hz => fr_X9_swaps o1 hz)
        obtain ⟨I5, J5, k5, y5, x5, a5, b5, g5, l5, -⟩ := g_adv hP g4 (by omega)
        rw [if_neg (show ¬ nI v = nI q from fun w => e ((nI_eq (by omega) (by omega)).mp w)), if_neg (show ¬ nI q = nI v from fun w => e ((nI_eq (by omega) (by omega)).mp w).symm), lx_s, lx_s, r3, if_pos (g_c10 g3), o1, bd_some, a5, b5, bd_some, bd_some]
        exact ITM_ok rfl rfl g5 (by omega)
    · rw [a3, b3, bd2_some, bd2_some, if_neg Bool.false_ne_true]
      by_cases e : nI q = 0
      · rw [if_pos e, lx_s, er_refuses e3.em, if_neg e3.em.ne, er_goes e3.em, bd_some]
        exact ITM_er rfl rfl e3
      · rw [if_neg e, lx_s, er_refuses e3.em, if_neg e3.em.ne, er_goes e3.em, bd_some]
        exact ITM_er rfl rfl e3
  · rw [a2, b2, bd2_some, bd2_some, if_neg Bool.false_ne_true, er_i3 e2.em, bd2_some, if_pos rfl, lx_s, er_refuses e2.em, if_neg e2.em.ne, er_goes e2.em, bd_some]
    exact ITM_er rfl rfl e2
theorem it_mend (hP : p + 3 ≤ P) (h : GS I J p P m N k y x H W C K R) (hk : k ≠ 0) : ITM p P m N y (s_X5_readMend I p P) (s_X9_readsMend J m) := by
  unfold s_X5_readMend s_X9_readsMend
  obtain ⟨I1, J1, k1, y1, x1, a1, b1, g1, l1, -⟩ := g_adv hP h hk
  rw [a1, b1, bd_some, bd_some]
  rcases (g_see hP g1).2.2 with ⟨v, v1, hk2, a3, b3, g3⟩ | ⟨I3, J3, a3, b3, e3⟩
  · have hW := g3.2.1.g.2.2.1
    rw [a3, b3, bd2_some, bd2_some, if_pos rfl, if_pos (g_c10 g3), stI_at, a_breaks (by omega), bd_some, g3.2.1.brk v1, hasB_bt (by omega)]
    obtain ⟨⟨I4, a4, e4⟩, -, -, r3, -⟩ := g_fail (P := P) g3
    cases hb : bt (stI I1 p 4 (nI v) (P + 10) 2) v
    · rw [if_neg Bool.false_ne_true, show decide (zb false = 1) = false from rfl, if_neg Bool.false_ne_true, a4, bd2_some, lx_s, if_neg e4.em.ne, er_goes e4.em, bd_some]
      exact ITM_er rfl rfl e4
    · obtain ⟨J4, o1, hk4⟩ := e_mends g3.2.1 (Nat.le_refl _) v1
      have g4 := GS_op hP g3 hk4 (fun z hz => fr_x7_mendWarp (by omega)) (fun z hz => fr_X9_putsWarp o1 hz)
      obtain ⟨I5, J5, k5, y5, x5, a5, b5, g5, l5, -⟩ := g_adv hP g4 (by omega)
      rw [if_pos rfl, show decide (zb true = 1) = true from rfl, if_pos rfl, lx_s, lx_s, r3, if_pos (g_c10 g3), o1, bd_some, a5, b5, bd_some, bd_some]
      exact ITM_ok rfl rfl g5 (by omega)
  · rw [a3, b3, bd2_some, bd2_some, if_neg Bool.false_ne_true, if_neg e3.em.ne, lx_s, er_refuses e3.em, if_neg e3.em.ne, er_goes e3.em, bd_some]
    exact ITM_er rfl rfl e3
theorem fr_rmN {L t : Nat} {z : Nat} (h : z < L + 10 ∨ L + 17 ≤ z) : ∀ (n : Nat) (I : JI), rmI L n I z = I z := by
  intro n
  induction n with
  | zero => intro I; rfl
  | succ n ih =>
    intro I
    unfold rmI
    split
    · rw [ih]
      unfold rmB
      exact (fr_x7_addYarn (by omega)).trans (stI_ne (by omega))
    · rfl
theorem it_unweave (hP : p + 3 ≤ P) (h : GS I J p P m N k y x H W C K R) (hk : k ≠ 0) : ITM p P m N y (s_X5_readUnweave I p P) (s_X9_readsUnweave J m) := by
  unfold s_X5_readUnweave s_X9_readsUnweave
  obtain ⟨I1, J1, k1, y1, x1, a1, b1, g1, l1, -⟩ := g_adv hP h hk
  rw [a1, b1, bd_some, bd_some]
  rcases g_num hP g1 (lo := 1) (hi := 60) with ⟨v, hk2, v1, v2, v3, a3, b3, g3⟩ | ⟨I3, J3, a3, b3, e3⟩
  · have hv : v ≤ 60 := (nI_leL (n := 60) (by omega) (by omega)).mp v3
    have hR := g3.2.1.g.2.2.2.2.2.1
    obtain ⟨⟨I4, a4, e4⟩, -, -, r3, -⟩ := g_fail (P := P) g3
    rw [a3, b3, bd2_some, bd2_some, if_pos rfl, stI_at, gl5, cl5, g3.2.1.g.1.2.2.2.2, g3.2.1.c.2.2.2.2]
    by_cases e : v ≤ R
    · rw [if_pos (nI_le e (by omega)), if_pos (nI_le e (by omega)), cl_nI (by omega), lx_s, lx_s, r3, if_pos (g_c10 g3)]
      obtain ⟨J4, o1, hk4⟩ := e_removes g3.2.1 e
      have g4 := GS_op hP g3 hk4 (fun z hz => fr_rmN (t := 0) hz _ _) (fun z hz => fr_X9_removes o1 hz)
      obtain ⟨I5, J5, k5, y5, x5, a5, b5, g5, l5, -⟩ := g_adv hP g4 (by omega)
      rw [o1, bd_some, a5, b5, bd_some, bd_some]
      exact ITM_ok rfl rfl g5 (by omega)
    · rw [if_neg (nI_ge (by omega) (by omega)), if_neg (nI_ge (by omega) (by omega)), a4, bd2_some, lx_s, if_neg e4.em.ne, er_goes e4.em, bd_some]
      exact ITM_er rfl rfl e4
  · rw [a3, b3, bd2_some, bd2_some, if_neg Bool.false_ne_true, gl5]
    by_cases e : (1 : Int32) ≤ J3 (m + 1) (Int32.toNatClampNeg 5)
    · rw [if_pos e, lx_s, er_refuses e3.em, if_neg e3.em.ne, er_goes e3.em, bd_some]
      exact ITM_er rfl rfl e3
    · rw [if_neg e, lx_s, er_refuses e3.em, if_neg e3.em.ne, er_goes e3.em, bd_some]
      exact ITM_er rfl rfl e3
theorem wuN_le {L s : Nat} : ∀ (n : Nat) (I : JI), wuN L s n I ≤ n := by
  intro n
  induction n with
  | zero => intro I; exact Nat.le_refl 0
  | succ n ih =>
    intro I
    unfold wuN
    split
    · have := ih (x3_weaveNext I L s); omega
    · omega
theorem it_weave (hP : p + 3 ≤ P) (h : GS I J p P m N k y x H W C K R) (hk : k ≠ 0) : ITM p P m N y (s_X5_readWeave I p P) (s_X9_readsWeave J m) := by
  unfold s_X5_readWeave s_X9_readsWeave
  obtain ⟨I1, J1, k1, y1, x1, a1, b1, g1, l1, -⟩ := g_adv hP h hk
  rw [a1, b1, bd_some, bd_some]
  rcases g_num hP g1 (lo := 1) (hi := 60) with ⟨v, hk2, v1, v2, v3, a3, b3, g3⟩ | ⟨I3, J3, a3, b3, e3⟩
  · have hv : v ≤ 60 := (nI_leL (n := 60) (by omega) (by omega)).mp v3
    obtain ⟨J4, R4, o1, hk4⟩ := e_weaves g3.2.1 (Nat.le_refl _) hv
    have g4 := GS_op hP g3 hk4 (fun z hz => fr_wuI (by omega)) (fun z hz => fr_X9_weaves o1 hz)
    obtain ⟨⟨I5, a5, e5⟩, -, -, r5, -⟩ := g_fail (P := P) g4
    have wle := wuN_le (L := P) (s := P + 10) v (stI I1 p 4 (nI v))
    rw [a3, b3, bd2_some, bd2_some, if_pos rfl, stI_at, gd_i (wvok g3.2.1), cl_nI (by omega), lx_s, lx_s, if_pos (show J1 m 10 ≤ 0 by rw [g_c10 g3]; exact Int32.le_refl 0), o1, bd2_some, show wuI P (P + 10) v (stI I1 p 4 (nI v)) p 4 = nI v by rw [fr_wuI (by omega)]; exact stI_at]
    by_cases e : v ≤ wuN P (P + 10) v (stI I1 p 4 (nI v))
    · obtain ⟨I6, J6, k6, y6, x6, a6, b6, g6, l6, -⟩ := g_adv hP g4 (by omega)
      rw [if_pos (nI_le e (by omega)), if_pos (nI_le e (by omega)), lx_s, r5, a6, b6, bd_some, bd_some]
      exact ITM_ok rfl rfl g6 (by omega)
    · rw [if_neg (nI_ge (by omega) (by omega)), if_neg (nI_ge (by omega) (by omega)), a5, bd2_some, lx_s, er_goes e5.em, bd_some]
      exact ITM_er rfl rfl e5
  · rw [a3, b3, bd2_some, bd2_some, if_neg Bool.false_ne_true, if_neg e3.em.le, if_pos (Int32.le_refl _), lx_s, er_refuses e3.em, er_goes e3.em, bd_some]
    exact ITM_er rfl rfl e3
end ITB
