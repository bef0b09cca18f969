/-! warps break; weaving as a whole -/
section WV3
variable {I J : JI} {L s m H W C P R : Nat}
theorem KR_dist {f : Nat → Int32} (h : KR I L s f H W C P R) (hs : L + 10 ≤ s) : KR (stI I s 5 1) L s (up f 13 1) H W C P R := by
  have hq := h
  obtain ⟨⟨⟨-, l0⟩, ⟨-, l1⟩, ⟨-, l2⟩, -⟩, -, hv, hb⟩ := hq
  have b5 := h.g.2.2.2.2.2.1
  refine KR_frame h hs (fun z hz => stI_ne (by omega)) (fun j hj => up_ne (by unfold fixP at hj; omega)) ?_ ?_
  · obtain ⟨y1, y2, y3, y4, y5, y6, y7⟩ := hv
    unfold SVal
    rw [stI_aj (show 0 ≠ 5 by decide), stI_aj (show 1 ≠ 5 by decide), stI_aj (show 2 ≠ 5 by decide), stI_aj (show 3 ≠ 5 by decide), stI_at, stI_ne (show s + 3 ≠ s by omega), stI_ne (show s + 4 ≠ s by omega), stI_ne (show s + 5 ≠ s by omega), stI_ne (show s + 6 ≠ s by omega)]
    exact ⟨y1, y2, y3, y4, Or.inr rfl, y6, y7⟩
  · obtain ⟨z1, z2, z3, z4, z5, z6, z7, z8⟩ := hb
    unfold SBlk cellC at *
    rw [stI_aj (show 0 ≠ 5 by decide), stI_aj (show 1 ≠ 5 by decide), stI_aj (show 2 ≠ 5 by decide), stI_aj (show 3 ≠ 5 by decide), stI_aj (show 4 ≠ 5 by decide), stI_at, stI_ne (show s + 1 ≠ s by omega), stI_ne (show s + 2 ≠ s by omega), stI_ne (show s + 3 ≠ s by omega), stI_ne (show s + 4 ≠ s by omega), stI_ne (show s + 5 ≠ s by omega), stI_ne (show s + 6 ≠ s by omega), stI_ne (show L + 2 ≠ s by omega)]
    refine ⟨?_, ?_, ?_, fun k hk => ?_, fun w hw => ?_, fun c hc => ?_, fun c hc => ?_, fun r hr => ⟨?_, fun w hw => ?_⟩⟩
    · rw [up_ne (by omega)]; exact z1
    · rw [up_ne (by omega)]; exact z2
    · rw [up_eq]; exact ⟨fun e => absurd e (by decide), fun e => absurd e.2.2 (by decide)⟩
    · rw [up_ne (by omega), up_ne (by omega), up_ne (by omega)]; exact z4 k hk
    · rw [up_ne (by omega)]; exact z5 w hw
    · rw [up_ne (by omega)]; exact z6 c hc
    · rw [up_ne (by omega), up_ne (by omega)]; exact z7 c hc
    · rw [up_ne (by omega)]; exact (z8 r hr).1
    · rw [up_ne (by omega)]; exact (z8 r hr).2 w hw
theorem KR_brk1 {f : Nat → Int32} (h : KR I L s f H W C P R) (hs : L + 10 ≤ s) {j : Nat} (hj : j < W) : KR (stI (stI I s 2 (I s 2 ||| ((1 : Int32) <<< (nI j &&& 31)))) s 5 1) L s (up (up f (40 + 3 * j) 1) 13 1) H W C P R := by
  have b2 := h.g.2.2.1
  refine KR_dist (KR_broken h hs (h.sets.2.2.1.or (LB.shl hj (by omega))) (fun w hw => ?_) (fun k hk => up_ne (by omega))) hs
  rw [or_bt (by omega) (by omega)]
  by_cases e : w = j
  · subst e; rw [up_eq, decide_eq_true rfl, Bool.or_true]; rfl
  · rw [up_ne (by omega), decide_eq_false e, Bool.or_false]; exact h.brk hw
def bk (I : JI) (s : Nat) (S : Int32) : JI := if S = 0 then I else stI (stI I s 2 (I s 2 ||| S)) s 5 1
theorem bk_add {S b : Int32} (hb : ¬ b = 0) (hn : ¬ (S ||| b) = 0) : bk I s (S ||| b) = stI (stI (bk I s S) s 2 (bk I s S s 2 ||| b)) s 5 1 := by
  unfold bk
  rw [if_neg hn]
  by_cases q : S = 0
  · rw [if_pos q, q, Int32.zero_or]
  · rw [if_neg q, stI_aj (show 2 ≠ 5 by decide), stI_at, stI_comm (show s ≠ s ∨ 5 ≠ 2 by omega), stI_same, stI_same, Int32.or_assoc]
theorem bk_o {S : Int32} {z k : Nat} (h : z ≠ s ∨ (k ≠ 2 ∧ k ≠ 5)) : bk I s S z k = I z k := by
  unfold bk
  split
  · rfl
  · rcases h with h | ⟨h1, h2⟩
    · rw [stI_o h, stI_o h]
    · by_cases e : z = s
      · subst e; rw [stI_aj h2, stI_aj h1]
      · rw [stI_o e, stI_o e]
theorem bk_of {S : Int32} {z : Nat} (h : z ≠ s) : bk I s S z = I z := by
  funext k
  exact bk_o (Or.inl h)
theorem strained_bk {S : Int32} (hs : L + 10 ≤ s) : x3_strained (bk I s S) L s = x3_strained I L s := by
  unfold x3_strained
  rw [bk_of (show s + 5 ≠ s by omega), bk_of (show L ≠ s by omega), bk_o (show s ≠ s ∨ (3 ≠ 2 ∧ 3 ≠ 5) by omega)]
theorem e_strains (h : KR I L s (J (m + 1)) H W C P R) (hs : L + 10 ≤ s) : ∃ J', s_X9_strains J m = some J' ∧ KR (x3_break I L s) L s (J' (m + 1)) H W C P R := by
  obtain ⟨⟨g0, g2, g3, g4, g5⟩, b1, b2, b3, b4, b5, b6⟩ := h.g
  obtain ⟨c0, c4, c7, c3, cs⟩ := h.c
  obtain ⟨⟨t, t1, t2, t3⟩, -⟩ := h.set
  unfold s_X9_strains x3_break
  rw [gl11, gl5, gl11, cl11, cl5, t3, g5, t2, cs]
  by_cases q : t = 0
  · subst q
    rw [if_pos nI_z, if_pos (Or.inl nI_z)]
    exact ⟨J, rfl, h⟩
  · rw [if_neg (nI_ne0 (by omega) (by omega))]
    by_cases q2 : R < t
    · rw [if_neg (nI_ge q2 (by omega)), if_pos (Or.inr (nI_lt q2 (by omega)))]
      exact ⟨J, rfl, h⟩
    · rw [if_pos (nI_le (by omega) (by omega)), if_neg (by
        rintro (e | e)
        · exact nI_ne0 (by omega) (by omega) e
        · exact nI_nlt (by omega) (by omega) e)]
      have hX : ∀ k, W ≤ k → bt (x3_strained I L s) k = false := by
        intro k hk
        have hz := (h.row (r := R - 1) (by omega)).1 k hk
        have hm : ∀ (f : Nat → Int32) (z : Int32) (a n : Nat), bt z k = false → bt (brA f z a n) k = false := by
          intro f z a n hz
          induction n with
          | zero => exact hz
          | succ n ih => unfold brA; rw [bt_and, ih]; rfl
        unfold x3_strained
        rw [cs, show (1 : Int32) = nI 1 from rfl, nI_sub (by omega), atF_nI (by omega) (by omega)]
        exact hm _ _ _ _ hz
      have hl := loopM (fun f J i => s_X9_strains_L29 m f i J) (fun j J' => ∃ S : Int32, (∀ k, k < 32 → bt S k = (decide (k < j) && bt (x3_strained I L s) k)) ∧ KR (bk I s S) L s (J' (m + 1)) H W C P R) (fun J => (nI W, J)) 0 W (fun f J hJ => ?_) (fun f j J _ hj hJ => ?_) lf 0 J (Nat.le_refl 0) (Nat.zero_le W) (by unfold lf; omega) ⟨0, fun k hk => by rw [bt_zero]; simp, by unfold bk; rw [if_pos rfl]; exact h⟩
      · obtain ⟨J', ⟨S, h1, h2⟩, h3⟩ := hl
        have eS : S = x3_strained I L s := bt_ext fun k hk => by
          rw [h1 k hk]
          by_cases e : k < W
          · rw [decide_eq_true e, Bool.true_and]
          · rw [decide_eq_false e, Bool.false_and, hX k (by omega)]
        rw [show s_X9_strains_L29 m lf 0 J = _ from h3, bd_some]
        exact ⟨J', rfl, by rw [eS] at h2; exact h2⟩
      · obtain ⟨S, h1, h2⟩ := hJ
        show s_X9_strains_L29 m (f + 1) (nI W) J = _
        rw [s_X9_strains_L29, gl2, cl2, h2.g.1.2.1, if_pos (Int32.le_refl _)]
      · obtain ⟨S, h1, h2⟩ := hJ
        have hst := e_isStrained h2 (t := t) (w := j) (by rw [bk_of (show L ≠ s by omega)]; exact t2) (by omega) (by omega) hj
        rw [strained_bk hs] at hst
        show ∃ J', _ ∧ s_X9_strains_L29 m (f + 1) (nI j) J = _
        rw [s_X9_strains_L29, gl2, cl2, h2.g.1.2.1, if_neg (nI_ge hj (by omega)), hst, bd_some, nI_1]
        by_cases q3 : bt (x3_strained I L s) j = true
        · rw [if_pos q3, show s_X9_putsWarp J m (nI j) 2 1 = some (stI J (m + 1) (38 + 3 * j + 2) 1) from a_putsWarp (k := 2) (by omega) (by omega), bd_some, gl13, cl13, lx_s, show 38 + 3 * j + 2 = 40 + 3 * j by omega]
          refine ⟨_, ⟨S ||| ((1 : Int32) <<< (nI j &&& 31)), fun k hk => ?_, ?_⟩, rfl⟩
          · rw [or_bt hk (by omega), h1 k hk]
            by_cases e1 : k < j
            · have : k < j + 1 := by omega
              have e2 : ¬ k = j := by omega
              simp [e1, this, e2]
            · by_cases e2 : k = j
              · subst e2; simp [q3]
              · have : ¬ k < j + 1 := by omega
                simp [e1, e2, this]
          · have hb0 : bt ((1 : Int32) <<< (nI j &&& 31)) j = true := by rw [bt_shl (by omega) (by omega)]; simp
            rw [bk_add (fun e => by rw [e, bt_zero] at hb0; cases hb0) (fun e => by
              have := congrArg (fun z => bt z j) e
              rw [bt_or, hb0, Bool.or_true, bt_zero] at this
              cases this), stI_up, stI_up]
            exact KR_brk1 h2 hs hj
        · rw [if_neg q3]
          refine ⟨J, ⟨S, fun k hk => ?_, h2⟩, rfl⟩
          rw [h1 k hk]
          by_cases e1 : k < j
          · have : k < j + 1 := by omega
            simp [e1, this]
          · by_cases e2 : k = j
            · subst e2; simp only [Bool.not_eq_true] at q3; simp [q3]
            · have : ¬ k < j + 1 := by omega
              simp [e1, this]
/-- a whole row -/
theorem e_weavesOne (h : KR I L s (J (m + 1)) H W C P R) (hs : L + 10 ≤ s) (hR : R < 60) (hP : 0 < P) : ∃ J', s_X9_weavesOne J m = some J' ∧ KR (x3_weaveNext I L s) L s (J' (m + 1)) H W C P (R + 1) := by
  obtain ⟨⟨g0, g2, g3, g4, g5⟩, b1, b2, b3, b4, b5, b6⟩ := h.g
  obtain ⟨c0, c4, c7, c3, cs⟩ := h.c
  obtain ⟨n1, n2⟩ := e_next h
  obtain ⟨c, k1, k2⟩ := n2 hP
  obtain ⟨d1, d2, q, q1, q2, q3⟩ := h.card k1
  unfold s_X9_weavesOne x3_weaveNext
  rw [n1, bd_some, k2, a_ofCard1 (by omega), bd_some, q3, show (110 : Int32) = nI 110 from rfl, nI_add, gl2, gd_in (by omega) (by omega), gd_in (by omega) (by omega), cl_nI (by omega), lx_s, cl2, g2, h.yarn q1]
  dsimp only
  rw [atF_nI (by omega) (by omega), q2]
  have ey : x7_addYarn I s (nI q) (-(I L 4)) = stI I (s + 2) q (I (s + 2) q - nI W) := by
    unfold x7_addYarn
    rw [atF_nI (by omega) (by omega), ptI_nI (by omega) (by omega), c4, Int32.sub_eq_add_neg]
  rw [ey]
  have h1 := KR_yarn h hs q1 (I (s + 2) q - nI W)
  rw [← stI_up] at h1
  rw [atF_nI (by omega) (by omega)]
  obtain ⟨J2, e2, h2⟩ := e_move h1 hs k1 (q2 := nI q)
  rw [show (0 : Int32) = nI 0 from rfl] at e2
  rw [show s_X9_weavesOne_L32 m (nI q) (nI c) lf 0 (stI J (m + 1) (110 + q) (I (s + 2) q - nI W)) = some (nI H, J2) from e2, bd_some]
  dsimp only
  generalize x3_move (stI I (s + 2) q (I (s + 2) q - nI W)) L s (stI I (s + 2) q (I (s + 2) q - nI W) (s + 3) c) = M at h2
  obtain ⟨⟨-, -, -, -, g5'⟩, -⟩ := h2.g
  rw [gl5, cl5, g5', show (264 : Int32) + 25 * nI R = nI (264 + 25 * R) from by rw [show (264 : Int32) = nI 264 from rfl, show (25 : Int32) = nI 25 from rfl, nI_mul, nI_add], lx_s, gd_in (by omega) (by omega), cl_nI (by omega), lx_s]
  have h3 : KR M L s (stI J2 (m + 1) (264 + 25 * R) (nI q) (m + 1)) H W C P R := by
    rw [stI_up]
    exact KR_free h2 hs hR fun k hk => up_ne (by omega)
  obtain ⟨J3, e3, h4, h5, h6⟩ := e_cells (c := c) h3 hs hR q1 stI_at
  rw [show s_X9_weavesOne_L87 m (nI (264 + 25 * R)) (nI q) (nI c) lf 0 (stI J2 (m + 1) (264 + 25 * R) (nI q)) = some (nI W, J3) from e3, bd_some]
  dsimp only
  rw [gl5, gl5]
  rw [h4.g.1.2.2.2.2, nI_1, lx_s]
  obtain ⟨m1, m2⟩ := mask_bt h4 (M s 0)
  have hsh : LB W (x3_mask M L (M s 0) &&& (M s 2 ^^^ (-1))) := m1.andl
  have h7 : KR (x7_addRow M s (x3_mask M L (M s 0) &&& (M s 2 ^^^ (-1))) (nI q)) L s (stI J3 (m + 1) 5 (nI (R + 1)) (m + 1)) H W C P (R + 1) := by
    rw [stI_up]
    refine KR_row h4 hs hR hP q1 hsh (by rw [up_ne (by omega)]; exact h5) (fun w hw => ?_) up_eq (fun k hk _ => up_ne hk)
    obtain ⟨k, a1, a2, a3, a4⟩ := m2 w hw
    obtain ⟨k', b1', b2', b3'⟩ := h6 w hw
    have ek : k = k' := (nI_eq (by omega) (by omega)).mp (by rw [← a3, ← b2'])
    subst ek
    rw [up_ne (by omega), b3', bt_and, a4, bt_not (by omega)]
  obtain ⟨J4, e4, h8⟩ := e_strains h7 hs
  rw [e4, bd_some]
  exact ⟨J4, rfl, h8⟩
theorem obst0 (h : KR I L s (J (m + 1)) H W C P R) (h0 : x3_obst I L s = 0) : R < 60 ∧ 0 < P := by
  obtain ⟨-, b1, b2, b3, b4, b5, b6⟩ := h.g
  obtain ⟨c0, c4, c7, c3, cs⟩ := h.c
  unfold x3_obst at h0
  rw [c3, cs] at h0
  by_cases q : P = 0
  · subst q; rw [if_pos nI_z] at h0; cases h0
  · rw [if_neg (nI_ne0 (by omega) (by omega))] at h0
    by_cases q2 : R = 60
    · subst q2; rw [if_pos (by decide)] at h0; cases h0
    · exact ⟨by omega, by omega⟩
theorem l_weaves (hs : L + 10 ≤ s) (n : Nat) (hn : n ≤ 60) : ∀ (d f j : Nat) (I J : JI) (R : Nat), KR I L s (J (m + 1)) H W C P R → j + d = n → d < f → ∃ J' R', s_X9_weaves_L2 m (nI n) f (nI j) J = some (nI (j + wuN L s d I), J') ∧ KR (wuI L s d I) L s (J' (m + 1)) H W C P R' := by
  intro d
  induction d with
  | zero =>
    intro f j I J R h hj hf
    obtain ⟨f, rfl⟩ : ∃ g, f = g + 1 := ⟨f - 1, by omega⟩
    have : j = n := by omega
    subst this
    refine ⟨J, R, ?_, h⟩
    rw [s_X9_weaves_L2, if_pos (Int32.le_refl _)]
    rfl
  | succ d ih =>
    intro f j I J R h hj hf
    obtain ⟨f, rfl⟩ : ∃ g, f = g + 1 := ⟨f - 1, by omega⟩
    rw [s_X9_weaves_L2, if_neg (nI_ge (by omega) (by omega)), e_why h, bd_some]
    unfold wuN wuI
    by_cases q : x3_obst I L s = 0
    · obtain ⟨hR, hP⟩ := obst0 h q
      obtain ⟨J1, e1, h1⟩ := e_weavesOne h hs hR hP
      obtain ⟨J2, R2, e2, h2⟩ := ih f (j + 1) _ J1 (R + 1) h1 (by omega) (by omega)
      rw [if_pos q, if_pos q, if_pos q, e1, bd_some, nI_1, e2]
      exact ⟨J2, R2, by rw [show j + 1 + wuN L s d (x3_weaveNext I L s) = j + (wuN L s d (x3_weaveNext I L s) + 1) by omega], h2⟩
    · rw [if_neg q, if_neg q, if_neg q]
      exact ⟨J, R, rfl, h⟩
theorem e_weaves (h : KR I L s (J (m + 1)) H W C P R) (hs : L + 10 ≤ s) {n : Nat} (hn : n ≤ 60) : ∃ J' R', s_X9_weaves J m (nI n) = some (nI (wuN L s n I), J') ∧ KR (wuI L s n I) L s (J' (m + 1)) H W C P R' := by
  obtain ⟨J', R', e, h'⟩ := l_weaves hs n hn n lf 0 I J R h (by omega) (by unfold lf; omega)
  refine ⟨J', R', ?_, h'⟩
  unfold s_X9_weaves
  rw [show s_X9_weaves_L2 m (nI n) lf 0 J = _ from e, bd_some, Nat.zero_add]
theorem wvok (h : KR I L s (J (m + 1)) H W C P R) : WvOk I L s := by
  obtain ⟨-, b1, b2, b3, b4, b5, b6⟩ := h.g
  obtain ⟨c0, c4, c7, c3, cs⟩ := h.c
  obtain ⟨⟨t, t1, t2, t3⟩, -⟩ := h.set
  exact ⟨by rw [c0]; exact nI_pos' (by omega), by rw [t2]; exact nI_pos' (by omega), R, b5, cs⟩
end WV3
