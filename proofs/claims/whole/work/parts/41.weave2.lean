/-! a row woven, both ways -/
section WV2
variable {I J : JI} {L s m H W C P R : Nat}
theorem KR_free {f g : Nat → Int32} (h : KR I L s f H W C P R) (hs : L + 10 ≤ s) (hR : R < 60) (hg : ∀ k, ¬ (264 + 25 * R ≤ k ∧ k < 289 + 25 * R) → g k = f k) : KR I L s g H W C P R := by
  have hq := h
  obtain ⟨⟨⟨-, l0⟩, ⟨-, l1⟩, ⟨-, l2⟩, -⟩, -, hv, hb⟩ := hq
  have b5 := h.g.2.2.2.2.2.1
  refine KR_frame h hs (fun z hz => rfl) (fun j hj => hg j (by unfold fixP at hj; omega)) hv ?_
  obtain ⟨z1, z2, z3, z4, z5, z6, z7, z8⟩ := hb
  refine ⟨?_, ?_, ?_, fun j hj => ?_, fun w hw => ?_, fun c hc => ?_, fun c hc => ?_, fun r hr => ⟨?_, fun w hw => ?_⟩⟩
  · rw [hg _ (by omega)]; exact z1
  · rw [hg _ (by omega)]; exact z2
  · rw [hg _ (by omega), hg _ (by omega), hg _ (by omega)]; exact z3
  · rw [hg _ (by omega), hg _ (by omega), hg _ (by omega)]; exact z4 j hj
  · rw [hg _ (by omega)]; exact z5 w hw
  · rw [hg _ (by omega)]; exact z6 c hc
  · rw [hg _ (by omega), hg _ (by omega)]; exact z7 c hc
  · rw [hg _ (by omega)]; exact (z8 r hr).1
  · rw [hg _ (by omega)]; exact (z8 r hr).2 w hw
theorem mvs_fr {l : Int32} {z : Nat} (hz : z < s ∨ s + 7 ≤ z) : ∀ n, mvs I L s l n z = I z := by
  intro n
  induction n with
  | zero => rfl
  | succ n ih =>
    show mv1 (mvs I L s l n) L s n (bt l n) z = I z
    rw [← ih]
    unfold mv1
    split
    · rfl
    · split
      · rw [stI_ne (by omega), stI_ne (by omega), stI_ne (by omega), stI_ne (by omega)]
      · rw [stI_ne (by omega), stI_ne (by omega)]
theorem mvs_in {l : Int32} {z : Nat} (hz : z ≠ s) (hz1 : z ≠ s + 1) : ∀ n, mvs I L s l n z = I z := by
  intro n
  induction n with
  | zero => rfl
  | succ n ih =>
    show mv1 (mvs I L s l n) L s n (bt l n) z = I z
    rw [← ih]
    unfold mv1
    split
    · rfl
    · split
      · rw [stI_ne hz, stI_ne hz, stI_ne hz1, stI_ne hz]
      · rw [stI_ne hz1, stI_ne hz]
/-- all harnesses moved -/
theorem e_move (h : KR I L s (J (m + 1)) H W C P R) (hs : L + 10 ≤ s) {c : Nat} (hc : c < C) {q2 : Int32} : ∃ J', s_X9_weavesOne_L32 m q2 (nI c) lf 0 J = some (nI H, J') ∧ KR (x3_move I L s (I (s + 3) c)) L s (J' (m + 1)) H W C P R := by
  obtain ⟨⟨g0, g2, g3, g4, g5⟩, b1, b2, b3, b4, b5, b6⟩ := h.g
  obtain ⟨c0, c4, c7, c3, cs⟩ := h.c
  obtain ⟨d1, d2, -⟩ := h.card hc
  rw [move_mvs hs b1 c0 h.sets.1 d1]
  have hl := loopM (fun f J i => s_X9_weavesOne_L32 m q2 (nI c) f i J) (fun j J' => KR (mvs I L s (I (s + 3) c) j) L s (J' (m + 1)) H W C P R) (fun J => (nI H, J)) 0 H (fun f J hJ => ?_) (fun f j J _ hj hJ => ?_) lf 0 J (Nat.le_refl 0) (Nat.zero_le H) (by unfold lf; omega) h
  · obtain ⟨J', h1, h2⟩ := hl
    exact ⟨J', h2, h1⟩
  · rw [s_X9_weavesOne_L32]
    rw [gl0]
    rw [cl0]
    rw [hJ.g.1.1]
    rw [if_pos (Int32.le_refl _)]
  · obtain ⟨k1, k2, -⟩ := hJ.card hc
    obtain ⟨J', h1, h2⟩ := e_moves hJ hs hj (bt (I (s + 3) c) j)
    refine ⟨J', h2, ?_⟩
    rw [s_X9_weavesOne_L32, gl0, cl0, hJ.g.1.1, if_neg (nI_ge hj (by omega)), a_ofCard0 (by omega), bd_some, k2, mhas_bt (by omega), mvs_in (by omega) (by omega), h1, bd_some, nI_1]
/-- the cells of a row -/
theorem e_cells {M : JI} {c q : Nat} (h : KR M L s (J (m + 1)) H W C P R) (hs : L + 10 ≤ s) (hR : R < 60) (hq : q < 6) (hw0 : J (m + 1) (264 + 25 * R) = nI q) :
    ∃ J', s_X9_weavesOne_L87 m (nI (264 + 25 * R)) (nI q) (nI c) lf 0 J = some (nI W, J') ∧ KR M L s (J' (m + 1)) H W C P R ∧ J' (m + 1) (264 + 25 * R) = nI q ∧ ∀ w, w < W → ∃ k, k < H ∧ M (L + 1) w = nI k ∧ J' (m + 1) (265 + 25 * R + w) = 2 * (if (bt (M s 0) k && !bt (M s 2) w) = true then M (L + 2) w else nI q) + zb (bt (M s 0) k && !bt (M s 2) w) := by
  obtain ⟨⟨g0, g2, g3, g4, g5⟩, b1, b2, b3, b4, b5, b6⟩ := h.g
  have hl := loopM (fun f J i => s_X9_weavesOne_L87 m (nI (264 + 25 * R)) (nI q) (nI c) f i J) (fun j J' => KR M L s (J' (m + 1)) H W C P R ∧ J' (m + 1) (264 + 25 * R) = nI q ∧ ∀ w, w < j → ∃ k, k < H ∧ M (L + 1) w = nI k ∧ J' (m + 1) (265 + 25 * R + w) = 2 * (if (bt (M s 0) k && !bt (M s 2) w) = true then M (L + 2) w else nI q) + zb (bt (M s 0) k && !bt (M s 2) w)) (fun J => (nI W, J)) 0 W (fun f J hJ => ?_) (fun f j J _ hj hJ => ?_) lf 0 J (Nat.le_refl 0) (Nat.zero_le W) (by unfold lf; omega) ⟨h, hw0, fun w hw => absurd hw (Nat.not_lt_zero w)⟩
  · obtain ⟨J', ⟨h1, h2, h3⟩, h4⟩ := hl
    exact ⟨J', h4, h1, h2, h3⟩
  · rw [s_X9_weavesOne_L87, gl2, cl2, hJ.1.g.1.2.1, if_pos (Int32.le_refl _)]
  · obtain ⟨hJ1, hJ2, hJ3⟩ := hJ
    obtain ⟨k, k1, k2, k3⟩ := hJ1.on hj
    obtain ⟨p1, -⟩ := hJ1.har k1
    have p2 := hJ1.brk hj
    obtain ⟨kc, n5, n6, n7⟩ := hJ1.col hj
    have st : ∀ v : Int32, v = 2 * (if (bt (M s 0) k && !bt (M s 2) j) = true then M (L + 2) j else nI q) + zb (bt (M s 0) k && !bt (M s 2) j) → ∃ J', (KR M L s (J' (m + 1)) H W C P R ∧ J' (m + 1) (264 + 25 * R) = nI q ∧ ∀ w, w < j + 1 → ∃ k, k < H ∧ M (L + 1) w = nI k ∧ J' (m + 1) (265 + 25 * R + w) = 2 * (if (bt (M s 0) k && !bt (M s 2) w) = true then M (L + 2) w else nI q) + zb (bt (M s 0) k && !bt (M s 2) w)) ∧ s_X9_weavesOne_L87 m (nI (264 + 25 * R)) (nI q) (nI c) f (nI (j + 1)) (stI J (m + 1) (265 + 25 * R + j) v) = s_X9_weavesOne_L87 m (nI (264 + 25 * R)) (nI q) (nI c) f (nI (j + 1)) J' := by
      intro v hv
      refine ⟨stI J (m + 1) (265 + 25 * R + j) v, ⟨?_, ?_, fun w hw => ?_⟩, rfl⟩
      · rw [stI_up]
        exact KR_free hJ1 hs hR fun k hk => up_ne (by omega)
      · rw [stI_aj (by omega)]; exact hJ2
      · by_cases e : w = j
        · subst e
          exact ⟨k, k1, k2, by rw [stI_at]; exact hv⟩
        · obtain ⟨k', h1, h2, h3⟩ := hJ3 w (by omega)
          exact ⟨k', h1, h2, by rw [stI_aj (by omega)]; exact h3⟩
    have e0 : ∀ v : Int32, (gd (vp_in ((nI (264 + 25 * R) + 1) + nI j) 2030) <| lx (stI J (m + 1) (Int32.toNatClampNeg ((nI (264 + 25 * R) + 1) + nI j)) v) fun I30 => s_X9_weavesOne_L87 m (nI (264 + 25 * R)) (nI q) (nI c) f (nI j + 1) I30) = s_X9_weavesOne_L87 m (nI (264 + 25 * R)) (nI q) (nI c) f (nI (j + 1)) (stI J (m + 1) (265 + 25 * R + j) v) := by
      intro v
      rw [nI_1, nI_add, nI_1, gd_in (by omega) (by omega), cl_nI (by omega), lx_s, show 264 + 25 * R + 1 + j = 265 + 25 * R + j by omega]
    show ∃ J', _ ∧ s_X9_weavesOne_L87 m (nI (264 + 25 * R)) (nI q) (nI c) (f + 1) (nI j) J = _
    rw [s_X9_weavesOne_L87, gl2, cl2, hJ1.g.1.2.1, if_neg (nI_ge hj (by omega)), a_harnessOf (by omega), bd_some, k3, a_ofH0 (by omega), bd_some, p1]
    by_cases q1 : bt (M s 0) k = true
    · rw [q1, if_pos zbt, a_breaks (by omega), bd_some, p2]
      by_cases q2 : bt (M s 2) j = true
      · rw [q2, if_pos (by decide), e0]
        exact st _ (by rw [q1, q2]; rfl)
      · simp only [Bool.not_eq_true] at q2
        rw [q2, if_neg (by decide), a_colourOf (by omega), bd_some, e0, n7]
        exact st _ (by rw [q1, q2, n6]; rfl)
    · simp only [Bool.not_eq_true] at q1
      rw [q1, if_neg (by decide), e0]
      exact st _ (by rw [q1]; rfl)
/-- a row laid down -/
theorem KR_row {M : JI} {g f : Nat → Int32} {q : Nat} {sh : Int32} (h : KR M L s f H W C P R) (hs : L + 10 ≤ s) (hR : R < 60) (hP : 0 < P) (hq : q < 6) (hsh : LB W sh) (g0 : g (264 + 25 * R) = nI q) (gw : ∀ w, w < W → g (265 + 25 * R + w) = 2 * (if bt sh w = true then M (L + 2) w else nI q) + zb (bt sh w)) (g5 : g 5 = nI (R + 1)) (gg : ∀ k, k ≠ 5 → ¬ (264 + 25 * R ≤ k ∧ k < 289 + 25 * R) → g k = f k) : KR (x7_addRow M s sh (nI q)) L s g H W C P (R + 1) := by
  have hx := h
  obtain ⟨⟨⟨-, l0⟩, ⟨-, l1⟩, ⟨-, l2⟩, -⟩, -, hv, hb⟩ := hx
  obtain ⟨c0, c4, c7, c3, cs⟩ := h.c
  have e : x7_addRow M s sh (nI q) = stI (stI (stI M (s + 5) R sh) (s + 6) R (nI q)) s 3 (nI (R + 1)) := by
    unfold x7_addRow
    dsimp only
    rw [cs, ptI_nI (by omega) (by omega), stI_o (show s ≠ s + 5 by omega), cs, ptI_nI (by omega) (by omega), stI_o (show s ≠ s + 6 by omega), stI_o (show s ≠ s + 5 by omega), cs, nI_1]
  rw [e]
  have n0 : ∀ j, j ≠ 3 → stI (stI (stI M (s + 5) R sh) (s + 6) R (nI q)) s 3 (nI (R + 1)) s j = M s j := fun j hj => by rw [stI_aj hj, stI_o (by omega), stI_o (by omega)]
  have n1 : ∀ z, z ≠ s → z ≠ s + 5 → z ≠ s + 6 → stI (stI (stI M (s + 5) R sh) (s + 6) R (nI q)) s 3 (nI (R + 1)) z = M z := fun z h1 h2 h3 => by rw [stI_ne h1, stI_ne h3, stI_ne h2]
  have n5 : ∀ j, stI (stI (stI M (s + 5) R sh) (s + 6) R (nI q)) s 3 (nI (R + 1)) (s + 5) j = if j = R then sh else M (s + 5) j := fun j => by
    rw [stI_o (by omega), stI_o (by omega)]
    by_cases e : j = R
    · subst e; rw [if_pos rfl, stI_at]
    · rw [if_neg e, stI_aj e]
  have n6 : ∀ j, stI (stI (stI M (s + 5) R sh) (s + 6) R (nI q)) s 3 (nI (R + 1)) (s + 6) j = if j = R then nI q else M (s + 6) j := fun j => by
    rw [stI_o (by omega)]
    by_cases e : j = R
    · subst e; rw [if_pos rfl, stI_at]
    · rw [if_neg e, stI_aj e, stI_o (by omega)]
  refine KR_frame h hs (fun z hz => n1 z (by omega) (by omega) (by omega)) (fun k hk => gg k (by unfold fixP at hk; omega) (by unfold fixP at hk; omega)) ?_ ?_
  · obtain ⟨y1, y2, y3, y4, y5, y6, y7⟩ := hv
    unfold SVal
    rw [n0 0 (by decide), n0 1 (by decide), n0 2 (by decide), stI_at, n0 5 (by decide), n1 (s + 3) (by omega) (by omega) (by omega), n1 (s + 4) (by omega) (by omega) (by omega)]
    refine ⟨y1, y2, y3, ⟨rfl, by omega, fun _ => hP⟩, y5, y6, fun r hr => ?_⟩
    rw [n5, n6]
    by_cases e : r = R
    · rw [if_pos e, if_pos e]; exact ⟨hsh, q, hq, rfl⟩
    · rw [if_neg e, if_neg e]; exact y7 r (by omega)
  · obtain ⟨z1, z2, z3, z4, z5, z6, z7, z8⟩ := hb
    unfold SBlk
    rw [n0 0 (by decide), n0 1 (by decide), n0 2 (by decide), n0 4 (by decide), n0 5 (by decide), stI_at, n1 (s + 1) (by omega) (by omega) (by omega), n1 (s + 2) (by omega) (by omega) (by omega), n1 (s + 3) (by omega) (by omega) (by omega), n1 (s + 4) (by omega) (by omega) (by omega)]
    refine ⟨g5, ?_, ?_, fun k hk => ?_, fun w hw => ?_, fun c' hc' => ?_, fun c' hc' => ?_, fun r hr => ?_⟩
    · rw [gg 10 (by omega) (by omega)]; exact z2
    · rw [gg 8 (by omega) (by omega), gg 9 (by omega) (by omega), gg 13 (by omega) (by omega)]; exact z3
    · rw [gg _ (by omega) (by omega), gg _ (by omega) (by omega), gg _ (by omega) (by omega)]; exact z4 k hk
    · rw [gg _ (by omega) (by omega)]; exact z5 w hw
    · rw [gg _ (by omega) (by omega)]; exact z6 c' hc'
    · rw [gg _ (by omega) (by omega), gg _ (by omega) (by omega)]; exact z7 c' hc'
    · unfold cellC
      rw [n6, n5, n1 (L + 2) (by omega) (by omega) (by omega)]
      by_cases e : r = R
      · subst e
        rw [if_pos rfl, if_pos rfl]
        exact ⟨g0, gw⟩
      · rw [if_neg e, if_neg e]
        refine ⟨?_, fun w hw => ?_⟩
        · rw [gg _ (by omega) (by omega)]; exact (z8 r (by omega)).1
        · rw [gg _ (by omega) (by omega)]; exact (z8 r (by omega)).2 w hw
theorem brA_bt {f : Nat → Int32} {z : Int32} {a : Nat} {w : Nat} : ∀ n, a + n ≤ 60 → (bt (brA f z a n) w = true ↔ bt z w = true ∧ ∀ r, a ≤ r → r < a + n → bt (f r) w = true) := by
  intro n
  induction n with
  | zero => intro _; exact ⟨fun h => ⟨h, fun r h1 h2 => by omega⟩, fun h => h.1⟩
  | succ n ih =>
    intro hn
    unfold brA
    rw [bt_and, Bool.and_eq_true, ih (by omega), atF_nI (by omega) (by omega)]
    constructor
    · rintro ⟨⟨h1, h2⟩, h3⟩
      refine ⟨h1, fun r r1 r2 => ?_⟩
      by_cases e : r = a + n
      · subst e; exact h3
      · exact h2 r r1 (by omega)
    · rintro ⟨h1, h2⟩
      exact ⟨⟨h1, fun r r1 r2 => h2 r r1 (by omega)⟩, h2 (a + n) (by omega) (by omega)⟩
theorem e_isStrained (h : KR I L s (J (m + 1)) H W C P R) {t w : Nat} (ht : I L 2 = nI t) (ht0 : 0 < t) (htR : t ≤ R) (hw : w < W) : s_X9_isStrained J m (nI w) = some (bt (x3_strained I L s) w) := by
  obtain ⟨⟨g0, g2, g3, g4, g5⟩, b1, b2, b3, b4, b5, b6⟩ := h.g
  obtain ⟨c0, c4, c7, c3, cs⟩ := h.c
  obtain ⟨⟨t', t1, t2, t3⟩, -⟩ := h.set
  rw [ht] at t2
  have : t = t' := (nI_eq (by omega) (by omega)).mp t2
  subst this
  have hb : bt (x3_strained I L s) w = true ↔ ∀ r, R - t ≤ r → r < R → bt (I (s + 5) r) w = true := by
    unfold x3_strained
    rw [ht, cs, cl_nI (by omega), cl_nI (by omega), show (1 : Int32) = nI 1 from rfl, nI_sub (by omega), atF_nI (by omega) (by omega), brA_bt _ (by omega)]
    constructor
    · rintro ⟨h1, h2⟩ r r1 r2
      exact h2 r r1 (by omega)
    · intro h1
      exact ⟨h1 (R - 1) (by omega) (by omega), fun r r1 r2 => h1 r r1 (by omega)⟩
  unfold s_X9_isStrained
  rw [gl5, gl11, cl5, cl11, g5, t3, nI_sub htR, lx_s]
  have hl := loopS (fun f i => s_X9_isStrained_L15 J m (nI w) f i) (fun r => !bt (I (s + 5) r) w) (fun _ => false) (nI R) (R - t) R (fun f => ?_) (fun f r r1 r2 => ?_) lf (R - t) (Nat.le_refl _) (by omega) (by unfold lf; omega)
  · rw [show s_X9_isStrained_L15 J m (nI w) lf (nI (R - t)) = _ from hl]
    cases q : findF (fun r => !bt (I (s + 5) r) w) (R - (R - t)) (R - t) with
    | none =>
      have : bt (x3_strained I L s) w = true := hb.mpr fun r r1 r2 => by
        have := findF_none _ _ q r r1 (by omega)
        simpa using this
      rw [this]; rfl
    | some k =>
      obtain ⟨k1, k2, k3⟩ := findF_some _ _ _ q
      have : ¬ bt (x3_strained I L s) w = true := fun e => by
        have := hb.mp e k k1 (by omega)
        rw [this] at k3
        cases k3
      simp only [Bool.not_eq_true] at this
      rw [this]; rfl
  · show s_X9_isStrained_L15 J m (nI w) (f + 1) (nI R) = _
    rw [s_X9_isStrained_L15, gl5, cl5, g5, if_pos (Int32.le_refl _)]
  · show s_X9_isStrained_L15 J m (nI w) (f + 1) (nI r) = _
    rw [s_X9_isStrained_L15, gl5, cl5, g5, if_neg (nI_ge r2 (by omega)), e_shows h r2 hw, bd_some, nI_1]
    cases bt (I (s + 5) r) w <;> rfl
end WV2
