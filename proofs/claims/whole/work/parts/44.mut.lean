/-! the changing calls, both ways -/
section MUT
variable {I J : JI} {c L s m P0 H W C P R : Nat}
theorem RHist_dep {I2 J2 : JI} (h : RHist I J c L m H W C P) (hL : L = c + 4 ∨ L = c + 104) (h1 : ∀ z, ¬ (L + 10 ≤ z ∧ z < L + 24) → I2 z = I z) (h3 : J2 (m + 3) = J (m + 3)) (h7 : J2 m 7 = J m 7) : RHist I2 J2 c L m H W C P := by
  obtain ⟨u, x, u8, x8, hu, hx, hm7, hb⟩ := h
  refine ⟨u, x, u8, x8, by rw [h1 _ (by omega)]; exact hu, by rw [h1 _ (by omega)]; exact hx, h7.trans hm7, fun i hi => ?_⟩
  obtain ⟨p1, R', p2⟩ := hb i hi
  have hr2 : c + 32 ≤ ringS c x u i ∧ ringS c x u i + 7 ≤ c + 88 := by
    unfold ringS
    have := Nat.mod_lt (x + 8 - u + i) (show 0 < 8 by omega)
    omega
  rw [h3]
  exact ⟨RPart_dep p1 (h1 _ (by omega)) (h1 _ (by omega)), R', KR_dep p2 (fun z z1 z2 => h1 z (by omega)) (fun z z1 z2 => h1 z (by omega))⟩
theorem RSlot_dep {I2 J2 : JI} {a i : Nat} (h : RSlot I J a L m i H W C P) (ha : a + 8 ≤ L ∨ L + 24 ≤ a) (h1 : ∀ z, ¬ (L + 10 ≤ z ∧ z < L + 24) → ¬ (c + 30 ≤ z ∧ z < c + 88) → I2 z = I z) (hc : c + 88 ≤ a) (hL : L = c + 4 ∨ L = c + 104) (h4 : J2 (m + 4) = J (m + 4)) (h5 : J2 (m + 5) = J (m + 5)) : RSlot I2 J2 a L m i H W C P := by
  obtain ⟨b, b1, b2, b3⟩ := h
  refine ⟨b, by rw [h1 a (by omega) (by omega)]; exact b1, by rw [h5]; exact b2, fun hb => ?_⟩
  obtain ⟨p1, R', p2⟩ := b3 hb
  rw [h4]
  exact ⟨RPart_dep p1 (h1 _ (by omega) (by omega)) (h1 _ (by omega) (by omega)), R', KR_dep p2 (fun z z1 z2 => h1 z (by omega) (by omega)) (fun z z1 z2 => h1 z (by omega) (by omega))⟩
/-- only the state and the ring have changed -/
theorem RR_now {I2 J2 : JI} {R2 : Nat} (h : RR I J c L m) (hl : RLd I J c L m H W C P R) (hL : L = c + 4 ∨ L = c + 104) (h1 : ∀ z, ¬ (L + 10 ≤ z ∧ z < L + 24) → ¬ (c + 30 ≤ z ∧ z < c + 88) → I2 z = I z) (hJ : ∀ z, z ≠ m → z ≠ m + 1 → z ≠ m + 2 → z ≠ m + 3 → J2 z = J z) (hm : ∀ k, k ≠ 0 → k ≠ 7 → J2 m k = J m k) (hk : KR I2 L (L + 10) (J2 (m + 1)) H W C P R2) (hh : RHist I2 J2 c L m H W C P) : RR I2 J2 c L m := by
  obtain ⟨⟨n, n1, n2, n3, n4⟩, ⟨o, o1, o2, o3, o4⟩, ⟨e1, e2⟩, -⟩ := h
  obtain ⟨⟨l1, l2⟩, -, l3, -, -, l5, l6⟩ := hl
  refine ⟨⟨n, n1, by rw [h1 _ (by omega) (by omega)]; exact n2, by rw [hm 9 (by decide) (by decide)]; exact n3, fun k hk => ?_⟩, ⟨o, o1, by rw [h1 _ (by omega) (by omega)]; exact o2, by rw [hm 22 (by decide) (by decide)]; exact o3, fun k hk => ?_⟩, ⟨by rw [hm 10 (by decide) (by decide), h1 _ (by omega) (by omega)]; exact e1, by rw [hm 11 (by decide) (by decide), h1 _ (by omega) (by omega)]; exact e2⟩, Or.inr ⟨H, W, C, P, R2, ⟨by rw [h1 _ (by omega) (by omega)]; exact l1, by rw [hm 6 (by decide) (by decide)]; exact l2⟩, hk, l3, hk.part, hh, ?_, ?_⟩⟩
  · rw [h1 _ (by omega) (by omega), hJ _ (by omega) (by omega) (by omega) (by omega)]; exact n4 k hk
  · rw [h1 _ (by omega) (by omega), hJ _ (by omega) (by omega) (by omega) (by omega)]; exact o4 k hk
  · exact RSlot_dep l5 (by omega) h1 (by omega) hL (hJ _ (by omega) (by omega) (by omega) (by omega)) (hJ _ (by omega) (by omega) (by omega) (by omega))
  · exact RSlot_dep l6 (by omega) h1 (by omega) hL (hJ _ (by omega) (by omega) (by omega) (by omega)) (hJ _ (by omega) (by omega) (by omega) (by omega))
theorem RLd_thr (hl : RLd I J c L m H W C P R) (t : Int32) : RLd I (stI J m 0 t) c L m H W C P R := by
  have e1 : ∀ j, 0 < j → stI J m 0 t (m + j) = J (m + j) := fun j hj => stI_ne (by omega)
  have e2 : ∀ k, k ≠ 0 → stI J m 0 t m k = J m k := fun k hk => st0 (Or.inr hk)
  unfold RLd RHist RSlot at *
  rw [e2 6 (by decide), e2 7 (by decide), e1 5 (by decide), e1 1 (by decide), e1 3 (by decide), e1 4 (by decide)]
  exact hl
/-- the state is kept, and then changed -/
theorem mut_start (h : RR I J c L m) (hl : RLd I J c L m H W C P R) (hL : L = c + 4 ∨ L = c + 104) : ∃ I1 J1, s_X1_remember I (c + 30) (L + 10) = some I1 ∧ s_X9_remembers (stI J m 0 0) m = some J1 ∧ KR I1 L (L + 10) (J1 (m + 1)) H W C P R ∧ (∀ I2 J2 R2, (∀ z, z < L + 10 ∨ L + 17 ≤ z → I2 z = I1 z) → (∀ z, z ≠ m + 1 → J2 z = J1 z) → KR I2 L (L + 10) (J2 (m + 1)) H W C P R2 → RR I2 J2 c L m ∧ J2 m 0 = 0) := by
  obtain ⟨I1, J1, e1, e2, hh, fI, fJ, fk⟩ := e_remember (RLd_thr hl 0) hL
  refine ⟨I1, J1, e1, e2, ?_, fun I2 J2 R2 gI gJ hk => ⟨?_, ?_⟩⟩
  · rw [fJ (m + 1) (by omega) (by omega)]
    exact KR_dep (hl.kr 0) (fun z z1 z2 => fI z (by omega)) (fun z z1 z2 => fI z (by omega))
  · refine RR_now h hl hL (fun z z1 z2 => by rw [gI z (by omega), fI z (by omega)]) (fun z z1 z2 z3 z4 => by rw [gJ z z2, fJ z z1 z4, stI_ne z1]) (fun k k1 k2 => by rw [gJ m (by omega), fk k k2, stI_aj k1]) hk ?_
    exact RHist_dep hh hL (fun z hz => gI z (by omega)) (gJ _ (by omega)) (by rw [gJ m (by omega)])
  · rw [gJ m (by omega), fk 0 (by decide), stI_at]
theorem kr_ext {f g : Nat → Int32} (h : KR I L s f H W C P R) (e : f = g) : KR I L s g H W C P R := e ▸ h
theorem chL {c : Nat} {v : Int32} (hc : c < 12) : x7_changeLifts I s (nI c) v = stI (stI I (s + 3) c v) s 5 1 := by
  unfold x7_changeLifts
  rw [ptI_nI (by omega) (by omega)]
theorem chC {c : Nat} {v : Int32} (hc : c < 12) : x7_changeColour I s (nI c) v = stI (stI I (s + 4) c v) s 5 1 := by
  unfold x7_changeColour
  rw [ptI_nI (by omega) (by omega)]
theorem e_punches (h : KR I L s (J (m + 1)) H W C P R) (hs : L + 10 ≤ s) {k q : Nat} (hk : k < C) (hq : q < H) : ∃ J', s_X9_punches J m (nI k) (nI q) = some J' ∧ KR (x7_punchCard I s (nI k) (nI q)) L s (J' (m + 1)) H W C P R := by
  obtain ⟨-, b1, b2, b3, b4, b5, b6⟩ := h.g
  obtain ⟨k1, k2, -⟩ := h.card hk
  unfold s_X9_punches x7_punchCard
  rw [a_ofCard0 (by omega), bd_some, k2, show s_X9_putsCard J m (nI k) 0 (I (s + 3) k ^^^ ((1 : Int32) <<< (nI q &&& 31))) = some (stI J (m + 1) (116 + 4 * k + 0) (I (s + 3) k ^^^ ((1 : Int32) <<< (nI q &&& 31)))) from a_putsCard (k := 0) (by omega) (by omega), bd_some, gl8, cl8, lx_s, atF_nI (by omega) (by omega), chL (by omega)]
  refine ⟨_, rfl, ?_⟩
  rw [stI_up, stI_up]
  exact KR_lifts h hs hk (k1.xor (LB.shl hq (by omega)))
theorem e_dyes (h : KR I L s (J (m + 1)) H W C P R) (hs : L + 10 ≤ s) {k q : Nat} (hk : k < C) (hq : q < 6) : ∃ J', s_X9_dyes J m (nI k) (nI q) = some J' ∧ KR (x7_changeColour I s (nI k) (nI q)) L s (J' (m + 1)) H W C P R := by
  obtain ⟨-, b1, b2, b3, b4, b5, b6⟩ := h.g
  unfold s_X9_dyes
  rw [show s_X9_putsCard J m (nI k) 1 (nI q) = some (stI J (m + 1) (116 + 4 * k + 1) (nI q)) from a_putsCard (k := 1) (by omega) (by omega), bd_some, gl8, cl8, lx_s, chC (by omega)]
  refine ⟨_, rfl, ?_⟩
  rw [stI_up, stI_up, show 116 + 4 * k + 1 = 117 + 4 * k by omega]
  exact KR_colour h hs hk hq
theorem e_brings (h : KR I L s (J (m + 1)) H W C P R) (hs : L + 10 ≤ s) {q : Nat} (hq : q < 6) (v : Int32) : ∃ J', s_X9_brings J m (nI q) v = some J' ∧ KR (x7_bring I s (nI q) v) L s (J' (m + 1)) H W C P R := by
  unfold s_X9_brings x7_bring x7_addYarn
  rw [show (110 : Int32) = nI 110 from rfl, nI_add, gd_in (by omega) (by omega), gd_in (by omega) (by omega), cl_nI (by omega), lx_s, gl10, gl10, cl10, lx_s, h.yarn hq, atF_nI (by omega) (by omega), ptI_nI (by omega) (by omega)]
  refine ⟨_, rfl, ?_⟩
  have h1 := KR_yarn h hs hq (I (s + 2) q + v)
  have e10 : stI J (m + 1) (110 + q) (I (s + 2) q + v) (m + 1) 10 = stI I (s + 2) q (I (s + 2) q + v) s 4 := by
    rw [stI_aj (by omega), stI_o (by omega)]
    exact h.sets.2.2.2.2.1
  rw [e10]
  have h2 := KR_brought h1 hs (stI I (s + 2) q (I (s + 2) q + v) s 4 + v)
  rw [stI_up, stI_up]
  exact h2
theorem e_oils (h : KR I L s (J (m + 1)) H W C P R) (hs : L + 10 ≤ s) {k : Nat} (hk : k < H) : ∃ J', s_X9_oils J m (nI k) = some J' ∧ KR (x7_oilHarness I s (nI k)) L s (J' (m + 1)) H W C P R := by
  obtain ⟨-, b1, b2, b3, b4, b5, b6⟩ := h.g
  obtain ⟨s1, s2, s3, s4, s5, s6⟩ := h.sets
  unfold s_X9_oils x7_oilHarness
  rw [show s_X9_putsHarness J m (nI k) 1 0 = some (stI J (m + 1) (14 + 3 * k + 1) 0) from a_putsHarness (k := 1) (by omega) (by omega), bd_some, show s_X9_putsHarness (stI J (m + 1) (14 + 3 * k + 1) 0) m (nI k) 2 0 = some (stI (stI J (m + 1) (14 + 3 * k + 1) 0) (m + 1) (14 + 3 * k + 2) 0) from a_putsHarness (k := 2) (by omega) (by omega), bd_some, ptI_nI (by omega) (by omega), stI_o (show s ≠ s + 1 by omega)]
  refine ⟨_, rfl, ?_⟩
  rw [stI_up, stI_up, show 14 + 3 * k + 1 = 15 + 3 * k by omega, show 14 + 3 * k + 2 = 16 + 3 * k by omega]
  have hb : ∀ j, j < 32 → bt (I s 1 &&& (((1 : Int32) <<< (nI k &&& 31)) ^^^ (-1))) j = (bt (I s 1) j && !decide (j = k)) := fun j hj => by
    rw [bt_and, bt_not hj, bt_shl (by omega) hj]
  refine KR_har h hs hk (x := I s 0) (y := I s 1 &&& (((1 : Int32) <<< (nI k &&& 31)) ^^^ (-1))) (v := 0) s1 s2.andl (fun j hj hjk => rfl) (fun j hj hjk => ?_) ?_ ?_ (fun j hj hj5 => ?_) ?_ (fun j => ?_) (fun z h1 h2 => ?_) ?_ ?_ ?_ ?_ (fun j j1 j2 j3 j4 => ?_)
  · rw [hb j (by omega), decide_eq_false hjk]; simp
  · rw [stI_aj (by decide), stI_o (by omega)]
  · rw [stI_at]
  · rw [stI_aj (by omega), stI_o (by omega)]
  · rw [stI_aj (by decide), stI_o (by omega)]; exact s4
  · rw [stI_o (by omega)]
    by_cases e : j = k
    · subst e; rw [if_pos rfl, stI_at]
    · rw [if_neg e, stI_aj e]
  · rw [stI_ne h1, stI_ne h2]
  · rw [up_ne (by omega), up_ne (by omega)]; exact (h.har hk).1
  · rw [up_ne (by omega), up_eq]
  · rw [up_eq, hb k (by omega), decide_eq_true rfl]; simp; rfl
  · rw [stI_aj (by decide), stI_o (by omega), up_ne (by omega), up_ne (by omega), up_ne (by omega), up_ne (by omega), up_ne (by omega), up_ne (by omega)]; exact s6
  · rw [up_ne j3, up_ne j2]
theorem e_mends (h : KR I L s (J (m + 1)) H W C P R) (hs : L + 10 ≤ s) {w : Nat} (hw : w < W) : ∃ J', s_X9_putsWarp J m (nI w) 2 0 = some J' ∧ KR (x7_mendWarp I s (nI w)) L s (J' (m + 1)) H W C P R := by
  obtain ⟨-, b1, b2, b3, b4, b5, b6⟩ := h.g
  unfold x7_mendWarp
  rw [show s_X9_putsWarp J m (nI w) 2 0 = some (stI J (m + 1) (38 + 3 * w + 2) 0) from a_putsWarp (k := 2) (by omega) (by omega)]
  refine ⟨_, rfl, ?_⟩
  rw [stI_up, show 38 + 3 * w + 2 = 40 + 3 * w by omega]
  refine KR_broken h hs h.sets.2.2.1.andl (fun j hj => ?_) (fun k hk => up_ne (by omega))
  rw [bt_and, bt_not (by omega), bt_shl (by omega) (by omega)]
  by_cases e : j = w
  · subst e; rw [up_eq, decide_eq_true rfl]; simp; rfl
  · rw [up_ne (by omega), decide_eq_false e, h.brk hj]; simp
theorem e_swaps (h : KR I L s (J (m + 1)) H W C P R) (hs : L + 10 ≤ s) {a b : Nat} (ha : a < C) (hb : b < C) : ∃ J', s_X9_swaps J m (nI a) (nI b) = some J' ∧ KR (x7_exchangeCards I s (nI a) (nI b)) L s (J' (m + 1)) H W C P R := by
  obtain ⟨-, b1, b2, b3, b4, b5, b6⟩ := h.g
  obtain ⟨a1, a2, ca, a3, a4, a5⟩ := h.card ha
  obtain ⟨c1, c2, cb, c3, c4, c5⟩ := h.card hb
  have eJ : s_X9_swaps J m (nI a) (nI b) = some (stI (stI (stI (stI (stI J (m + 1) (116 + 4 * a) (I (s + 3) b)) (m + 1) (116 + 4 * b) (I (s + 3) a)) (m + 1) (117 + 4 * a) (nI cb)) (m + 1) (117 + 4 * b) (nI ca)) (m + 1) 8 1) := by
    unfold s_X9_swaps
    have l0 : ∀ f J', s_X9_swaps_L2 m (nI a) (nI b) (f + 1) 0 J' = s_X9_swaps_L2 m (nI a) (nI b) f 1 (stI (stI J' (m + 1) (116 + 4 * a) (J' (m + 1) (116 + 4 * b))) (m + 1) (116 + 4 * b) (J' (m + 1) (116 + 4 * a))) := by
      intro f J'
      rw [s_X9_swaps_L2, if_neg (by decide), a_ofCard0 (by omega), bd_some, a_ofCard0 (by omega), bd_some, show ∀ (K : JI) (v : Int32), s_X9_putsCard K m (nI a) 0 v = some (stI K (m + 1) (116 + 4 * a + 0) v) from fun K v => a_putsCard (k := 0) (by omega) (by omega), bd_some, show ∀ (K : JI) (v : Int32), s_X9_putsCard K m (nI b) 0 v = some (stI K (m + 1) (116 + 4 * b + 0) v) from fun K v => a_putsCard (k := 0) (by omega) (by omega), bd_some]
      rfl
    have l1 : ∀ f J', s_X9_swaps_L2 m (nI a) (nI b) (f + 1) 1 J' = s_X9_swaps_L2 m (nI a) (nI b) f 2 (stI (stI J' (m + 1) (117 + 4 * a) (J' (m + 1) (117 + 4 * b))) (m + 1) (117 + 4 * b) (J' (m + 1) (117 + 4 * a))) := by
      intro f J'
      rw [s_X9_swaps_L2, if_neg (by decide), a_ofCard1 (by omega), bd_some, a_ofCard1 (by omega), bd_some, show ∀ (K : JI) (v : Int32), s_X9_putsCard K m (nI a) 1 v = some (stI K (m + 1) (116 + 4 * a + 1) v) from fun K v => a_putsCard (k := 1) (by omega) (by omega), bd_some, show ∀ (K : JI) (v : Int32), s_X9_putsCard K m (nI b) 1 v = some (stI K (m + 1) (116 + 4 * b + 1) v) from fun K v => a_putsCard (k := 1) (by omega) (by omega), bd_some, show 116 + 4 * a + 1 = 117 + 4 * a by omega, show 116 + 4 * b + 1 = 117 + 4 * b by omega]
      rfl
    have l2 : ∀ f J', s_X9_swaps_L2 m (nI a) (nI b) (f + 1) 2 J' = some (2, J') := by
      intro f J'
      rw [s_X9_swaps_L2, if_pos (by decide)]
    rw [show lf = 19997 + 1 + 1 + 1 from rfl, l0, l1, l2, bd_some]
    dsimp only
    rw [gl8, cl8, lx_s, a2, c2, stI_aj (show 117 + 4 * b ≠ 116 + 4 * b by omega), stI_aj (show 117 + 4 * b ≠ 116 + 4 * a by omega), stI_aj (show 117 + 4 * a ≠ 116 + 4 * b by omega), stI_aj (show 117 + 4 * a ≠ 116 + 4 * a by omega), a5, c5]
  refine ⟨_, eJ, ?_⟩
  rw [stI_up, stI_up, stI_up, stI_up, stI_up]
  unfold x7_exchangeCards
  dsimp only
  rw [atF_nI (f := I (s + 3)) (show b < 12 by omega) (by omega), atF_nI (f := I (s + 3)) (show a < 12 by omega) (by omega), atF_nI (f := I (s + 4)) (show a < 12 by omega) (by omega), chL (show a < 12 by omega), atF_nI (show b < 12 by omega) (by omega), stI_o (show s + 4 ≠ s by omega), stI_o (show s + 4 ≠ s + 3 by omega), c4, a4, chC (show a < 12 by omega), chL (show b < 12 by omega), chC (show b < 12 by omega)]
  have h1 := KR_colour (KR_lifts (KR_colour (KR_lifts h hs ha c1) hs ha c3) hs hb a1) hs hb a3
  refine kr_ext h1 ?_
  funext k
  unfold up
  by_cases e8 : k = 8
  · simp only [eq_true e8, if_true]
  · by_cases e1 : k = 117 + 4 * b
    · simp only [eq_false e8, eq_true e1, if_true, if_false]
    · by_cases e2 : k = 117 + 4 * a
      · have e3 : ¬ k = 116 + 4 * b := by omega
        simp only [eq_false e8, eq_false e1, eq_true e2, eq_false e3, if_true, if_false]
      · by_cases e3 : k = 116 + 4 * b
        · simp only [eq_false e8, eq_false e1, eq_false e2, eq_true e3, if_true, if_false]
        · simp only [eq_false e8, eq_false e1, eq_false e2, eq_false e3, if_false]
/-- a row removed -/
theorem KR_unrow {f : Nat → Int32} (h : KR I L s f H W C P (R + 1)) (hs : L + 10 ≤ s) : KR (stI I s 3 (nI R)) L s (up f 5 (nI R)) H W C P R := by
  have hx := h
  obtain ⟨⟨-, ⟨-, l1⟩, ⟨-, l2⟩, -⟩, -, hv, hb⟩ := hx
  have b1 := h.g.2.1
  have b5 := h.g.2.2.2.2.2
  refine KR_frame h hs (fun z hz => stI_ne (by omega)) (fun k hk => up_ne (by unfold fixP at hk; omega)) ?_ ?_
  · obtain ⟨y1, y2, y3, y4, y5, y6, y7⟩ := hv
    unfold SVal
    rw [stI_aj (show 0 ≠ 3 by decide), stI_aj (show 1 ≠ 3 by decide), stI_aj (show 2 ≠ 3 by decide), stI_at, stI_aj (show 5 ≠ 3 by decide), stI_ne (show s + 3 ≠ s by omega), stI_ne (show s + 4 ≠ s by omega), stI_ne (show s + 5 ≠ s by omega), stI_ne (show s + 6 ≠ s by omega)]
    exact ⟨y1, y2, y3, ⟨rfl, by omega, fun _ => b5.2 (by omega)⟩, y5, y6, fun r hr => y7 r (by omega)⟩
  · obtain ⟨z1, z2, z3, z4, z5, z6, z7, z8⟩ := hb
    unfold SBlk cellC at *
    rw [stI_aj (show 0 ≠ 3 by decide), stI_aj (show 1 ≠ 3 by decide), stI_aj (show 2 ≠ 3 by decide), stI_aj (show 4 ≠ 3 by decide), stI_aj (show 5 ≠ 3 by decide), stI_at, stI_ne (show s + 1 ≠ s by omega), stI_ne (show s + 2 ≠ s by omega), stI_ne (show s + 3 ≠ s by omega), stI_ne (show s + 4 ≠ s by omega), stI_ne (show s + 5 ≠ s by omega), stI_ne (show s + 6 ≠ s by omega), stI_ne (show L + 2 ≠ s by omega)]
    refine ⟨up_eq, ?_, ?_, fun k hk => ?_, fun w hw => ?_, fun c hc => ?_, fun c hc => ?_, fun r hr => ⟨?_, fun w hw => ?_⟩⟩
    · rw [up_ne (by omega)]; exact z2
    · rw [up_ne (by omega), up_ne (by omega), up_ne (by omega)]; exact z3
    · rw [up_ne (by omega), up_ne (by omega), up_ne (by omega)]; exact z4 k hk
    · rw [up_ne (by omega)]; exact z5 w hw
    · rw [up_ne (by omega)]; exact z6 c hc
    · rw [up_ne (by omega), up_ne (by omega)]; exact z7 c hc
    · rw [up_ne (by omega)]; exact (z8 r (by omega)).1
    · rw [up_ne (by omega)]; exact (z8 r (by omega)).2 w hw
theorem l_removes (n : Nat) (hn : n ≤ 60) : ∀ (d f j : Nat) (I J : JI) (R : Nat), KR I L (L + 10) (J (m + 1)) H W C P R → j + d = n → d ≤ R → d < f → ∃ J', s_X9_removes_L2 m (nI n) f (nI j) J = some (nI n, J') ∧ KR (rmI L d I) L (L + 10) (J' (m + 1)) H W C P (R - d) := by
  intro d
  induction d with
  | zero =>
    intro f j I J R h hj hR hf
    obtain ⟨f, rfl⟩ : ∃ g, f = g + 1 := ⟨f - 1, by omega⟩
    have : j = n := by omega
    subst this
    refine ⟨J, ?_, h⟩
    rw [s_X9_removes_L2, if_pos (Int32.le_refl _)]
  | succ d ih =>
    intro f j I J R h hj hR hf
    obtain ⟨f, rfl⟩ : ∃ g, f = g + 1 := ⟨f - 1, by omega⟩
    obtain ⟨R, rfl⟩ : ∃ r, R = r + 1 := ⟨R - 1, by omega⟩
    have hg := h.g
    have hc := h.c
    have b5 := hg.2.2.2.2.2.1
    rw [s_X9_removes_L2, if_neg (nI_ge (by omega) (by omega)), gl5, gl5, cl5, hg.1.2.2.2.2, nI_pred, lx_s, gl5, stI_at]
    have h1 := KR_unrow h (Nat.le_refl _)
    rw [← stI_up] at h1
    obtain ⟨-, ⟨q, q1, q2, q3⟩, -⟩ := h.row (r := R) (by omega)
    have q3' : stI J (m + 1) 5 (nI R) (m + 1) (264 + 25 * R) = nI q := by rw [stI_aj (by omega)]; exact q3
    rw [a_weftOf (by omega), bd_some, q3', show (110 : Int32) = nI 110 from rfl, nI_add, gd_in (by omega) (by omega), gl2, gd_in (by omega) (by omega), cl_nI (by omega), cl2, lx_s, h1.yarn q1, h1.g.1.2.1, nI_1]
    have h2 := KR_yarn h1 (Nat.le_refl _) q1 (stI I (L + 10) 3 (nI R) (L + 10 + 2) q + nI W)
    rw [← stI_up] at h2
    have er : rmB I L = stI (stI I (L + 10) 3 (nI R)) (L + 10 + 2) q (stI I (L + 10) 3 (nI R) (L + 10 + 2) q + nI W) := by
      unfold rmB x7_addYarn
      dsimp only
      rw [hc.2.2.2.2, nI_pred, stI_at, stI_ne (show L + 10 + 6 ≠ L + 10 by omega), stI_o (show L ≠ L + 10 by omega), hc.2.1, atF_nI (show R < 60 by omega) (by omega), q2, atF_nI (show q < 6 by omega) (by omega), ptI_nI (show q < 6 by omega) (by omega)]
    unfold rmI
    rw [hc.2.2.2.2, if_pos (nI_p0 (by omega) (by omega)), er]
    obtain ⟨J', e1, h3⟩ := ih f (j + 1) _ _ R h2 (by omega) (by omega) (by omega)
    exact ⟨J', e1, by rw [show R + 1 - (d + 1) = R - d by omega]; exact h3⟩
theorem e_removes (h : KR I L (L + 10) (J (m + 1)) H W C P R) {n : Nat} (hn : n ≤ R) : ∃ J', s_X9_removes J m (nI n) = some J' ∧ KR (rmI L n I) L (L + 10) (J' (m + 1)) H W C P (R - n) := by
  have b5 := h.g.2.2.2.2.2.1
  obtain ⟨J', e, h'⟩ := l_removes n (by omega) n lf 0 I J R h (by omega) hn (by unfold lf; omega)
  refine ⟨J', ?_, h'⟩
  unfold s_X9_removes
  rw [show s_X9_removes_L2 m (nI n) lf 0 J = _ from e, bd_some]
end MUT
