/-! what the relation gives; the reference's reading methods over against the class's -/
section KRX
variable {I : JI} {L s : Nat} {f : Nat → Int32} {H W C P R : Nat}
theorem KR.g (h : KR I L s f H W C P R) : (f 0 = nI H ∧ f 2 = nI W ∧ f 3 = nI C ∧ f 4 = nI P ∧ f 5 = nI R) ∧ (H ≤ 8 ∧ W ≤ 24 ∧ C ≤ 12 ∧ P ≤ 100 ∧ R ≤ 60 ∧ (0 < R → 0 < P)) := by
  obtain ⟨⟨⟨a1, a2⟩, ⟨a3, a4⟩, ⟨a5, a6⟩, ⟨a7, a8⟩, -⟩, ⟨⟨b1, b2, b3, b4, b5, -⟩, -⟩, ⟨-, -, -, ⟨c1, c2, c3⟩, -⟩, ⟨d1, -⟩⟩ := h
  exact ⟨⟨b1.trans a1, b3.trans a3, b4.trans a5, b5.trans a7, d1.trans c1⟩, a2, a4, a6, a8, c2, c3⟩
theorem KR.c (h : KR I L s f H W C P R) : I L 0 = nI H ∧ I L 4 = nI W ∧ I L 7 = nI C ∧ I (L + 5) 3 = nI P ∧ I s 3 = nI R := by
  obtain ⟨⟨⟨a1, a2⟩, ⟨a3, a4⟩, ⟨a5, a6⟩, ⟨a7, a8⟩, -⟩, -, ⟨-, -, -, ⟨c1, c2, c3⟩, -⟩, -⟩ := h
  exact ⟨a1, a3, a5, a7, c1⟩
theorem KR.on (h : KR I L s f H W C P R) {w : Nat} (hw : w < W) : ∃ k, k < H ∧ I (L + 1) w = nI k ∧ f (38 + 3 * w) = nI k := by
  obtain ⟨⟨-, -, -, -, -, -, a, -⟩, ⟨-, b, -⟩, -⟩ := h
  obtain ⟨k, h1, h2⟩ := a w hw
  exact ⟨k, h1, h2, (b w hw).1.trans h2⟩
theorem KR.col (h : KR I L s f H W C P R) {w : Nat} (hw : w < W) : ∃ k, k < 6 ∧ I (L + 2) w = nI k ∧ f (39 + 3 * w) = nI k := by
  obtain ⟨⟨-, -, -, -, -, -, -, a, -⟩, ⟨-, b, -⟩, -⟩ := h
  obtain ⟨k, h1, h2⟩ := a w hw
  exact ⟨k, h1, h2, (b w hw).2.trans h2⟩
theorem KR.des (h : KR I L s f H W C P R) {c : Nat} (hc : c < C) : LB H (I (L + 3) c) ∧ f (118 + 4 * c) = I (L + 3) c ∧ ∃ k, k < 6 ∧ I (L + 4) c = nI k ∧ f (119 + 4 * c) = nI k := by
  obtain ⟨⟨-, -, -, -, -, -, -, -, a, -⟩, ⟨-, -, b, -⟩, -⟩ := h
  obtain ⟨h0, k, h1, h2⟩ := a c hc
  exact ⟨h0, (b c hc).1, k, h1, h2, (b c hc).2.trans h2⟩
theorem KR.pick (h : KR I L s f H W C P R) {k : Nat} (hk : k < P) : ∃ c, c < C ∧ I (L + 5 + 2) k = nI c ∧ f (164 + k) = nI c := by
  obtain ⟨⟨-, -, -, -, -, -, -, -, -, a⟩, ⟨-, -, -, b, -⟩, -⟩ := h
  obtain ⟨c, h1, h2⟩ := a k hk
  exact ⟨c, h1, h2, (b k hk).trans h2⟩
theorem KR.part (h : KR I L s f H W C P R) : RPart I (L + 5) f := h.2.1.2.2.2.2
theorem KR.set (h : KR I L s f H W C P R) : (∃ t, t ≤ 60 ∧ I L 2 = nI t ∧ f 11 = nI t) ∧ (∃ q, q ≤ 24 ∧ I L 3 = nI q ∧ f 12 = nI q) ∧ f 1 = I L 1 ∧ f 7 = I (L + 5) 4 := by
  obtain ⟨⟨-, -, -, -, ⟨t, t1, t2⟩, ⟨q, q1, q2⟩, -⟩, ⟨⟨-, b2, -, -, -, b6, b7, b8⟩, -⟩, -⟩ := h
  exact ⟨⟨t, t1, t2, b7.trans t2⟩, ⟨q, q1, q2, b8.trans q2⟩, b2, b6⟩
theorem KR.card (h : KR I L s f H W C P R) {c : Nat} (hc : c < C) : LB H (I (s + 3) c) ∧ f (116 + 4 * c) = I (s + 3) c ∧ ∃ k, k < 6 ∧ I (s + 4) c = nI k ∧ f (117 + 4 * c) = nI k := by
  obtain ⟨-, -, ⟨-, -, -, -, -, a, -⟩, ⟨-, -, -, -, -, -, b, -⟩⟩ := h
  obtain ⟨h0, k, h1, h2⟩ := a c hc
  exact ⟨h0, (b c hc).1, k, h1, h2, (b c hc).2.trans h2⟩
theorem KR.yarn (h : KR I L s f H W C P R) {c : Nat} (hc : c < 6) : f (110 + c) = I (s + 2) c := by
  obtain ⟨-, -, -, ⟨-, -, -, -, -, b, -⟩⟩ := h
  exact b c hc
theorem KR.har (h : KR I L s f H W C P R) {k : Nat} (hk : k < H) : f (14 + 3 * k) = zb (bt (I s 0) k) ∧ f (15 + 3 * k) = I (s + 1) k ∧ f (16 + 3 * k) = zb (bt (I s 1) k) := by
  obtain ⟨-, -, -, ⟨-, -, -, b, -⟩⟩ := h
  exact b k hk
theorem KR.brk (h : KR I L s f H W C P R) {w : Nat} (hw : w < W) : f (40 + 3 * w) = zb (bt (I s 2) w) := by
  obtain ⟨-, -, -, ⟨-, -, -, -, b, -⟩⟩ := h
  exact b w hw
theorem KR.sets (h : KR I L s f H W C P R) : LB H (I s 0) ∧ LB H (I s 1) ∧ LB W (I s 2) ∧ (I s 5 = 0 ∨ I s 5 = 1) ∧ f 10 = I s 4 ∧ (I s 5 = 0 ↔ f 8 = 0 ∧ f 9 = 0 ∧ f 13 = 0) := by
  obtain ⟨-, -, ⟨a1, a2, a3, -, a5, -⟩, ⟨-, b2, b3, -⟩⟩ := h
  exact ⟨a1, a2, a3, a5, b2, b3⟩
theorem KR.row (h : KR I L s f H W C P R) {r : Nat} (hr : r < R) : LB W (I (s + 5) r) ∧ (∃ k, k < 6 ∧ I (s + 6) r = nI k ∧ f (264 + 25 * r) = nI k) ∧ ∀ w, w < W → f (265 + 25 * r + w) = 2 * cellC I L s r w + zb (bt (I (s + 5) r) w) ∧ ∃ k, k < 6 ∧ cellC I L s r w = nI k := by
  have hc := @KR.col I L s f H W C P R h
  obtain ⟨-, -, ⟨-, -, -, -, -, -, a⟩, ⟨-, -, -, -, -, -, -, b⟩⟩ := h
  obtain ⟨h0, k, h1, h2⟩ := a r hr
  refine ⟨h0, ⟨k, h1, h2, (b r hr).1.trans h2⟩, fun w hw => ⟨(b r hr).2 w hw, ?_⟩⟩
  unfold cellC
  split
  · obtain ⟨q, q1, q2, -⟩ := hc hw
    exact ⟨q, q1, q2⟩
  · exact ⟨k, h1, h2⟩
end KRX
theorem LB.hasB {n k : Nat} {x : Int32} (hk : k < 32) : hasB x (nI k) = bt x k := hasB_bt hk
/-- the warps of a set of harnesses, bit by bit -/
theorem wmF_bt {hw : Nat → Int32} {set : Int32} {H : Nat} : ∀ (W : Nat), W ≤ 24 → (∀ w, w < W → ∃ k, k < 32 ∧ hw w = nI k) → LB W (wmF hw set W) ∧ ∀ w, w < W → bt (wmF hw set W) w = bt set (hw w).toNatClampNeg := by
  intro W
  induction W with
  | zero => intro _ _; exact ⟨LB.zero 0, fun w hw => absurd hw (Nat.not_lt_zero w)⟩
  | succ W ih =>
    intro hW hh
    obtain ⟨i1, i2⟩ := ih (by omega) fun w hw => hh w (by omega)
    obtain ⟨k, k1, k2⟩ := hh W (by omega)
    unfold wmF
    rw [atF_nI (by omega) (by omega), k2, hasB_bt k1]
    by_cases q : bt set k = true
    · rw [if_pos q]
      refine ⟨(i1.mono (by omega)).or (LB.shl (by omega) (by omega)), fun w hw => ?_⟩
      rw [bt_or, bt_shl (by omega) (by omega)]
      by_cases e : w = W
      · subst e; rw [k2, cl_nI (by omega), q]; simp
      · rw [i2 w (by omega), decide_eq_false e, Bool.or_false]
    · rw [if_neg q]
      refine ⟨i1.mono (by omega), fun w hw => ?_⟩
      by_cases e : w = W
      · subst e; rw [k2, cl_nI (by omega), i1 _ (Nat.le_refl _)]; simp at q; exact q.symm
      · exact i2 w (by omega)
section READ1
variable {I J : JI} {L s m H W C P R : Nat}
theorem mask_bt (h : KR I L s (J (m + 1)) H W C P R) (set : Int32) : LB W (x3_mask I L set) ∧ ∀ w, w < W → ∃ k, k < H ∧ J (m + 1) (38 + 3 * w) = nI k ∧ I (L + 1) w = nI k ∧ bt (x3_mask I L set) w = bt set k := by
  obtain ⟨⟨g0, g2, g3, g4, g5⟩, b1, b2, b3, b4, b5, b6⟩ := h.g
  obtain ⟨c0, c4, c7, c3, cs⟩ := h.c
  have h1 := @wmF_bt (I (L + 1)) set H W b2 fun w hw => by
    obtain ⟨k, k1, k2, k3⟩ := h.on hw
    exact ⟨k, by omega, k2⟩
  unfold x3_mask
  rw [c4, cl_nI (by omega)]
  refine ⟨h1.1, fun w hw => ?_⟩
  obtain ⟨k, k1, k2, k3⟩ := h.on hw
  refine ⟨k, k1, k3, k2, ?_⟩
  rw [h1.2 w hw, k2, cl_nI (by omega)]
theorem e_warpsOf (h : KR I L s (J (m + 1)) H W C P R) {c : Nat} (hc : c < C) : s_X9_warpsOf J m (nI c) = some (bcF (x3_mask I L (I (s + 3) c))) := by
  obtain ⟨⟨g0, g2, g3, g4, g5⟩, b1, b2, b3, b4, b5, b6⟩ := h.g
  obtain ⟨m1, m2⟩ := mask_bt h (I (s + 3) c)
  rw [bcF_LB m1 b2]
  refine l_warpsOf g2 b2 (by omega) fun w hw => ?_
  obtain ⟨k, k1, k2, k3, k4⟩ := m2 w hw
  exact ⟨k, by omega, k2, by rw [(h.card hc).2.1, k4]⟩
theorem e_next (h : KR I L s (J (m + 1)) H W C P R) : s_X9_next J m = some (x0_cfr I (L + 5) (I s 3)) ∧ (0 < P → ∃ c, c < C ∧ x0_cfr I (L + 5) (I s 3) = nI c) := by
  obtain ⟨⟨g0, g2, g3, g4, g5⟩, b1, b2, b3, b4, b5, b6⟩ := h.g
  obtain ⟨c0, c4, c7, c3, cs⟩ := h.c
  unfold s_X9_next x0_cfr
  simp only [gl0, gl1, gl2, gl3, gl4, gl5, gl6, gl7, gl8, gl9, gl10, gl11, gl12, gl13, cl0, cl1, cl2, cl3, cl4, cl5, cl6, cl7, cl8, cl9, cl10, cl11, cl12, cl13, g4, g5, c3, cs]
  by_cases q : P = 0
  · subst q
    rw [if_pos nI_z, if_neg (by decide)]
    exact ⟨rfl, fun q => absurd q (by omega)⟩
  · have hm : R % P < P := Nat.mod_lt _ (by omega)
    rw [if_neg (nI_ne0 (by omega) (by omega)), if_pos (nI_p0 (by omega) (by omega)), gd_i (nI_ne0 (by omega) (by omega)), nI_modt (by omega) (by omega) (by omega), atF_nI (by omega) (by omega)]
    obtain ⟨c, c1, c2, c3⟩ := h.pick hm
    rw [show (164 : Int32) = nI 164 from rfl, nI_add, gd_in (by omega) (by omega), cl_nI (by omega), c2, c3]
    exact ⟨rfl, fun _ => ⟨c, c1, rfl⟩⟩
theorem e_why (h : KR I L s (J (m + 1)) H W C P R) : s_X9_why J m = some (x3_obst I L s) := by
  obtain ⟨⟨g0, g2, g3, g4, g5⟩, b1, b2, b3, b4, b5, b6⟩ := h.g
  obtain ⟨c0, c4, c7, c3, cs⟩ := h.c
  obtain ⟨-, ⟨mo, mo1, mo2, mo3⟩, -⟩ := h.set
  unfold s_X9_why x3_obst
  simp only [gl0, gl1, gl2, gl3, gl4, gl5, gl6, gl7, gl8, gl9, gl10, gl11, gl12, gl13, cl0, cl1, cl2, cl3, cl4, cl5, cl6, cl7, cl8, cl9, cl10, cl11, cl12, cl13, g4, g5, c3, cs]
  by_cases q : P = 0
  · subst q
    rw [if_pos nI_z, if_pos nI_z]
  · rw [if_neg (nI_ne0 (by omega) (by omega)), if_neg (nI_ne0 (by omega) (by omega))]
    by_cases q2 : R = 60
    · subst q2
      rw [if_pos (show nI 60 = 60 from rfl), if_pos (by decide)]
    · have e1 : ¬ nI R = 60 := fun e => q2 ((nI_eqL (n := 60) (by omega) (by omega)).mp e)
      have e2 : ¬ 60 ≤ nI R := fun e => q2 (by have := (nI_geL (n := 60) (by omega) (by omega)).mp e; omega)
      rw [if_neg e1, if_neg e2]
      obtain ⟨n1, n2⟩ := e_next h
      obtain ⟨c, k1, k2⟩ := n2 (by omega)
      obtain ⟨d1, d2, col, d3, d4, d5⟩ := h.card k1
      rw [cs] at k2
      rw [n1, bd_some, cs, k2, a_ofCard1 (by omega), bd_some, d5, bd_some, atF_nI (by omega) (by omega), d4, atF_nI (by omega) (by omega), atF_nI (by omega) (by omega), show (110 : Int32) = nI 110 from rfl, nI_add]
      simp (disch := omega) only [gd_in, cl_nI, gl0, gl1, gl2, gl3, gl4, gl5, gl6, gl7, gl8, gl9, gl10, gl11, gl12, gl13, cl0, cl1, cl2, cl3, cl4, cl5, cl6, cl7, cl8, cl9, cl10, cl11, cl12, cl13]
      rw [h.yarn d3, g2, c4]
      by_cases q3 : I (s + 2) col < nI W
      · rw [if_pos q3, if_neg (Int32.not_le.mpr q3)]
      · rw [if_neg q3, if_pos (Int32.not_lt.mp q3), e_warpsOf h k1, bd_some]
        simp only [mo2, mo3]
        by_cases q4 : nI mo < bcF (x3_mask I L (I (s + 3) c))
        · rw [if_pos q4, if_neg (Int32.not_le.mpr q4)]
        · rw [if_neg q4, if_pos (Int32.not_lt.mp q4)]
theorem two_zb (q : Nat) (b : Bool) : 2 * nI q + zb b = nI (2 * q + (if b = true then 1 else 0)) := by
  rw [show (2 : Int32) = nI 2 from rfl, nI_mul]
  cases b
  · exact Int32.add_zero _
  · exact nI_1 _
theorem cell_eq {q q' : Nat} {b b' : Bool} (h : q < 1000) (h' : q' < 1000) : 2 * nI q + zb b = 2 * nI q' + zb b' ↔ q = q' ∧ b = b' := by
  rw [two_zb, two_zb, nI_eq (by cases b <;> simp <;> omega) (by cases b' <;> simp <;> omega)]
  cases b <;> cases b' <;> simp <;> omega
theorem e_cellOf (h : KR I L s (J (m + 1)) H W C P R) {r w : Nat} (hr : r < R) (hw : w < W) : s_X9_cellOf J m (nI r) (nI w) = some (2 * cellC I L s r w + zb (bt (I (s + 5) r) w)) := by
  obtain ⟨-, b1, b2, b3, b4, b5, b6⟩ := h.g
  rw [a_cellOf (by omega) (by omega), ((h.row hr).2.2 w hw).1]
theorem half_cell (q : Nat) (b : Bool) (h : q < 1000) : (2 * nI q + zb b) / 2 = nI q := by
  rw [two_zb, show (2 : Int32) = nI 2 from rfl, nI_divt (by cases b <;> simp <;> omega) (by omega) (by omega)]
  congr 1
  cases b <;> simp <;> omega
theorem e_shows (h : KR I L s (J (m + 1)) H W C P R) {r w : Nat} (hr : r < R) (hw : w < W) : s_X9_shows J m (nI r) (nI w) = some (bt (I (s + 5) r) w) := by
  unfold s_X9_shows
  rw [e_cellOf h hr hw, bd_some]
  obtain ⟨q, q1, q2⟩ := ((h.row hr).2.2 w hw).2
  rw [q2, half_cell q _ (by omega)]
  generalize bt (I (s + 5) r) w = b
  rw [two_zb, show (2 : Int32) = nI 2 from rfl, nI_mul, nI_sub (by omega)]
  cases b
  · rw [if_neg]
    intro e
    have := (nI_eqL (n := 1) (by simp; omega) (by omega)).mp e
    simp at this
    omega
  · rw [if_pos]
    have : q * 2 = 2 * q := by omega
    simp [this]
    rfl
theorem cfr_pick (h : KR I L s (J (m + 1)) H W C P R) {r : Nat} (hr : r < R) : ∃ c, c < C ∧ x0_cfr I (L + 5) (nI r) = nI c ∧ 0 < P ∧ r % P < P ∧ J (m + 1) (164 + r % P) = nI c := by
  obtain ⟨⟨g0, g2, g3, g4, g5⟩, b1, b2, b3, b4, b5, b6⟩ := h.g
  obtain ⟨c0, c4, c7, c3, cs⟩ := h.c
  have hP : 0 < P := b6 (by omega)
  have hm : r % P < P := Nat.mod_lt _ hP
  obtain ⟨c, k1, k2, k3⟩ := h.pick hm
  refine ⟨c, k1, ?_, hP, hm, k3⟩
  unfold x0_cfr
  rw [c3, if_pos (nI_p0 hP (by omega)), nI_modt (by omega) (by omega) (by omega), atF_nI (by omega) (by omega), k2]
theorem cntB_full {p : Nat → Bool} : ∀ (n : Nat), cntB p n = n ↔ ∀ k, k < n → p k = true := by
  intro n
  induction n with
  | zero => exact ⟨fun _ k hk => absurd hk (Nat.not_lt_zero k), fun _ => rfl⟩
  | succ n ih =>
    have hl := cntB_le p n
    have e : cntB p (n + 1) = cntB p n + (if p n = true then 1 else 0) := rfl
    constructor
    · intro h k hk
      rw [e] at h
      by_cases q : p n = true
      · rw [if_pos q] at h
        by_cases e2 : k = n
        · subst e2; exact q
        · exact ih.mp (by omega) k (by omega)
      · rw [if_neg q] at h; omega
    · intro h
      rw [e, h n (by omega), if_pos rfl, ih.mpr fun k hk => h k (by omega)]
theorem eqD_iff (h : KR I L (L + 10) (J (m + 1)) H W C P R) {r c : Nat} (hr : r < R) (hc : c < C) : eqD I L (nI r) (nI c) = true ↔ ∀ w, w < W → 2 * cellC I L (L + 10) r w + zb (bt (I (L + 10 + 5) r) w) = 2 * (if bt (x3_mask I L (I (L + 3) c)) w = true then I (L + 2) w else I (L + 4) c) + zb (bt (x3_mask I L (I (L + 3) c)) w) := by
  obtain ⟨⟨g0, g2, g3, g4, g5⟩, b1, b2, b3, b4, b5, b6⟩ := h.g
  obtain ⟨c0, c4, c7, c3, cs⟩ := h.c
  obtain ⟨m1, m2⟩ := mask_bt h (I (L + 3) c)
  obtain ⟨r1, ⟨qr, qr1, qr2, -⟩, r3⟩ := h.row hr
  obtain ⟨d1, -, qd, qd1, qd2, -⟩ := h.des hc
  unfold eqD
  rw [atF_nI (by omega) (by omega), atF_nI (by omega) (by omega), atF_nI (by omega) (by omega), atF_nI (by omega) (by omega), c4, bcF_LB r1 b2]
  generalize x3_mask I L (I (L + 3) c) = M at m1 m2
  have key : ∀ w, w < W → (2 * cellC I L (L + 10) r w + zb (bt (I (L + 10 + 5) r) w) = 2 * (if bt M w = true then I (L + 2) w else I (L + 4) c) + zb (bt M w) ↔ bt (I (L + 10 + 5) r) w = bt M w ∧ (bt M w = true ∨ qr = qd)) := by
    intro w hw
    obtain ⟨k, k1, k2, -⟩ := h.col hw
    unfold cellC
    rw [k2, qr2, qd2]
    rw [show (if bt (I (L + 10 + 5) r) w = true then nI k else nI qr) = nI (if bt (I (L + 10 + 5) r) w = true then k else qr) from by split <;> rfl]
    rw [show (if bt M w = true then nI k else nI qd) = nI (if bt M w = true then k else qd) from by split <;> rfl]
    rw [cell_eq (by split <;> omega) (by split <;> omega)]
    cases bt (I (L + 10 + 5) r) w <;> cases bt M w <;> simp
  rw [Bool.and_eq_true, Bool.or_eq_true, decide_eq_true_iff, decide_eq_true_iff, decide_eq_true_iff, qr2, qd2, nI_eq (by have := cntB_le (bt (I (L + 10 + 5) r)) W; omega) (by omega), nI_eq (by omega) (by omega), cntB_full]
  simp only [qd2] at key
  constructor
  · rintro ⟨e1, e2⟩ w hw
    rw [key w hw]
    refine ⟨by rw [e1], ?_⟩
    rcases e2 with e2 | e2
    · exact Or.inl (by rw [← e1]; exact e2 w hw)
    · exact Or.inr e2
  · intro e
    refine ⟨LB.eq r1 m1 fun w hw => ((key w hw).mp (e w hw)).1, ?_⟩
    by_cases q : qr = qd
    · exact Or.inr q
    · refine Or.inl fun w hw => ?_
      obtain ⟨e1, e2⟩ := (key w hw).mp (e w hw)
      rw [e1]
      exact e2.resolve_right q
theorem e_asE (h : KR I L (L + 10) (J (m + 1)) H W C P R) {r : Nat} (hr : r < R) {a b : Int32} (hab : ∃ c, c < C ∧ exC (x0_cfr I (L + 5) (nI r)) a b = nI c) : s_X9_isAsExpected J m (nI r) a b = some (eqD I L (nI r) (exC (x0_cfr I (L + 5) (nI r)) a b)) := by
  obtain ⟨⟨g0, g2, g3, g4, g5⟩, b1, b2, b3, b4, b5, b6⟩ := h.g
  obtain ⟨c0, k1, k2, k3, k4, k5⟩ := cfr_pick h hr
  obtain ⟨c, hc, e⟩ := hab
  rw [k2] at e
  unfold s_X9_isAsExpected
  simp only [gl0, gl1, gl2, gl3, gl4, gl5, gl6, gl7, gl8, gl9, gl10, gl11, gl12, gl13, cl0, cl1, cl2, cl3, cl4, cl5, cl6, cl7, cl8, cl9, cl10, cl11, cl12, cl13, g4]
  rw [gd_i (nI_ne0 (by omega) (by omega)), nI_modt (by omega) (by omega) (by omega), show (164 : Int32) = nI 164 from rfl, nI_add, gd_in (by omega) (by omega), cl_nI (by omega), k5, lx_s, k2, show s_X9_exchanged (nI c0) a b = exC (nI c0) a b from rfl, e]
  obtain ⟨m1, m2⟩ := mask_bt h (I (L + 3) c)
  obtain ⟨d1, d2, qd, qd1, qd2, qd3⟩ := h.des hc
  have hl := loopS (fun f i => s_X9_isAsExpected_L27 J m (nI c) (nI r) a b f i) (fun w => !decide (2 * cellC I L (L + 10) r w + zb (bt (I (L + 10 + 5) r) w) = 2 * (if bt (x3_mask I L (I (L + 3) c)) w = true then I (L + 2) w else I (L + 4) c) + zb (bt (x3_mask I L (I (L + 3) c)) w))) (fun _ => false) (nI W) 0 W ?_ ?_ lf 0 (Nat.le_refl 0) (Nat.zero_le W) (by unfold lf; omega)
  · rw [show s_X9_isAsExpected_L27 J m (nI c) (nI r) a b lf 0 = _ from hl]
    rw [Nat.sub_zero]
    cases q : findF (fun w => !decide (2 * cellC I L (L + 10) r w + zb (bt (I (L + 10 + 5) r) w) = 2 * (if bt (x3_mask I L (I (L + 3) c)) w = true then I (L + 2) w else I (L + 4) c) + zb (bt (x3_mask I L (I (L + 3) c)) w))) W 0 with
    | none =>
      have := (eqD_iff h hr hc).mpr fun w hw => by
        have := findF_none W 0 q w (Nat.zero_le w) (by omega)
        simpa using this
      rw [this]; rfl
    | some k =>
      obtain ⟨-, q2, q3⟩ := findF_some W 0 k q
      have : ¬ eqD I L (nI r) (nI c) = true := fun e2 => by
        have e3 := (eqD_iff h hr hc).mp e2 k (by omega)
        rw [decide_eq_true e3] at q3
        cases q3
      rw [Bool.not_eq_true] at this
      rw [this]; rfl
  · intro f
    show s_X9_isAsExpected_L27 J m (nI c) (nI r) a b (f + 1) (nI W) = _
    rw [s_X9_isAsExpected_L27, gl2, cl2, g2, if_pos (Int32.le_refl _)]
  · intro f w _ hw
    show s_X9_isAsExpected_L27 J m (nI c) (nI r) a b (f + 1) (nI w) = _
    obtain ⟨k, n1, n2, n3, n4⟩ := m2 w hw
    obtain ⟨kc, n5, n6, n7⟩ := h.col hw
    rw [s_X9_isAsExpected_L27, gl2, cl2, g2, if_neg (nI_ge hw (by omega)), a_ofCard2 (by omega), bd_some, a_harnessOf (by omega), bd_some, e_cellOf h hr hw, bd_some, n2, mhas_bt (by omega), d2, ← n4, a_colourOf (by omega), bd_some, a_ofCard3 (by omega), bd_some, qd3, n7, n6, qd2, nI_1]
    unfold s_X9_cell
    rw [one_zb]
    by_cases q : bt (x3_mask I L (I (L + 3) c)) w = true
    · rw [if_pos q, if_pos q]
      by_cases q2 : 2 * cellC I L (L + 10) r w + zb (bt (I (L + 10 + 5) r) w) = 2 * nI kc + zb (bt (x3_mask I L (I (L + 3) c)) w)
      · rw [if_pos q2, decide_eq_true q2]; rfl
      · rw [if_neg q2, decide_eq_false q2]; rfl
    · rw [if_neg q, if_neg q]
      by_cases q2 : 2 * cellC I L (L + 10) r w + zb (bt (I (L + 10 + 5) r) w) = 2 * nI qd + zb (bt (x3_mask I L (I (L + 3) c)) w)
      · rw [if_pos q2, decide_eq_true q2]; rfl
      · rw [if_neg q2, decide_eq_false q2]; rfl
end READ1
