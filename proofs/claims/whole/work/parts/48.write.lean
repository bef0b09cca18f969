/-! written text, both ways -/
section WRT
variable {I J I0 J0 : JI} {c L m u P : Nat}
/-- n bytes are written, both ways -/
def WO (I0 J0 I J : JI) (u m n : Nat) : Prop := (n ≤ 500 ∧ I u 1 = nI n ∧ J m 22 = nI n ∧ ∀ k, k < n → I (u + 1) k = J (m + 10) k) ∧ (∀ z, z ≠ u → z ≠ u + 1 → I z = I0 z) ∧ (∀ z, z ≠ m → z ≠ m + 10 → J z = J0 z) ∧ (∀ k, k ≠ 22 → J m k = J0 m k)
theorem e_byte {n b : Nat} (h : WO I0 J0 I J u m n) (hn : n < 500) (hb : b < 128) : ∃ J', s_X9_writesByte J m (nI b) = some J' ∧ WO I0 J0 (s_X4_add I u (nI b)) J' u m (n + 1) := by
  obtain ⟨⟨h1, h2, h3, h4⟩, h5, h6, h7⟩ := h
  have hnb : ∀ b : Fin 128, vp_nar .byte ((Int32.toInt8 (nI b.val)).toInt32) = nI b.val := by decide +kernel
  have hn2 := hnb ⟨b, hb⟩
  dsimp only at hn2
  have eI : s_X4_add I u (nI b) = stI (stI I (u + 1) n (nI b)) u 1 (nI (n + 1)) := by
    unfold s_X4_add
    rw [h2, if_neg (show ¬ Int32.ofNat 500 ≤ nI n from nI_ge hn (by decide)), ptI_nI hn (by omega), lx_s, lx_s, stI_o (show u ≠ u + 1 by omega), h2, nI_1]
  have eJ : s_X9_writesByte J m (nI b) = some (stI (stI J (m + 10) n (nI b)) m 22 (nI (n + 1))) := by
    unfold s_X9_writesByte
    rw [h3, gd_in (by omega) (by omega), cl_nI (by omega), hn2, lx_s, stI_o (show m ≠ m + 10 by omega), h3, nI_1, lx_s]
  refine ⟨_, eJ, ?_⟩
  rw [eI]
  refine ⟨⟨by omega, stI_at, stI_at, fun k hk => ?_⟩, fun z z1 z2 => ?_, fun z z1 z2 => ?_, fun k hk => ?_⟩
  · rw [stI_o (show u + 1 ≠ u by omega), stI_o (show m + 10 ≠ m by omega)]
    by_cases e : k = n
    · subst e; rw [stI_at, stI_at]
    · rw [stI_aj e, stI_aj e]; exact h4 k (by omega)
  · rw [stI_ne z1, stI_ne z2]; exact h5 z z1 z2
  · rw [stI_ne z1, stI_ne z2]; exact h6 z z1 z2
  · rw [stI_aj hk, stI_o (by omega)]; exact h7 k hk
theorem WO_KR {s n H W C P' R : Nat} (h : WO I0 J0 I J u m n) (hk : KR I0 L s (J0 (m + 1)) H W C P' R) (hu : u + 2 ≤ L ∨ L + 10 ≤ u) (hs : u + 2 ≤ s ∨ s + 7 ≤ u) : KR I L s (J (m + 1)) H W C P' R := by
  obtain ⟨-, h5, h6, -⟩ := h
  rw [h6 (m + 1) (by omega) (by omega)]
  exact KR_dep hk (fun z z1 z2 => h5 z (by omega) (by omega)) (fun z z1 z2 => h5 z (by omega) (by omega))
theorem RR_wrt {n : Nat} (h : RR I0 J0 c L m) (hL : L = c + 4 ∨ L = c + 104) (hw : WO I0 J0 I J (c + 28) m n) : RR I J c L m := by
  obtain ⟨⟨w1, w2, w3, w4⟩, h5, h6, h7⟩ := hw
  obtain ⟨⟨n', n1, n2, n3, n4⟩, -, ⟨e1, e2⟩, hr⟩ := h
  have f5 : ∀ z, ¬ (c + 28 ≤ z ∧ z < c + 30) → I z = I0 z := fun z hz => h5 z (by omega) (by omega)
  refine ⟨⟨n', n1, by rw [f5 _ (by omega)]; exact n2, by rw [h7 9 (by decide)]; exact n3, fun k hk => ?_⟩, ⟨n, w1, w2, w3, w4⟩, ⟨by rw [h7 10 (by decide), f5 _ (by omega)]; exact e1, by rw [h7 11 (by decide), f5 _ (by omega)]; exact e2⟩, ?_⟩
  · rw [f5 _ (by omega), h6 _ (by omega) (by omega)]; exact n4 k hk
  · rcases hr with hr | ⟨H, W, C, P', R, hl⟩
    · refine Or.inl ?_
      unfold RNl at *
      rw [f5 c (by omega), f5 (c + 30) (by omega), f5 (c + 88) (by omega), f5 (c + 96) (by omega), h7 6 (by decide), h7 7 (by decide), h6 (m + 5) (by omega) (by omega)]
      exact hr
    · refine Or.inr ⟨H, W, C, P', R, ?_⟩
      obtain ⟨⟨l1, l2⟩, hk, hW, hp, ⟨u, x, u8, x8, hu, hx, hm7, hb⟩, l5, l6⟩ := hl
      refine ⟨⟨by rw [f5 _ (by omega)]; exact l1, by rw [h7 6 (by decide)]; exact l2⟩, ?_, hW, ?_, ⟨u, x, u8, x8, by rw [f5 _ (by omega)]; exact hu, by rw [f5 _ (by omega)]; exact hx, by rw [h7 7 (by decide)]; exact hm7, fun i hi => ?_⟩, ?_, ?_⟩
      · rw [h6 (m + 1) (by omega) (by omega)]
        exact KR_dep hk (fun z z1 z2 => f5 z (by omega)) (fun z z1 z2 => f5 z (by omega))
      · rw [h6 (m + 1) (by omega) (by omega)]
        exact RPart_dep hp (f5 _ (by omega)) (f5 _ (by omega))
      · obtain ⟨p3, R3, p4⟩ := hb i hi
        have hr2 : c + 32 ≤ ringS c x u i ∧ ringS c x u i + 7 ≤ c + 88 := by
          unfold ringS
          have := Nat.mod_lt (x + 8 - u + i) (show 0 < 8 by omega)
          omega
        rw [h6 (m + 3) (by omega) (by omega)]
        exact ⟨RPart_dep p3 (f5 _ (by omega)) (f5 _ (by omega)), R3, KR_dep p4 (fun z z1 z2 => f5 z (by omega)) (fun z z1 z2 => f5 z (by omega))⟩
      · obtain ⟨b, b1, b2, b3⟩ := l5
        refine ⟨b, by rw [f5 _ (by omega)]; exact b1, by rw [h6 _ (by omega) (by omega)]; exact b2, fun hb => ?_⟩
        obtain ⟨p3, R3, p4⟩ := b3 hb
        rw [h6 (m + 4) (by omega) (by omega)]
        exact ⟨RPart_dep p3 (f5 _ (by omega)) (f5 _ (by omega)), R3, KR_dep p4 (fun z z1 z2 => f5 z (by omega)) (fun z z1 z2 => f5 z (by omega))⟩
      · obtain ⟨b, b1, b2, b3⟩ := l6
        refine ⟨b, by rw [f5 _ (by omega)]; exact b1, by rw [h6 _ (by omega) (by omega)]; exact b2, fun hb => ?_⟩
        obtain ⟨p3, R3, p4⟩ := b3 hb
        rw [h6 (m + 4) (by omega) (by omega)]
        exact ⟨RPart_dep p3 (f5 _ (by omega)) (f5 _ (by omega)), R3, KR_dep p4 (fun z z1 z2 => f5 z (by omega)) (fun z z1 z2 => f5 z (by omega))⟩
theorem WO_0 : WO I J (stI I u 1 0) (stI J m 22 0) u m 0 := ⟨⟨by omega, stI_at, stI_at, fun k hk => absurd hk (Nat.not_lt_zero k)⟩, fun z z1 z2 => stI_ne z1, fun z z1 z2 => stI_ne z1, fun k hk => stI_aj hk⟩
theorem l_writeRow {H W C P' R r : Nat} (hk : KR I0 L (L + 10) (J0 (m + 1)) H W C P' R) (hL : L = c + 4 ∨ L = c + 104) (hr : r < R) : ∀ (d f f' j : Nat) (I J : JI), WO I0 J0 I J (c + 28) m j → j + d = W → d < f → d < f' → ∃ I' J', s_X8_writeRow_L15 c L P (nI r) f (nI j) I = some (nI W, I') ∧ s_X9_writeRow_L17 m (nI r) f' (nI j) J = some (nI W, J') ∧ WO I0 J0 I' J' (c + 28) m W := by
  intro d
  obtain ⟨-, b1, b2, b3, b4, b5, b6⟩ := hk.g
  induction d with
  | zero =>
    intro f f' j I J h hj hf hf'
    obtain ⟨f, rfl⟩ : ∃ g, f = g + 1 := ⟨f - 1, by omega⟩
    obtain ⟨f', rfl⟩ : ∃ g, f' = g + 1 := ⟨f' - 1, by omega⟩
    have : j = W := by omega
    subst this
    have hk' := WO_KR h hk (by omega) (by omega)
    refine ⟨I, J, ?_, ?_, h⟩
    · rw [s_X8_writeRow_L15, hk'.c.2.1, if_pos (Int32.le_refl _)]
    · rw [s_X9_writeRow_L17, gl2, cl2, hk'.g.1.2.1, if_pos (Int32.le_refl _)]
  | succ d ih =>
    intro f f' j I J h hj hf hf'
    obtain ⟨f, rfl⟩ : ∃ g, f = g + 1 := ⟨f - 1, by omega⟩
    obtain ⟨f', rfl⟩ : ∃ g, f' = g + 1 := ⟨f' - 1, by omega⟩
    have hk' := WO_KR h hk (by omega) (by omega)
    have hjW : j < W := by omega
    obtain ⟨q, q1, q2⟩ := ((hk'.row hr).2.2 j hjW).2
    rw [s_X8_writeRow_L15, hk'.c.2.1, if_neg (nI_ge hjW (by omega)), sh_C (by omega) (by omega), cell_C (by omega) (by omega), s_X9_writeRow_L17, gl2, cl2, hk'.g.1.2.1, if_neg (nI_ge hjW (by omega)), e_shows hk' hr hjW, bd_some, e_cellOf hk' hr hjW, bd_some, bd_some, q2, half_cell _ _ (by omega), nI_1]
    simp only [lx_s]
    by_cases q3 : bt (I (L + 10 + 5) r) j = true
    · rw [if_pos q3, if_pos q3, show (65 : Int32) = nI 65 from rfl, nI_add]
      obtain ⟨J1, e1, h1⟩ := e_byte (b := 65 + q) h (by omega) (by omega)
      rw [e1, bd_some]
      exact ih f f' (j + 1) _ J1 h1 (by omega) (by omega) (by omega)
    · rw [if_neg q3, if_neg q3, show (97 : Int32) = nI 97 from rfl, nI_add]
      obtain ⟨J1, e1, h1⟩ := e_byte (b := 97 + q) h (by omega) (by omega)
      rw [e1, bd_some]
      exact ih f f' (j + 1) _ J1 h1 (by omega) (by omega) (by omega)
theorem q_writeRow (h : RR I J c L m) (hL : L = c + 4 ∨ L = c + 104) (x : Int32) : Eqv c L m [eIS, eIX] (s_X8_writeRow I c L P x) (s_X9_writeRow J m x) := by
  rcases rq_Row (P := P) h x with ⟨E, t, e1, e2, e3⟩ | ⟨H, W, C, P', R, k, hl, hk, hx, rfl, e1, e2⟩
  · exact Eqv_ref h (by unfold s_X8_writeRow; rw [e1, bx_r]) (by unfold s_X9_writeRow; rw [e2, bd2_some]; rfl) e3
  · obtain ⟨I', J', r1, r2, hw⟩ := l_writeRow (P := P) hk hL hx W lf lf 0 _ _ (WO_0 (u := c + 28)) (by omega) (by have := hk.g.2.2.1; unfold lf; omega) (by have := hk.g.2.2.1; unfold lf; omega)
    unfold s_X8_writeRow s_X9_writeRow
    rw [e1, e2, bx_l, bd2_some, if_pos rfl, lx_s, lx_s, show s_X8_writeRow_L15 c L P (nI k) lf 0 _ = _ from r1, show s_X9_writeRow_L17 m (nI k) lf 0 _ = _ from r2, bd_some, bd_some]
    dsimp only
    rw [hw.1.2.1, hw.1.2.2.1]
    exact Eqv_mut rfl rfl ⟨RR_wrt (RR_thr h 0) hL hw, by rw [hw.2.2.2 0 (by decide), stI_at]⟩
theorem l_writeCard {H W C P' R r : Nat} (hk : KR I0 L (L + 10) (J0 (m + 1)) H W C P' R) (hL : L = c + 4 ∨ L = c + 104) (hr : r < C) : ∀ (d f f' j : Nat) (I J : JI), WO I0 J0 I J (c + 28) m j → j + d = H → d < f → d < f' → ∃ I' J', s_X8_writeCard_L15 c L P (nI r) f (nI j) I = some (nI H, I') ∧ s_X9_writeCard_L17 m (nI r) f' (nI j) J = some (nI H, J') ∧ WO I0 J0 I' J' (c + 28) m H := by
  intro d
  obtain ⟨-, b1, b2, b3, b4, b5, b6⟩ := hk.g
  induction d with
  | zero =>
    intro f f' j I J h hj hf hf'
    obtain ⟨f, rfl⟩ : ∃ g, f = g + 1 := ⟨f - 1, by omega⟩
    obtain ⟨f', rfl⟩ : ∃ g, f' = g + 1 := ⟨f' - 1, by omega⟩
    have : j = H := by omega
    subst this
    have hk' := WO_KR h hk (by omega) (by omega)
    refine ⟨I, J, ?_, ?_, h⟩
    · rw [s_X8_writeCard_L15, hk'.c.1, if_pos (Int32.le_refl _)]
    · rw [s_X9_writeCard_L17, gl0, cl0, hk'.g.1.1, if_pos (Int32.le_refl _)]
  | succ d ih =>
    intro f f' j I J h hj hf hf'
    obtain ⟨f, rfl⟩ : ∃ g, f = g + 1 := ⟨f - 1, by omega⟩
    obtain ⟨f', rfl⟩ : ∃ g, f' = g + 1 := ⟨f' - 1, by omega⟩
    have hk' := WO_KR h hk (by omega) (by omega)
    have hjW : j < H := by omega
    obtain ⟨k1, k2, -⟩ := hk'.card hr
    rw [s_X8_writeCard_L15, hk'.c.1, if_neg (nI_ge hjW (by omega)), atF_nI (by omega) (by omega), hasB_bt (by omega), s_X9_writeCard_L17, gl0, cl0, hk'.g.1.1, if_neg (nI_ge hjW (by omega)), a_ofCard0 (by omega), bd_some, k2, mhas_bt (by omega), nI_1]
    simp only [lx_s]
    by_cases q3 : bt (I (L + 10 + 3) r) j = true
    · rw [if_pos q3, if_pos q3]
      obtain ⟨J1, e1, h1⟩ := e_byte (b := 111) h (by omega) (by omega)
      rw [show s_X9_writesByte J m 111 = _ from e1, bd_some]
      exact ih f f' (j + 1) _ J1 h1 (by omega) (by omega) (by omega)
    · rw [if_neg q3, if_neg q3]
      obtain ⟨J1, e1, h1⟩ := e_byte (b := 46) h (by omega) (by omega)
      rw [show s_X9_writesByte J m 46 = _ from e1, bd_some]
      exact ih f f' (j + 1) _ J1 h1 (by omega) (by omega) (by omega)
theorem q_writeCard (h : RR I J c L m) (hL : L = c + 4 ∨ L = c + 104) (x : Int32) : Eqv c L m [eIS, eIX] (s_X8_writeCard I c L P x) (s_X9_writeCard J m x) := by
  rcases rq_Card (P := P) h x with ⟨E, t, e1, e2, e3⟩ | ⟨H, W, C, P', R, k, hl, hk, hx, rfl, e1, e2⟩
  · exact Eqv_ref h (by unfold s_X8_writeCard; rw [e1, bx_r]) (by unfold s_X9_writeCard; rw [e2, bd2_some]; rfl) e3
  · have b1 := hk.g.2.1
    have b3 := hk.g.2.2.2.1
    obtain ⟨I1, J1, r1, r2, hw⟩ := l_writeCard (P := P) hk hL hx H lf lf 0 _ _ (WO_0 (u := c + 28)) (by omega) (by unfold lf; omega) (by unfold lf; omega)
    obtain ⟨J2, r3, hw2⟩ := e_byte (b := 32) hw (by omega) (by omega)
    have hk2 := WO_KR hw2 hk (by omega) (by omega)
    obtain ⟨-, -, q, q1, q2, q3⟩ := hk2.card hx
    obtain ⟨J3, r4, hw3⟩ := e_byte (b := 97 + q) hw2 (by omega) (by omega)
    unfold s_X8_writeCard s_X9_writeCard
    rw [e1, e2, bx_l, bd2_some, if_pos rfl, lx_s, lx_s, show s_X8_writeCard_L15 c L P (nI k) lf 0 _ = _ from r1, show s_X9_writeCard_L17 m (nI k) lf 0 _ = _ from r2, bd_some, bd_some]
    dsimp only
    rw [show s_X9_writesByte J1 m 32 = _ from r3, bd_some, a_ofCard1 (by omega), bd_some, q3, lx_s, lx_s, atF_nI (by omega) (by omega), show s_X4_add I1 (c + 28) 32 = s_X4_add I1 (c + 28) (nI 32) from rfl, q2, show (97 : Int32) = nI 97 from rfl, nI_add, r4, bd_some, hw3.1.2.1, hw3.1.2.2.1]
    exact Eqv_mut rfl rfl ⟨RR_wrt (RR_thr h 0) hL hw3, by rw [hw3.2.2.2 0 (by decide), stI_at]⟩
/-- a number below 100 -/
theorem e_number {n v : Nat} (h : WO I0 J0 I J u m n) (hv : v < 100) (hn : n + (if v < 10 then 1 else 2) ≤ 500) : ∃ J', s_X9_writesNumber J m (nI v) = some J' ∧ WO I0 J0 (s_X4_addNumber I u (nI v)) J' u m (n + (if v < 10 then 1 else 2)) := by
  have h48 : (48 : Int32) = nI 48 := rfl
  have hm := nI_modt (a := v) (b := 10) (by omega) (by omega) (by omega)
  have hd := nI_divt (a := v) (b := 10) (by omega) (by omega) (by omega)
  unfold s_X9_writesNumber s_X4_addNumber
  rw [show nI v - nI v / 10 * 10 = nI (v % 10) from hm, show nI v / 10 = nI (v / 10) from hd, h48, nI_add, nI_add]
  simp only [lx_s]
  by_cases q : v < 10
  · rw [if_pos q] at *
    rw [if_pos (show nI v ≤ 9 from nI_le (b := 9) (by omega) (by omega)), if_pos (show nI v < 10 from nI_lt (b := 10) q (by omega))]
    obtain ⟨J1, e1, h1⟩ := e_byte (b := 48 + v % 10) h (by omega) (by omega)
    rw [e1, bd_some]
    exact ⟨J1, rfl, h1⟩
  · rw [if_neg q] at *
    rw [if_neg (show ¬ nI v ≤ 9 from nI_ge (a := 9) (by omega) (by omega)), if_neg (show ¬ nI v < 10 from nI_nlt (b := 10) (by omega) (by omega))]
    obtain ⟨J1, e1, h1⟩ := e_byte (b := 48 + v / 10) h (by omega) (by omega)
    obtain ⟨J2, e2, h2⟩ := e_byte (b := 48 + v % 10) h1 (by omega) (by omega)
    rw [e1, bd_some, e2, bd_some]
    exact ⟨J2, rfl, h2⟩
/-- how many bytes a part takes -/
def pl (x : Nat) : Nat := if x = 100 then 1 else if x = 101 then 2 else if x = 102 then 2 else if 200 ≤ x then (if x < 210 then 3 else 4) else if x < 10 then 1 else 2
theorem pcd_n {v : Nat} (hv : v < 12 ∨ v = 100 ∨ v = 101 ∨ v = 102 ∨ (201 ≤ v ∧ v ≤ 220)) : pcd (nI v) = nI (if v = 100 then 300 else if v = 101 then 200 else if v = 102 then 201 else if 200 ≤ v then v - 100 else v) ∧ isOpB (nI v) = decide (101 ≤ v) ∧ (v ≠ 100 → pw (nI v) = pl v + 1) ∧ (v = 100 → pw (nI v) = 1) ∧ pl v ≤ pw (nI v) := by
  have : ∀ v : Fin 221, (v.val < 12 ∨ v.val = 100 ∨ v.val = 101 ∨ v.val = 102 ∨ (201 ≤ v.val ∧ v.val ≤ 220)) → pcd (nI v.val) = nI (if v.val = 100 then 300 else if v.val = 101 then 200 else if v.val = 102 then 201 else if 200 ≤ v.val then v.val - 100 else v.val) ∧ isOpB (nI v.val) = decide (101 ≤ v.val) ∧ (v.val ≠ 100 → pw (nI v.val) = pl v.val + 1) ∧ (v.val = 100 → pw (nI v.val) = 1) ∧ pl v.val ≤ pw (nI v.val) := by decide +kernel
  exact this ⟨v, by omega⟩ hv
theorem e_part {n v : Nat} (h : WO I0 J0 I J u m n) (hv : v < 12 ∨ v = 100 ∨ v = 101 ∨ v = 102 ∨ (201 ≤ v ∧ v ≤ 220)) (hn : n + pl v ≤ 500) : ∃ J', s_X9_writesPart J m (pcd (nI v)) = some J' ∧ WO I0 J0 (s_X4_addPart I u (nI v)) J' u m (n + pl v) := by
  obtain ⟨p1, p2, -⟩ := pcd_n hv
  unfold s_X9_writesPart s_X4_addPart s_X4_addOpening
  rw [p2]
  simp only [lx_s]
  by_cases q0 : v = 100
  · subst q0
    have hp : pl 100 = 1 := rfl
    rw [hp] at hn ⊢
    rw [show pcd (nI 100) = nI 300 from p1, if_pos (show nI 300 = 300 from rfl), if_pos (show nI 100 = 100 from rfl)]
    obtain ⟨J1, e1, h1⟩ := e_byte (b := 41) h (by omega) (by omega)
    rw [show s_X9_writesByte J m 41 = _ from e1, bd_some]
    exact ⟨J1, rfl, h1⟩
  · have n0 : ¬ nI v = 100 := fun e => q0 ((nI_eqL (n := 100) (by omega) (by omega)).mp e)
    rw [if_neg n0]
    by_cases q1 : v = 101
    · subst q1
      have hp : pl 101 = 2 := rfl
      rw [hp] at hn ⊢
      obtain ⟨J1, e1, h1⟩ := e_byte (b := 109) h (by omega) (by omega)
      obtain ⟨J2, e2, h2⟩ := e_byte (b := 40) h1 (by omega) (by omega)
      rw [show pcd (nI 101) = nI 200 from p1, if_neg (show ¬ nI 200 = 300 from by decide), if_pos (show (100 : Int32) ≤ nI 200 from by decide), if_pos (show nI 200 = 200 from rfl), show s_X9_writesByte J m 109 = _ from e1, bd_some, if_pos (show (200 : Int32) ≤ nI 200 from by decide), show s_X9_writesByte J1 m 40 = _ from e2, bd_some, if_pos (by decide), if_pos (show nI 101 = 101 from rfl)]
      exact ⟨J2, rfl, h2⟩
    · have n1 : ¬ nI v = 101 := fun e => q1 ((nI_eqL (n := 101) (by omega) (by omega)).mp e)
      by_cases q2 : v = 102
      · subst q2
        have hp : pl 102 = 2 := rfl
        rw [hp] at hn ⊢
        obtain ⟨J1, e1, h1⟩ := e_byte (b := 98) h (by omega) (by omega)
        obtain ⟨J2, e2, h2⟩ := e_byte (b := 40) h1 (by omega) (by omega)
        rw [show pcd (nI 102) = nI 201 from p1, if_neg (show ¬ nI 201 = 300 from by decide), if_pos (show (100 : Int32) ≤ nI 201 from by decide), if_neg (show ¬ nI 201 = 200 from by decide), if_pos (show nI 201 = 201 from rfl), show s_X9_writesByte J m 98 = _ from e1, bd_some, if_pos (show (200 : Int32) ≤ nI 201 from by decide), show s_X9_writesByte J1 m 40 = _ from e2, bd_some, if_pos (by decide), if_neg n1, if_pos (show nI 102 = 102 from rfl)]
        exact ⟨J2, rfl, h2⟩
      · have n2 : ¬ nI v = 102 := fun e => q2 ((nI_eqL (n := 102) (by omega) (by omega)).mp e)
        rw [if_neg q0, if_neg q1, if_neg q2] at p1
        by_cases q3 : 200 ≤ v
        · rw [if_pos q3] at p1
          have el : pl v = 2 + (if v - 200 < 10 then 1 else 2) := by
            unfold pl
            rw [if_neg q0, if_neg q1, if_neg q2, if_pos q3]
            by_cases q5 : v < 210
            · rw [if_pos q5, if_pos (by omega)]
            · rw [if_neg q5, if_neg (by omega)]
          rw [el] at hn ⊢
          have hsm : (if v - 200 < 10 then 1 else 2) ≤ 2 := by split <;> omega
          obtain ⟨J1, e1, h1⟩ := e_byte (b := 114) h (by omega) (by omega)
          obtain ⟨J2, e2, h2⟩ := e_number (v := v - 200) h1 (by omega) (by omega)
          obtain ⟨J3, e3, h3⟩ := e_byte (b := 40) h2 (by omega) (by omega)
          have w1 : ¬ nI (v - 100) = 300 := fun e => absurd ((nI_eqL (n := 300) (by omega) (by omega)).mp e) (by omega)
          have w2 : (100 : Int32) ≤ nI (v - 100) := nI_le (a := 100) (by omega) (by omega)
          have w3 : ¬ nI (v - 100) = 200 := fun e => absurd ((nI_eqL (n := 200) (by omega) (by omega)).mp e) (by omega)
          have w4 : ¬ nI (v - 100) = 201 := fun e => absurd ((nI_eqL (n := 201) (by omega) (by omega)).mp e) (by omega)
          have w5 : ¬ (200 : Int32) ≤ nI (v - 100) := nI_ge (b := 200) (by omega) (by omega)
          have w6 : nI (v - 100) - 100 = nI (v - 200) := by rw [show (100 : Int32) = nI 100 from rfl, nI_sub (by omega), show v - 100 - 100 = v - 200 by omega]
          have w7 : nI v - 200 = nI (v - 200) := by rw [show (200 : Int32) = nI 200 from rfl, nI_sub (by omega)]
          rw [p1, if_neg w1, if_pos w2, if_neg w3, if_neg w4, show s_X9_writesByte J m 114 = _ from e1, bd_some, if_neg w5, w6, e2, bd_some, show s_X9_writesByte J2 m 40 = _ from e3, bd_some, if_pos (by simp; omega), if_neg n1, if_neg n2, w7]
          refine ⟨J3, rfl, ?_⟩
          rw [show n + (2 + (if v - 200 < 10 then 1 else 2)) = n + 1 + (if v - 200 < 10 then 1 else 2) + 1 by omega]
          exact h3
        · rw [if_neg q3] at p1
          have el : pl v = (if v < 10 then 1 else 2) := by
            unfold pl
            rw [if_neg q0, if_neg q1, if_neg q2, if_neg q3]
          rw [el] at hn ⊢
          obtain ⟨J1, e1, h1⟩ := e_number (v := v) h (by omega) hn
          have w1 : ¬ nI v = 300 := fun e => absurd ((nI_eqL (n := 300) (by omega) (by omega)).mp e) (by omega)
          have w2 : ¬ (100 : Int32) ≤ nI v := nI_ge (b := 100) (by omega) (by omega)
          rw [p1, if_neg w1, if_neg w2, e1, bd_some, if_neg (by simp; omega)]
          exact ⟨J1, rfl, h1⟩
/-- whether a list begins at a part -/
def flg (g : Nat → Int32) (k : Nat) : Bool := if k = 0 then true else isOpB (g (k - 1))
theorem pW_le {g : Nat → Int32} {n : Nat} : ∀ k, k ≤ n → pW g k ≤ pW g n := by
  induction n with
  | zero => intro k hk; have : k = 0 := by omega
            subst this; exact Nat.le_refl _
  | succ n ih =>
    intro k hk
    by_cases e : k = n + 1
    · subst e; exact Nat.le_refl _
    · have := ih k (by omega)
      show pW g k ≤ pW g n + pw (g n)
      omega
theorem e_isApart {n k : Nat} {f g : Nat → Int32} (hJ : J (m + 1) = f) (hn : n ≤ 266) (hp : ∀ k, k < n → pOK (g k) ∧ f (1764 + k) = pcd (g k)) (hk : k < n) : s_X9_isApart J m (nI k) = some (!flg g k && !decide (g k = 100)) := by
  unfold s_X9_isApart flg
  rw [hJ]
  have hs : ∀ v, (v < 12 ∨ v = 100 ∨ v = 101 ∨ v = 102 ∨ (201 ≤ v ∧ v ≤ 220)) → (pcd (nI v) = 300 ↔ v = 100) ∧ (pcd (nI v) < 100 ↔ v < 100) := by
    intro v hv
    have : ∀ v : Fin 221, (v.val < 12 ∨ v.val = 100 ∨ v.val = 101 ∨ v.val = 102 ∨ (201 ≤ v.val ∧ v.val ≤ 220)) → (pcd (nI v.val) = 300 ↔ v.val = 100) ∧ (pcd (nI v.val) < 100 ↔ v.val < 100) := by decide +kernel
    exact this ⟨v, by omega⟩ hv
  by_cases q : k = 0
  · subst q; rw [if_pos nI_z, if_pos rfl]; rfl
  · obtain ⟨⟨v, v1, v2⟩, v3⟩ := hp k hk
    obtain ⟨⟨v', v1', v2'⟩, v3'⟩ := hp (k - 1) (by omega)
    have p2' := (pcd_n v2').2.1
    obtain ⟨h1, h2⟩ := hs v v2
    obtain ⟨h1', h2'⟩ := hs v' v2'
    rw [if_neg (nI_ne0 (by omega) (by omega)), if_neg q, show (1764 : Int32) = nI 1764 from rfl, nI_add, gd_in (by omega) (by omega), cl_nI (by omega), v3, v1, show (1 : Int32) = nI 1 from rfl, nI_sub (by omega), gd_in (by omega) (by omega), gd_in (by omega) (by omega), cl_nI (by omega), show 1764 + k - 1 = 1764 + (k - 1) by omega, v3', v1', p2']
    have e1 : (nI v = 100) ↔ v = 100 := nI_eqL (n := 100) (by omega) (by omega)
    by_cases a1 : v = 100
    · rw [if_pos (h1.mpr a1), decide_eq_true (e1.mpr a1)]; simp
    · rw [if_neg (fun z => a1 (h1.mp z)), decide_eq_false (fun z => a1 (e1.mp z))]
      by_cases a2 : v' < 100
      · rw [if_pos (h2'.mpr a2), decide_eq_false (by omega)]; rfl
      · rw [if_neg (fun z => a2 (h2'.mp z))]
        by_cases a3 : v' = 100
        · rw [if_pos (h1'.mpr a3), decide_eq_false (by omega)]; rfl
        · rw [if_neg (fun z => a3 (h1'.mp z)), decide_eq_true (by omega)]; rfl
theorem l_writeDeck {n d : Nat} {f g : Nat → Int32} (h0 : I0 d 1 = nI n) (hg : I0 (d + 1) = g) (hJ0 : J0 (m + 1) = f) (f6 : f 6 = nI n) (hn : n ≤ 266 ∧ pW g n ≤ 500) (hp : ∀ k, k < n → pOK (g k) ∧ f (1764 + k) = pcd (g k)) (hd : d ≠ u ∧ d ≠ u + 1 ∧ d + 1 ≠ u ∧ d + 1 ≠ u + 1) :
    ∀ (t fu fu' j b : Nat) (I J : JI), WO I0 J0 I J u m b → b ≤ pW g j → (0 < j → 0 < b) → j + t = n → t < fu → t < fu' → ∃ z I' J' b', s_X4_addDeck_L17 u d fu (flg g j) (nI j) I = some (z, nI n, I') ∧ s_X9_writeDeck_L16 m fu' (nI j) J = some (nI n, J') ∧ WO I0 J0 I' J' u m b' ∧ (0 < n → 0 < b') ∧ (n = 0 → b' = b) := by
  intro t
  induction t with
  | zero =>
    intro fu fu' j b I J h hb hb0 hj hf hf'
    obtain ⟨fu, rfl⟩ : ∃ g, fu = g + 1 := ⟨fu - 1, by omega⟩
    obtain ⟨fu', rfl⟩ : ∃ g, fu' = g + 1 := ⟨fu' - 1, by omega⟩
    have : j = n := by omega
    subst this
    refine ⟨flg g j, I, J, b, ?_, ?_, h, hb0, fun _ => rfl⟩
    · rw [s_X4_addDeck_L17, h.2.1 d hd.1 hd.2.1, h0, if_pos (Int32.le_refl _)]
    · rw [s_X9_writeDeck_L16, gl6, cl6, h.2.2.1 (m + 1) (by omega) (by omega), hJ0, f6, if_pos (Int32.le_refl _)]
  | succ t ih =>
    intro fu fu' j b I J h hb hb0 hj hf hf'
    obtain ⟨fu, rfl⟩ : ∃ g, fu = g + 1 := ⟨fu - 1, by omega⟩
    obtain ⟨fu', rfl⟩ : ∃ g, fu' = g + 1 := ⟨fu' - 1, by omega⟩
    have hjn : j < n := by omega
    obtain ⟨⟨v, v1, v2⟩, v3⟩ := hp j hjn
    obtain ⟨p1, p2, p3, p4, p5⟩ := pcd_n v2
    have hW1 : pW g (j + 1) = pW g j + pw (nI v) := by rw [← v1]; rfl
    have hW2 := pW_le (g := g) (n := n) (j + 1) (by omega)
    have eJ : J (m + 1) = f := (h.2.2.1 (m + 1) (by omega) (by omega)).trans hJ0
    have hfl : isOpB (nI v) = flg g (j + 1) := by unfold flg; rw [if_neg (by omega), Nat.add_sub_cancel, v1]
    have hpl0 : 0 < pl v := by
      unfold pl
      repeat' split
      all_goals omega
    rw [s_X4_addDeck_L17, h.2.1 d hd.1 hd.2.1, h0, if_neg (nI_ge hjn (by omega)), h.2.1 (d + 1) hd.2.2.1 hd.2.2.2, hg, atF_nI (by omega) (by omega), v1, lx_s, s_X9_writeDeck_L16, gl6, cl6, eJ, f6, if_neg (nI_ge hjn (by omega)), e_isApart eJ hn.1 hp hjn, bd_some, show (1764 : Int32) = nI 1764 from rfl, nI_add, gd_in (by omega) (by omega), cl_nI (by omega), v3, v1, nI_1, hfl]
    have go : ∀ (b1 : Nat) (I1 J1 : JI), WO I0 J0 I1 J1 u m b1 → b1 + pl v ≤ pW g (j + 1) → ∃ z I' J' b', lx (s_X4_addPart I1 u (nI v)) (fun I5 => s_X4_addDeck_L17 u d fu (flg g (j + 1)) (nI (j + 1)) I5) = some (z, nI n, I') ∧ bd (s_X9_writesPart J1 m (pcd (nI v))) (fun I10 => s_X9_writeDeck_L16 m fu' (nI (j + 1)) I10) = some (nI n, J') ∧ WO I0 J0 I' J' u m b' ∧ (0 < n → 0 < b') ∧ (n = 0 → b' = b) := by
      intro b1 I1 J1 h1 hle
      obtain ⟨J2, e2, h2⟩ := e_part h1 v2 (by omega)
      rw [e2, bd_some, lx_s]
      obtain ⟨z, I', J', b', r1, r2, r3, r4, -⟩ := ih fu fu' (j + 1) (b1 + pl v) _ J2 h2 hle (fun _ => by omega) (by omega) (by omega) (by omega)
      exact ⟨z, I', J', b', r1, r2, r3, r4, fun e => by omega⟩
    have e100 : (nI v = 100) ↔ v = 100 := nI_eqL (n := 100) (by omega) (by omega)
    by_cases a1 : flg g j = true
    · rw [a1, if_pos rfl, if_neg (by simp)]
      exact go b I J h (by omega)
    · rw [if_neg a1]
      rw [Bool.not_eq_true] at a1
      by_cases a2 : v = 100
      · rw [if_pos (e100.mpr a2), if_neg (by rw [decide_eq_true (e100.mpr a2)]; simp)]
        exact go b I J h (by omega)
      · rw [if_neg (fun z => a2 (e100.mp z)), a1, decide_eq_false (fun z => a2 (e100.mp z)), if_pos (by rfl)]
        have := p3 a2
        obtain ⟨J1, e1, h1⟩ := e_byte (b := 32) h (by omega) (by omega)
        rw [show s_X9_writesByte J m 32 = _ from e1, bd_some, lx_s]
        have eJ1 : J1 (m + 1) = f := (h1.2.2.1 (m + 1) (by omega) (by omega)).trans hJ0
        rw [eJ1, gd_in (by omega) (by omega), v3, v1]
        exact go (b + 1) _ J1 h1 (by omega)
theorem q_writeDeck (h : RR I J c L m) (hL : L = c + 4 ∨ L = c + 104) : Eqv c L m [eIS] (s_X8_writeDeck I c L P) (s_X9_writeDeck J m) := by
  rcases rq_look (P := P) h with ⟨e1, e2⟩ | ⟨H, W, C, P', R, hl, hk, e1, e2⟩
  · exact Eqv_ref h (by unfold s_X8_writeDeck; rw [e1, bx_r]) (by unfold s_X9_writeDeck; rw [e2, bd2_some]; rfl) tA
  · obtain ⟨n, n1, n2, n3, n4⟩ := hk.part
    have hd : L + 5 ≠ c + 28 ∧ L + 5 ≠ c + 28 + 1 ∧ L + 5 + 1 ≠ c + 28 ∧ L + 5 + 1 ≠ c + 28 + 1 := by omega
    have R0 := RR_thr h 0
    unfold s_X8_writeDeck s_X9_writeDeck
    rw [e1, e2, bx_l, bd2_some, if_pos rfl, lx_s, lx_s]
    unfold s_X4_addDeck
    rw [stI_o (show L + 5 ≠ c + 28 by omega), n2]
    obtain ⟨z, I', J', b', r1, r2, r3, r4, r5⟩ := l_writeDeck n2 rfl rfl n3 n1 n4 hd n lf lf 0 0 _ _ (WO_0 (I := I) (J := stI J m 0 0) (u := c + 28) (m := m)) (Nat.le_refl _) (fun e => by omega) (by omega) (by unfold lf; omega) (by unfold lf; omega)
    rw [show s_X9_writeDeck_L16 m lf 0 (stI (stI J m 0 0) m 22 0) = _ from r2, bd_some]
    by_cases q : n = 0
    · subst q
      have hb' := r5 rfl
      subst hb'
      obtain ⟨J2, o1, h2⟩ := e_byte (b := 45) r3 (by omega) (by omega)
      obtain ⟨J3, o3, h3⟩ := e_byte (b := 45) (WO_0 (I := I) (J := stI J m 0 0) (u := c + 28) (m := m)) (by omega) (by omega)
      have hI' : I' = stI I (c + 28) 1 0 := by
        rw [show lf = 19999 + 1 from rfl, s_X4_addDeck_L17, stI_o (show L + 5 ≠ c + 28 by omega), n2, if_pos (by decide)] at r1
        exact (congrArg (fun z => z.2.2) (Option.some.inj r1)).symm
      have ld : s_X4_addDeck_L17 (c + 28) (L + 5) lf true 0 (s_X4_add (stI I (c + 28) 1 0) (c + 28) 45) = some (true, 0, s_X4_add (stI I (c + 28) 1 0) (c + 28) 45) := by
        rw [show lf = 19999 + 1 from rfl, s_X4_addDeck_L17, show s_X4_add (stI I (c + 28) 1 0) (c + 28) 45 (L + 5) = I (L + 5) from h3.2.1 (L + 5) hd.1 hd.2.1, n2, if_pos (by decide)]
      rw [if_pos nI_z, lx_s, ld, bd_some, bd_some]
      dsimp only
      rw [r3.1.2.2.1, if_pos nI_z, show s_X9_writesByte J' m 45 = _ from o1, bd_some, h2.1.2.2.1]
      rw [hI'] at h2
      rw [show s_X4_add (stI I (c + 28) 1 0) (c + 28) 45 (c + 28) 1 = nI (0 + 1) from h2.1.2.1]
      exact Eqv_mut rfl rfl ⟨RR_wrt R0 hL h2, by rw [h2.2.2.2 0 (by decide), stI_at]⟩
    · have hb := r4 (by omega)
      rw [if_neg (nI_ne0 (by omega) (by omega)), show s_X4_addDeck_L17 (c + 28) (L + 5) lf true 0 (stI I (c + 28) 1 0) = _ from r1, bd_some, bd_some]
      dsimp only
      rw [r3.1.2.2.1, if_neg (nI_ne0 hb (by have := r3.1.1; omega)), r3.1.2.1]
      exact Eqv_mut rfl rfl ⟨RR_wrt R0 hL r3, by rw [r3.2.2.2 0 (by decide), stI_at]⟩
end WRT
