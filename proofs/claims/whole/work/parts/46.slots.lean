/-! undo, saved states, predictions -/
section SLOTS
variable {I J : JI} {c L m P : Nat}
theorem lat8 {x : Nat} (hx : x < 8) : (((nI x + 8) - 1) - ((nI x + 8) - 1) / 8 * 8) = nI ((x + 7) % 8) := by
  have : ∀ x : Fin 8, (((nI x.val + 8) - 1) - ((nI x.val + 8) - 1) / 8 * 8) = nI ((x.val + 7) % 8) := by decide +kernel
  exact this ⟨x, hx⟩
theorem undo0 (h : RR I J c L m) {x : Nat} (hx : x < 8) (i1 : I (c + 30) 1 = nI x) (i2 : I (c + 30) 2 = 0) (j7 : J m 7 = 0) : Eqv c L m [eIS] (s_X8_undo I c L P) (s_X9_undo J m) := by
  refine Eqv_ref h (E := eIS) (t := 1) (v := 0) ?_ ?_ tA
  · unfold s_X8_undo s_X1_bringBack
    rw [i1, lat8 hx, lx_s, gd_in (Nat.mod_lt _ (by omega)) (by omega), if_pos i2, bd2_some]
    rfl
  · unfold s_X9_undo
    rw [j7, if_pos (by decide), m_may, bd2_some]
    rfl
theorem q_undo (h : RR I J c L m) (hL : L = c + 4 ∨ L = c + 104) : Eqv c L m [eIS] (s_X8_undo I c L P) (s_X9_undo J m) := by
  obtain ⟨-, -, -, hn | ⟨H, W, C, P', R, hl⟩⟩ := id h
  · obtain ⟨-, i2, ⟨x, x1, x2⟩, j7, -⟩ := hn
    exact undo0 h x1 x2 i2 j7
  · obtain ⟨-, hk, -, hp, ⟨u, x, u8, x8, hu, hx, hm7, hb⟩, l5, l6⟩ := id hl
    by_cases q : u = 0
    · subst q
      exact undo0 h x8 hx hu hm7
    · obtain ⟨p1, R', p2⟩ := hb (u - 1) (by omega)
      have er : ringS c x u (u - 1) = c + 32 + 7 * ((x + 7) % 8) := by unfold ringS; omega
      rw [er] at p2
      have hlt : (x + 7) % 8 < 8 := Nat.mod_lt _ (by omega)
      have h5 := p2.sets.2.2.2.1
      obtain ⟨J2, e2, h2⟩ := @e_lays (stI (stI J m 0 0) m 7 (nI (u - 1))) (m + 3) (m + 1) ((u - 1) * 2030) 0 16240 2030 (by omega) (by omega) (by omega) (by omega) (by omega)
      have eI : s_X8_undo I c L P = some (.inl (nI (u - 1)), stI (stI (x7_copyFrom I (L + 10) (c + 32 + 7 * ((x + 7) % 8))) (c + 30) 1 (nI ((x + 7) % 8))) (c + 30) 2 (nI (u - 1))) := by
        unfold s_X8_undo s_X1_bringBack
        rw [hx, lat8 x8, lx_s, gd_in hlt (by omega), cl_nI (by omega), hu, if_neg (nI_ne0 (by omega) (by omega)), show c + 30 + 2 + 7 * ((x + 7) % 8) = c + 32 + 7 * ((x + 7) % 8) by omega, gd_i h5, lx_s, lx_s, lx_s, stI_aj (show 2 ≠ 1 by decide), fr_x7_copyFrom (show c + 30 < L + 10 ∨ L + 10 + 7 ≤ c + 30 by omega), hu, show (1 : Int32) = nI 1 from rfl, nI_sub (by omega), bd2_some, if_pos rfl, stI_at]
      have eJ : s_X9_undo J m = some (nI (u - 1), J2) := by
        unfold s_X9_undo
        have h7 : stI J m 0 0 m 7 = nI u := by rw [stI_aj (by decide)]; exact hm7
        rw [hm7, if_neg (fun e => nI_nle (n := u) (by omega) (by omega) e), m_may, bd2_some]
        rw [show (if true = false then (1 : Int32) else if true = false then 2 else if true = false then 3 else 0) = 0 from rfl, if_pos (show (true && true && true) = true from rfl), h7, show (1 : Int32) = nI 1 from rfl, nI_sub (by omega), lx_s, stI_at, show (2030 : Int32) = nI 2030 from rfl, nI_mul, show s_X9_lays (stI (stI J m 0 0) m 7 (nI (u - 1))) (m + 3) (m + 1) 16240 (nI ((u - 1) * 2030)) 2030 0 = _ from e2, bd_some, h2, if_neg (by omega), stI_at]
      refine Eqv_mut eI eJ ⟨?_, ?_⟩
      · have fz : ∀ z, z ≠ c + 30 → z < L + 10 ∨ L + 17 ≤ z → stI (stI (x7_copyFrom I (L + 10) (c + 32 + 7 * ((x + 7) % 8))) (c + 30) 1 (nI ((x + 7) % 8))) (c + 30) 2 (nI (u - 1)) z = I z := fun z z1 z2 => by
          rw [stI_ne z1, stI_ne z1, fr_x7_copyFrom (by omega)]
        have jz : ∀ z, z ≠ m → z ≠ m + 1 → J2 z = J z := fun z z1 z2 => by
          funext k
          rw [h2, if_neg (fun e => z2 e.1), stI_o z1, stI_o z1]
        have j1 : ∀ k, k < 2030 → J2 (m + 1) k = J (m + 3) (2030 * (u - 1) + k) := fun k hk => by
          rw [h2, if_pos ⟨rfl, by omega, by omega⟩, stI_o (by omega), stI_o (by omega), show (u - 1) * 2030 + (k - 0) = 2030 * (u - 1) + k by omega]
        refine RR_now (R2 := R') h hl hL (fun z z1 z2 => fz z (by omega) (by omega)) (fun z z1 z2 z3 z4 => jz z z1 z2) (fun k k1 k2 => ?_) ?_ ?_
        · rw [h2, if_neg (by omega), stI_aj k2, stI_aj k1]
        · refine KR_f (KR_dep (KR_copy p2 (k := L + 10) (by omega) (by omega)) (fun z z1 z2 => ?_) (fun z z1 z2 => ?_)) j1
          · rw [stI_ne (by omega), stI_ne (by omega)]
          · rw [stI_ne (by omega), stI_ne (by omega)]
        · refine ⟨u - 1, (x + 7) % 8, by omega, hlt, stI_at, by rw [stI_aj (by decide), stI_at], by rw [h2, if_neg (by omega), stI_at], fun i hi => ?_⟩
          obtain ⟨p3, R3, p4⟩ := hb i (by omega)
          have er2 : ringS c ((x + 7) % 8) (u - 1) i = ringS c x u i := by unfold ringS; omega
          have hr2 : c + 32 ≤ ringS c x u i ∧ ringS c x u i + 7 ≤ c + 88 := by
            unfold ringS
            have := Nat.mod_lt (x + 8 - u + i) (show 0 < 8 by omega)
            omega
          rw [er2, jz (m + 3) (by omega) (by omega)]
          exact ⟨RPart_dep p3 (fz _ (by omega) (by omega)) (fz _ (by omega) (by omega)), R3, KR_dep p4 (fun z z1 z2 => fz z (by omega) (by omega)) (fun z z1 z2 => fz z (by omega) (by omega))⟩
      · rw [h2, if_neg (by omega), stI_aj (by decide), stI_at]
theorem slot_iff {x : Int32} : s_X9_isSlot x = true ↔ inR x 2 := by
  unfold s_X9_isSlot
  rw [← min_iff (by omega), show nI 2 - 1 = 1 from by decide]
/-- a slot's place -/
def slA (c i : Nat) : Nat := if i = 0 then c + 88 else c + 96
theorem q_saveState (h : RR I J c L m) (hL : L = c + 4 ∨ L = c + 104) (x : Int32) : Eqv c L m [eIS, eIX] (s_X8_saveState I c L P x) (s_X9_saveState J m x) := by
  rcases RR_ld h with ⟨a, b⟩ | ⟨a, b, H, W, C, P', R, hl⟩
  · refine Eqv_ref h (by unfold s_X8_saveState; rw [x_ld0 a, bx_r]) (t := 1) (v := 0) ?_ tA
    unfold s_X9_saveState
    rw [gd_b0 b, b, nz0, m_may2]
    rfl
  · obtain ⟨⟨ld1, ld2⟩, hk, hW, hp, hh, l5, l6⟩ := id hl
    obtain ⟨hi, ho, he, -⟩ := id h
    rcases x_idx (I := I) (x := x) (n := 2) (by omega) with ⟨q, e⟩ | ⟨q, e⟩
    · obtain ⟨i, hi2, rfl⟩ := q
      have hs : s_X9_isSlot (nI i) = true := slot_iff.mpr ⟨i, hi2, rfl⟩
      obtain ⟨J1, e1, h1⟩ := @e_lays (stI J m 0 0) (m + 1) (m + 4) 0 (i * 2030) 2030 4060 (by omega) (by omega) (by omega) (by omega) (by omega)
      have eI : s_X8_saveState I c L P (nI i) = some (.inl (nI R), stI (x7_copyFrom I (slA c i + 1) (L + 10)) (slA c i) 1 1) := by
        unfold s_X8_saveState slA
        rw [x_ld1 a, bx_l, show s_X8_requireIndex I (nI i) 2 = _ from e, bx_l]
        have hsl : ∀ z, z = c + 88 ∨ z = c + 96 → stI (x7_copyFrom I (z + 1) (L + 10)) z 1 1 (L + 10) 3 = nI R := fun z hz => by
          rw [stI_o (by omega), fr_x7_copyFrom (by omega)]
          exact hk.c.2.2.2.2
        by_cases q0 : i = 0
        · subst q0
          rw [if_pos nI_z, gd_i hk.sets.2.2.2.1, lx_s, lx_s, if_pos rfl, hsl _ (Or.inl rfl)]
        · rw [if_neg (nI_ne0 (by omega) (by omega)), gd_i hk.sets.2.2.2.1, lx_s, lx_s, if_neg q0, hsl _ (Or.inr rfl)]
      have eJ : s_X9_saveState J m (nI i) = some (nI R, stI J1 (m + 5) i 1) := by
        unfold s_X9_saveState
        rw [gd_b1 b, b, nz1, hs, m_may2, bd2_some]
        show bd (s_X9_lays (stI J m 0 0) (m + 1) (m + 4) 2030 0 4060 (nI i * 2030)) _ = _
        rw [show (2030 : Int32) = nI 2030 from rfl, nI_mul, show s_X9_lays (stI J m 0 0) (m + 1) (m + 4) 2030 0 4060 (nI (i * 2030)) = _ from e1, bd_some, gd_in hi2 (by omega), cl_nI (by omega), lx_s, gl5, cl5]
        rw [show vp_nar .boolean 1 = 1 from by decide, stI_o (show m + 1 ≠ m + 5 by omega), h1, if_neg (by omega), stI_o (by omega), hk.g.1.2.2.2.2]
      have hsa : c + 88 ≤ slA c i ∧ slA c i + 8 ≤ c + 104 := by unfold slA; split <;> omega
      have fz : ∀ z, z < slA c i ∨ slA c i + 8 ≤ z → stI (x7_copyFrom I (slA c i + 1) (L + 10)) (slA c i) 1 1 z = I z := fun z hz => by
        rw [stI_ne (by omega), fr_x7_copyFrom (by omega)]
      have jz : ∀ z, z ≠ m → z ≠ m + 4 → z ≠ m + 5 → stI J1 (m + 5) i 1 z = J z := fun z z1 z2 z3 => by
        funext k
        rw [stI_o z3, h1, if_neg (fun e => z2 e.1), stI_o z1]
      have jm : ∀ k, k ≠ 0 → stI J1 (m + 5) i 1 m k = J m k := fun k hk => by
        rw [stI_o (by omega), h1, if_neg (by omega), stI_aj hk]
      refine Eqv_mut eI eJ ⟨?_, by rw [stI_o (by omega), h1, if_neg (by omega), stI_at]⟩
      obtain ⟨n, n1, n2, n3, n4⟩ := hi
      obtain ⟨o, o1, o2, o3, o4⟩ := ho
      obtain ⟨er1, er2⟩ := he
      refine ⟨⟨n, n1, by rw [fz _ (by omega)]; exact n2, by rw [jm 9 (by decide)]; exact n3, fun k hk => ?_⟩, ⟨o, o1, by rw [fz _ (by omega)]; exact o2, by rw [jm 22 (by decide)]; exact o3, fun k hk => ?_⟩, ⟨by rw [jm 10 (by decide), fz _ (by omega)]; exact er1, by rw [jm 11 (by decide), fz _ (by omega)]; exact er2⟩, Or.inr ⟨H, W, C, P', R, ⟨by rw [fz _ (by omega)]; exact ld1, by rw [jm 6 (by decide)]; exact ld2⟩, ?_, hW, ?_, ?_, ?_, ?_⟩⟩
      · rw [fz _ (by omega), jz _ (by omega) (by omega) (by omega)]; exact n4 k hk
      · rw [fz _ (by omega), jz _ (by omega) (by omega) (by omega)]; exact o4 k hk
      · rw [jz _ (by omega) (by omega) (by omega)]
        exact KR_dep hk (fun z z1 z2 => fz z (by omega)) (fun z z1 z2 => fz z (by omega))
      · rw [jz _ (by omega) (by omega) (by omega)]
        exact RPart_dep hp (fz _ (by omega)) (fz _ (by omega))
      · obtain ⟨u, x, u8, x8, hu, hx, hm7, hb⟩ := hh
        refine ⟨u, x, u8, x8, by rw [fz _ (by omega)]; exact hu, by rw [fz _ (by omega)]; exact hx, by rw [jm 7 (by decide)]; exact hm7, fun j hj => ?_⟩
        obtain ⟨p3, R3, p4⟩ := hb j hj
        have hr2 : c + 32 ≤ ringS c x u j ∧ ringS c x u j + 7 ≤ c + 88 := by
          unfold ringS
          have := Nat.mod_lt (x + 8 - u + j) (show 0 < 8 by omega)
          omega
        rw [jz _ (by omega) (by omega) (by omega)]
        exact ⟨RPart_dep p3 (fz _ (by omega)) (fz _ (by omega)), R3, KR_dep p4 (fun z z1 z2 => fz z (by omega)) (fun z z1 z2 => fz z (by omega))⟩
      · have new : ∀ s, s = slA c i → (s = c + 88 ∨ s = c + 96) → RSlot (stI (x7_copyFrom I (slA c i + 1) (L + 10)) (slA c i) 1 1) (stI J1 (m + 5) i 1) s L m i H W C P' := by
          intro s hs hs2
          subst hs
          refine ⟨true, stI_at, stI_at, fun _ => ⟨?_, R, ?_⟩⟩
          · refine RPart_f (f := J (m + 1)) (RPart_dep hp (fz _ (by omega)) (fz _ (by omega))) (fun k hk => ?_)
            rw [stI_o (by omega), h1, if_pos ⟨rfl, by omega, by omega⟩, stI_o (by omega), show 0 + (2030 * i + k - i * 2030) = k by omega]
          · refine KR_f (f := J (m + 1)) (KR_dep (KR_copy hk (k := slA c i + 1) (by omega) (by omega)) (fun z z1 z2 => stI_ne (by omega)) (fun z z1 z2 => stI_ne (by omega))) (fun k hk => ?_)
            rw [stI_o (by omega), h1, if_pos ⟨rfl, by omega, by omega⟩, stI_o (by omega), show 0 + (2030 * i + k - i * 2030) = k by omega]
        by_cases q0 : i = 0
        · subst q0
          exact new _ rfl (Or.inl rfl)
        · obtain ⟨b5, b51, b52, b53⟩ := l5
          have e96 : slA c i = c + 96 := by unfold slA; rw [if_neg q0]
          refine ⟨b5, by rw [fz _ (by omega)]; exact b51, ?_, fun hb => ?_⟩
          · rw [stI_aj (by omega), h1, if_neg (by omega), stI_o (by omega)]; exact b52
          · obtain ⟨p3, R3, p4⟩ := b53 hb
            have ej : ∀ k, k < 2030 → stI J1 (m + 5) i 1 (m + 4) (2030 * 0 + k) = J (m + 4) (2030 * 0 + k) := fun k hk => by
              rw [stI_o (by omega), h1, if_neg (by omega), stI_o (by omega)]
            exact ⟨RPart_f (RPart_dep p3 (fz _ (by omega)) (fz _ (by omega))) ej, R3, KR_f (KR_dep p4 (fun z z1 z2 => fz z (by omega)) (fun z z1 z2 => fz z (by omega))) ej⟩
      · by_cases q0 : i = 0
        · obtain ⟨b5, b51, b52, b53⟩ := l6
          have e88 : slA c i = c + 88 := by unfold slA; rw [if_pos q0]
          refine ⟨b5, by rw [fz _ (by omega)]; exact b51, ?_, fun hb => ?_⟩
          · rw [stI_aj (by omega), h1, if_neg (by omega), stI_o (by omega)]; exact b52
          · obtain ⟨p3, R3, p4⟩ := b53 hb
            have ej : ∀ k, k < 2030 → stI J1 (m + 5) i 1 (m + 4) (2030 * 1 + k) = J (m + 4) (2030 * 1 + k) := fun k hk => by
              rw [stI_o (by omega), h1, if_neg (by omega), stI_o (by omega)]
            exact ⟨RPart_f (RPart_dep p3 (fz _ (by omega)) (fz _ (by omega))) ej, R3, KR_f (KR_dep p4 (fun z z1 z2 => fz z (by omega)) (fun z z1 z2 => fz z (by omega))) ej⟩
        · have e1i : i = 1 := by omega
          subst e1i
          refine ⟨true, stI_at, stI_at, fun _ => ⟨?_, R, ?_⟩⟩
          · refine RPart_f (f := J (m + 1)) (RPart_dep hp (fz _ (by omega)) (fz _ (by omega))) (fun k hk => ?_)
            rw [stI_o (by omega), h1, if_pos ⟨rfl, by omega, by omega⟩, stI_o (by omega), show 0 + (2030 * 1 + k - 1 * 2030) = k by omega]
          · refine KR_f (f := J (m + 1)) (KR_dep (KR_copy hk (k := slA c 1 + 1) (by omega) (by omega)) (fun z z1 z2 => stI_ne (by omega)) (fun z z1 z2 => stI_ne (by omega))) (fun k hk => ?_)
            rw [stI_o (by omega), h1, if_pos ⟨rfl, by omega, by omega⟩, stI_o (by omega), show 0 + (2030 * 1 + k - 1 * 2030) = k by omega]
    · have hs : s_X9_isSlot x = false := by
        cases hb : s_X9_isSlot x
        · rfl
        · exact absurd (slot_iff.mp hb) q
      refine Eqv_ref h (by unfold s_X8_saveState; rw [x_ld1 a, bx_l, show s_X8_requireIndex I x 2 = _ from e, bx_r]) (t := 2) (v := 0) ?_ tB
      unfold s_X9_saveState
      rw [gd_b1 b, b, nz1, hs, m_may2]
      rfl
/-- a slot is brought back -/
theorem restore1 (h : RR I J c L m) {H W C P' R : Nat} (hl : RLd I J c L m H W C P' R) (hL : L = c + 4 ∨ L = c + 104) {i s : Nat} (hi2 : i < 2) (hs : s = c + 88 ∨ s = c + 96) (hsl : RSlot I J s L m i H W C P') (hb : J (m + 5) i = 1) : ∃ R3, RR (s_X1_forgetAll (x7_copyFrom I (L + 10) (s + 1)) (c + 30)) (fun z k => if z = m + 1 ∧ 0 ≤ k ∧ k < 0 + 2030 then J (m + 4) (i * 2030 + (k - 0)) else (if z = m ∧ k = 0 then 0 else if z = m ∧ k = 7 then 0 else J z k)) c L m ∧ s_X1_forgetAll (x7_copyFrom I (L + 10) (s + 1)) (c + 30) (L + 10) 3 = nI R3 ∧ J (m + 4) (i * 2030 + (5 - 0)) = nI R3 ∧ (I (s + 1) 5 = 0 ∨ I (s + 1) 5 = 1) := by
  obtain ⟨b, b1, b2, b3⟩ := hsl
  have hbt : b = true := by rw [hb] at b2; cases b; exact absurd b2 (by decide); rfl
  obtain ⟨p1, R3, p2⟩ := b3 hbt
  obtain ⟨-, hk, -, hp, ⟨u, x, u8, x8, hu, hx, hm7, hbk⟩, l5, l6⟩ := id hl
  have ef : s_X1_forgetAll (x7_copyFrom I (L + 10) (s + 1)) (c + 30) = stI (x7_copyFrom I (L + 10) (s + 1)) (c + 30) 2 0 := rfl
  have hk2 := KR_copy p2 (k := L + 10) (by omega) (by omega)
  have hk3 : KR (stI (x7_copyFrom I (L + 10) (s + 1)) (c + 30) 2 0) L (L + 10) (fun k => J (m + 4) (2030 * i + k)) H W C P' R3 := KR_dep hk2 (fun z z1 z2 => stI_ne (by omega)) (fun z z1 z2 => stI_ne (by omega))
  refine ⟨R3, ?_, ?_, ?_, p2.sets.2.2.2.1⟩
  · rw [ef]
    refine RR_now (R2 := R3) h hl hL (fun z z1 z2 => by rw [stI_ne (by omega), fr_x7_copyFrom (by omega)]) (fun z z1 z2 z3 z4 => ?_) (fun k k1 k2 => ?_) ?_ ?_
    · funext k
      show (if z = m + 1 ∧ _ then _ else _) = _
      rw [if_neg (fun e => z2 e.1), if_neg (fun e => z1 e.1), if_neg (fun e => z1 e.1)]
    · show (if m = m + 1 ∧ _ then _ else _) = _
      rw [if_neg (by omega), if_neg (fun e => k1 e.2), if_neg (fun e => k2 e.2)]
    · refine KR_f hk3 (fun k hk => ?_)
      show (if m + 1 = m + 1 ∧ _ then _ else _) = _
      rw [if_pos ⟨rfl, by omega, by omega⟩, show i * 2030 + (k - 0) = 2030 * i + k by omega]
    · refine ⟨0, x, by omega, x8, stI_at, by rw [stI_aj (by decide), fr_x7_copyFrom (by omega)]; exact hx, ?_, fun i hi => absurd hi (Nat.not_lt_zero i)⟩
      show (if m = m + 1 ∧ _ then _ else _) = _
      rw [if_neg (by omega), if_neg (by omega), if_pos ⟨rfl, rfl⟩]; rfl
  · rw [ef]; exact hk3.c.2.2.2.2
  · have := p2.g.1.2.2.2.2
    rw [show i * 2030 + (5 - 0) = 2030 * i + 5 by omega]
    exact this
theorem q_restoreState (h : RR I J c L m) (hL : L = c + 4 ∨ L = c + 104) (x : Int32) : Eqv c L m [eIX, eIS] (s_X8_restoreState I c L P x) (s_X9_restoreState J m x) := by
  rcases x_idx (I := I) (x := x) (n := 2) (by omega) with ⟨q, e⟩ | ⟨q, e⟩
  · obtain ⟨i, hi2, rfl⟩ := q
    have hs : s_X9_isSlot (nI i) = true := slot_iff.mpr ⟨i, hi2, rfl⟩
    -- the slot's word
    have hw : ∃ b : Bool, I (slA c i) 1 = zb b ∧ J (m + 5) i = zb b ∧ (b = true → ∃ H W C P' R, RLd I J c L m H W C P' R ∧ RSlot I J (slA c i) L m i H W C P') := by
      obtain ⟨-, -, -, hn | ⟨H, W, C, P', R, hl⟩⟩ := id h
      · obtain ⟨-, -, -, -, ⟨a1, a2⟩, ⟨a3, a4⟩⟩ := hn
        refine ⟨false, ?_, ?_, fun e => by cases e⟩
        · unfold slA; split; exact a1; exact a3
        · by_cases q0 : i = 0
          · subst q0; exact a2
          · have : i = 1 := by omega
            subst this; exact a4
      · obtain ⟨-, -, -, -, -, l5, l6⟩ := id hl
        by_cases q0 : i = 0
        · subst q0
          obtain ⟨b, b1, b2, b3⟩ := id l5
          exact ⟨b, b1, b2, fun _ => ⟨H, W, C, P', R, hl, l5⟩⟩
        · have : i = 1 := by omega
          subst this
          obtain ⟨b, b1, b2, b3⟩ := id l6
          exact ⟨b, b1, b2, fun _ => ⟨H, W, C, P', R, hl, l6⟩⟩
    obtain ⟨b, b1, b2, b3⟩ := hw
    have hsa : slA c i = c + 88 ∨ slA c i = c + 96 := by unfold slA; split <;> omega
    have eI0 : s_X8_restoreState I c L P (nI i) = (gd ((I (slA c i) 1) = 0 ∨ (I (slA c i) 1) = 1) <| if (nz (I (slA c i) 1)) = true then (gd (I (slA c i + 1) 5 = 0 ∨ I (slA c i + 1) 5 = 1) <| lx (x7_copyFrom I (L + 10) (slA c i + 1)) fun I13 => lx (s_X1_forgetAll I13 (c + 30)) fun I14 => some (.inl (I14 (L + 10) 3), I14)) else (some (.inr "java/lang/IllegalStateException", I))) := by
      unfold s_X8_restoreState slA
      rw [show s_X8_requireIndex I (nI i) 2 = _ from e, bx_l]
      by_cases q0 : i = 0
      · subst q0
        rw [if_pos nI_z, if_pos rfl]
      · rw [if_neg (nI_ne0 (by omega) (by omega)), if_neg q0]
    rw [eI0, b1, gd_i (zb01 b), nz_zb]
    unfold s_X9_restoreState
    rw [if_pos hs, gd_in hi2 (by omega), cl_nI (by omega), b2, gd_i (zb01 b), nz_zb, hs, m_may2, m_may2]
    cases b
    · rw [if_neg (by decide), if_neg (by decide), bd2_some]
      exact Eqv_ref h rfl (t := 2) rfl tB
    · obtain ⟨H, W, C, P', R, hl, hsl⟩ := b3 rfl
      obtain ⟨R3, hr, r1, r2, r3⟩ := restore1 h hl hL hi2 hsa hsl b2
      rw [if_pos rfl, gd_i r3, lx_s, lx_s, r1, if_pos rfl, bd2_some]
      obtain ⟨J1, e1, h1⟩ := @e_lays (stI J m 0 0) (m + 4) (m + 1) (i * 2030) 0 4060 2030 (by omega) (by omega) (by omega) (by omega) (by omega)
      show Eqv c L m _ _ (bd (s_X9_lays (stI J m 0 0) (m + 4) (m + 1) 4060 (nI i * 2030) 2030 0) _)
      rw [show (2030 : Int32) = nI 2030 from rfl, nI_mul, show s_X9_lays (stI J m 0 0) (m + 4) (m + 1) 4060 (nI (i * 2030)) 2030 0 = _ from e1, bd_some, lx_s, gl5, cl5]
      have ej : stI J1 m 7 0 = (fun z k => if z = m + 1 ∧ 0 ≤ k ∧ k < 0 + 2030 then J (m + 4) (i * 2030 + (k - 0)) else (if z = m ∧ k = 0 then 0 else if z = m ∧ k = 7 then 0 else J z k)) := by
        funext z k
        by_cases z0 : z = m
        · subst z0
          rw [if_neg (by omega)]
          by_cases k7 : k = 7
          · subst k7; rw [stI_at, if_neg (by omega), if_pos ⟨rfl, rfl⟩]
          · rw [stI_aj k7, h1, if_neg (by omega)]
            by_cases k0 : k = 0
            · subst k0; rw [stI_at, if_pos ⟨rfl, rfl⟩]
            · rw [stI_aj k0, if_neg (fun e => k0 e.2), if_neg (fun e => k7 e.2)]
        · rw [stI_o z0, h1]
          by_cases q1 : z = m + 1 ∧ 0 ≤ k ∧ k < 0 + 2030
          · rw [if_pos q1, if_pos q1, stI_o (by omega)]
          · rw [if_neg q1, if_neg q1, stI_o z0, if_neg (fun e => z0 e.1), if_neg (fun e => z0 e.1)]
      have e5 : stI J1 m 7 0 (m + 1) 5 = nI R3 := by
        rw [stI_o (by omega), h1, if_pos ⟨rfl, by omega, by omega⟩, stI_o (by omega)]
        exact r2
      rw [e5]
      refine Eqv_mut rfl rfl ⟨by rw [ej]; exact hr, ?_⟩
      rw [stI_aj (by decide), h1, if_neg (by omega), stI_at]
  · have hs : s_X9_isSlot x = false := by
      cases hb : s_X9_isSlot x
      · rfl
      · exact absurd (slot_iff.mp hb) q
    refine Eqv_ref h (by unfold s_X8_restoreState; rw [show s_X8_requireIndex I x 2 = _ from e, bx_r]) (t := 1) (v := 0) ?_ tA
    unfold s_X9_restoreState
    rw [hs, if_neg (by decide), m_may2]
    rfl
end SLOTS
