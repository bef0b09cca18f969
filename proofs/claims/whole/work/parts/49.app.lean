/-! bytes appended, both ways -/
section APP
variable {I J I0 J0 : JI} {c L m P : Nat}
theorem byt_low (y : Int32) : BYt (y &&& 255) (vp_nar .byte ((Int32.toInt8 y).toInt32)) := by
  have h1 : y &&& 255 = nI (y.toBitVec.toNat % 256) := by
    apply bt_ext
    intro k hk
    rw [bt_and, bt_nI hk, show 256 = 2 ^ 8 from rfl, Nat.testBit_mod_two_pow]
    have : ∀ k : Fin 32, bt 255 k.val = decide (k.val < 8) := by decide +kernel
    rw [this ⟨k, hk⟩, Bool.and_comm]
    rfl
  have h2 : Int32.toInt8 y = Int8.ofNat (y.toBitVec.toNat % 256) := by
    apply Int8.toBitVec_inj.mp
    show y.toBitVec.signExtend 8 = BitVec.ofNat 8 (y.toBitVec.toNat % 256)
    rw [BitVec.signExtend_eq_setWidth_of_le _ (by omega)]
    apply BitVec.eq_of_toNat_eq
    simp
  have h3 : ∀ b : Fin 256, vp_nar .byte ((Int8.ofNat b.val).toInt32) = (if b.val < 128 then nI b.val else nI b.val - nI 256) := by decide +kernel
  have hb : y.toBitVec.toNat % 256 < 256 := Nat.mod_lt _ (by omega)
  exact ⟨y.toBitVec.toNat % 256, hb, h1, by rw [h2]; exact h3 ⟨_, hb⟩⟩
/-- the buffers, while bytes are appended -/
def WB (I0 J0 I J : JI) (c m n : Nat) : Prop := (n ≤ 500 ∧ I (c + 2) 1 = nI n ∧ J m 9 = nI n ∧ ∀ k, k < n → BYt (I (c + 3) k) (J (m + 6) k)) ∧ (∀ z, z ≠ c + 2 → z ≠ c + 3 → I z = I0 z) ∧ (∀ z, z ≠ m → z ≠ m + 6 → J z = J0 z) ∧ (∀ k, k ≠ 9 → J m k = J0 m k)
theorem WB_step {n : Nat} {v w : Int32} (h : WB I0 J0 I J c m n) (hn : n < 500) (hv : BYt v w) : WB I0 J0 (stI (stI I (c + 3) n v) (c + 2) 1 (nI (n + 1))) (stI (stI J (m + 6) n w) m 9 (nI (n + 1))) c m (n + 1) := by
  obtain ⟨⟨h1, h2, h3, h4⟩, h5, h6, h7⟩ := h
  refine ⟨⟨by omega, stI_at, stI_at, fun k hk => ?_⟩, fun z z1 z2 => ?_, fun z z1 z2 => ?_, fun k hk => ?_⟩
  · rw [stI_o (show c + 3 ≠ c + 2 by omega), stI_o (show m + 6 ≠ m by omega)]
    by_cases e : k = n
    · subst e; rw [stI_at, stI_at]; exact hv
    · rw [stI_aj e, stI_aj e]; exact h4 k (by omega)
  · rw [stI_ne z1, stI_ne z2]; exact h5 z z1 z2
  · rw [stI_ne z1, stI_ne z2]; exact h6 z z1 z2
  · rw [stI_aj hk, stI_o (by omega)]; exact h7 k hk
theorem fourC {n : Nat} {x w w' : Int32} {f : Nat} (h2 : I (c + 2) 1 = nI n) (hn : n < 500) (hw : ¬ w < 0) (e : w + (-8) = w') : s_X2_addFourBytes_L3 (c + 2) x (f + 1) w I = s_X2_addFourBytes_L3 (c + 2) x f w' (stI (stI I (c + 3) n (((x : Int32) >>> (w &&& 31)) &&& 255)) (c + 2) 1 (nI (n + 1))) := by
  rw [s_X2_addFourBytes_L3, if_neg hw, h2, ptI_nI hn (by omega), lx_s, lx_s, stI_o (show c + 2 ≠ c + 2 + 1 by omega), h2, nI_1, e]
theorem fourM {n : Nat} {x w w' s : Int32} {f : Nat} (h3 : J m 9 = nI n) (hn : n < 500) (hw : ¬ w < 0) (e : w + (-1) = w') (es : (8 * w) = s) : s_X9_four_L2 m x (f + 1) w J = s_X9_four_L2 m x f w' (stI (stI J (m + 6) n (vp_nar .byte ((Int32.toInt8 ((x : Int32) >>> (s &&& 31))).toInt32))) m 9 (nI (n + 1))) := by
  rw [s_X9_four_L2, if_neg hw, h3, gd_in hn (by omega), cl_nI (by omega), lx_s, lx_s, stI_o (show m ≠ m + 6 by omega), h3, nI_1, e, es]
theorem e_four {n : Nat} (x : Int32) (h : WB I0 J0 I J c m n) (hn : n + 4 ≤ 500) : ∃ I' J', s_X2_addFourBytes I (c + 1 + 1) x = some I' ∧ s_X9_four J m x = some J' ∧ WB I0 J0 I' J' c m (n + 4) := by
  have a1 := WB_step h (by omega) (byt_low ((x : Int32) >>> (24 &&& 31)))
  have a2 := WB_step a1 (by omega) (byt_low ((x : Int32) >>> (16 &&& 31)))
  have a3 := WB_step a2 (by omega) (byt_low ((x : Int32) >>> (8 &&& 31)))
  have a4 := WB_step a3 (by omega) (byt_low ((x : Int32) >>> (0 &&& 31)))
  refine ⟨_, _, ?_, ?_, a4⟩
  · unfold s_X2_addFourBytes
    rw [show lf = 19995 + 1 + 1 + 1 + 1 + 1 from rfl, show c + 1 + 1 = c + 2 from rfl, fourC (w' := 16) h.1.2.1 (by omega) (by decide) (by decide), fourC (w' := 8) a1.1.2.1 (by omega) (by decide) (by decide), fourC (w' := 0) a2.1.2.1 (by omega) (by decide) (by decide), fourC (w' := -8) a3.1.2.1 (by omega) (by decide) (by decide), s_X2_addFourBytes_L3, if_pos (by decide), bd_some]
  · unfold s_X9_four
    rw [show lf = 19995 + 1 + 1 + 1 + 1 + 1 from rfl, fourM (w' := 2) (s := 24) h.1.2.2.1 (by omega) (by decide) (by decide) (by decide), fourM (w' := 1) (s := 16) a1.1.2.2.1 (by omega) (by decide) (by decide) (by decide), fourM (w' := 0) (s := 8) a2.1.2.2.1 (by omega) (by decide) (by decide) (by decide), fourM (w' := -1) (s := 0) a3.1.2.2.1 (by omega) (by decide) (by decide) (by decide), s_X9_four_L2, if_pos (by decide), bd_some]
theorem RR_app {n : Nat} (h : RR I0 J0 c L m) (hL : L = c + 4 ∨ L = c + 104) (hw : WB I0 J0 I J c m n) : RR I J c L m := by
  obtain ⟨⟨w1, w2, w3, w4⟩, h5, h6, h7⟩ := hw
  obtain ⟨-, ⟨n', n1, n2, n3, n4⟩, ⟨e1, e2⟩, hr⟩ := h
  have f5 : ∀ z, ¬ (c + 2 ≤ z ∧ z < c + 4) → I z = I0 z := fun z hz => h5 z (by omega) (by omega)
  refine ⟨⟨n, w1, w2, w3, w4⟩, ⟨n', n1, by rw [f5 _ (by omega)]; exact n2, by rw [h7 22 (by decide)]; exact n3, fun k hk => ?_⟩, ⟨by rw [h7 10 (by decide), f5 _ (by omega)]; exact e1, by rw [h7 11 (by decide), f5 _ (by omega)]; exact e2⟩, ?_⟩
  · rw [f5 _ (by omega), h6 _ (by omega) (by omega)]; exact n4 k hk
  · rcases hr with hr | ⟨H, W, C, P', R, hl⟩
    · refine Or.inl ?_
      unfold RNl at *
      rw [f5 c (by omega), f5 (c + 30) (by omega), f5 (c + 88) (by omega), f5 (c + 96) (by omega), h7 6 (by decide), h7 7 (by decide), h6 (m + 5) (by omega) (by omega)]
      exact hr
    · refine Or.inr ⟨H, W, C, P', R, ?_⟩
      obtain ⟨⟨l1, l2⟩, hk, hW, hp, ⟨u, x, u8, x8, hu, hx, hm7, hb⟩, l5, l6⟩ := hl
      refine ⟨⟨by rw [f5 _ (by omega)]; exact l1, by rw [h7 6 (by decide)]; exact l2⟩, ?_, hW, ?_, ⟨u, x, u8, x8, by rw [f5 _ (by omega)]; exact hu, by rw [f5 _ (by omega)]; exact hx, by rw [h7 7 (by decide)]; exact hm7, fun i hi => ?_⟩, ?_, ?_⟩
      · rw [h6 (m + 1) (by omega) (by omega)]
        exact KR_dep hk (fun z z1 z2 => f5 z (by omega)) (fun z z1 z2 => f5 z (by omega))
      · rw [h6 (m + 1) (by omega) (by omega)]
        exact RPart_dep hp (f5 _ (by omega)) (f5 _ (by omega))
      · obtain ⟨p3, R3, p4⟩ := hb i hi
        have hr2 : c + 32 ≤ ringS c x u i ∧ ringS c x u i + 7 ≤ c + 88 := by
          unfold ringS
          have := Nat.mod_lt (x + 8 - u + i) (show 0 < 8 by omega)
          omega
        rw [h6 (m + 3) (by omega) (by omega)]
        exact ⟨RPart_dep p3 (f5 _ (by omega)) (f5 _ (by omega)), R3, KR_dep p4 (fun z z1 z2 => f5 z (by omega)) (fun z z1 z2 => f5 z (by omega))⟩
      · obtain ⟨b, b1, b2, b3⟩ := l5
        refine ⟨b, by rw [f5 _ (by omega)]; exact b1, by rw [h6 _ (by omega) (by omega)]; exact b2, fun hb => ?_⟩
        obtain ⟨p3, R3, p4⟩ := b3 hb
        rw [h6 (m + 4) (by omega) (by omega)]
        exact ⟨RPart_dep p3 (f5 _ (by omega)) (f5 _ (by omega)), R3, KR_dep p4 (fun z z1 z2 => f5 z (by omega)) (fun z z1 z2 => f5 z (by omega))⟩
      · obtain ⟨b, b1, b2, b3⟩ := l6
        refine ⟨b, by rw [f5 _ (by omega)]; exact b1, by rw [h6 _ (by omega) (by omega)]; exact b2, fun hb => ?_⟩
        obtain ⟨p3, R3, p4⟩ := b3 hb
        rw [h6 (m + 4) (by omega) (by omega)]
        exact ⟨RPart_dep p3 (f5 _ (by omega)) (f5 _ (by omega)), R3, KR_dep p4 (fun z z1 z2 => f5 z (by omega)) (fun z z1 z2 => f5 z (by omega))⟩
theorem q_append (h : RR I J c L m) (hL : L = c + 4 ∨ L = c + 104) (x1 x2 x3 x4 x5 : Int32) : ∃ v I' J', s_X8_append I c L P x1 x2 x3 x4 x5 = some (v, I') ∧ s_X9_append J m x1 x2 x3 x4 x5 = some (v, J') ∧ RR I' J' c L m := by
  have h0 := RR_thr h 0
  obtain ⟨⟨n, n1, n2, n3, n4⟩, -⟩ := id h0
  unfold s_X8_append s_X9_append
  rw [lx_s, show c + 1 + 1 = c + 2 from rfl, n2, n3]
  by_cases q : n ≤ 480
  · rw [if_pos (show nI n ≤ 480 from nI_le (b := 480) q (by omega)), if_pos (show nI n ≤ 480 from nI_le (b := 480) q (by omega))]
    have w0 : WB I (stI J m 0 0) I (stI J m 0 0) c m n := ⟨⟨n1, n2, n3, n4⟩, fun _ _ _ => rfl, fun _ _ _ => rfl, fun _ _ => rfl⟩
    obtain ⟨I1, J1, a1, b1, w1⟩ := e_four x1 w0 (by omega)
    obtain ⟨I2, J2, a2, b2, w2⟩ := e_four x2 w1 (by omega)
    obtain ⟨I3, J3, a3, b3, w3⟩ := e_four x3 w2 (by omega)
    obtain ⟨I4, J4, a4, b4, w4⟩ := e_four x4 w3 (by omega)
    obtain ⟨I5, J5, a5, b5, w5⟩ := e_four x5 w4 (by omega)
    rw [show s_X2_addFourBytes I (c + 2) x1 = _ from a1, b1, bd_some, bd_some, show s_X2_addFourBytes I1 (c + 2) x2 = _ from a2, b2, bd_some, bd_some, show s_X2_addFourBytes I2 (c + 2) x3 = _ from a3, b3, bd_some, bd_some, show s_X2_addFourBytes I3 (c + 2) x4 = _ from a4, b4, bd_some, bd_some, show s_X2_addFourBytes I4 (c + 2) x5 = _ from a5, b5, bd_some, bd_some, w5.1.2.1, w5.1.2.2.1]
    exact ⟨_, _, _, rfl, rfl, RR_app h0 hL w5⟩
  · rw [if_neg (show ¬ nI n ≤ 480 from nI_ge (a := 480) (by omega) (by omega)), if_neg (show ¬ nI n ≤ 480 from nI_ge (a := 480) (by omega) (by omega))]
    exact ⟨_, _, _, rfl, rfl, h0⟩
end APP
