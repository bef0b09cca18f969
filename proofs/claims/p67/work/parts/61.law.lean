/-! the law: what each step does -/
abbrev m_L_law : JM := (yL_law, cL_law, 18, some .boolean, [], { frames := 16, cells := 600086, slots := 7301442, locals := 642 })
def LZ (S : JS) (wa ia : Nat) (f g : Nat → Int64) : JS := stA (stA S wa f) ia g
section LSS
variable {S : JS} {wa ia c j a b : Nat} {f g f' : Nat → Int64} {I J : JI}
theorem LZ_w (hne : wa ≠ ia) (h : j < 50) : sX (LZ S wa ia f g) wa j = f j := by
  unfold LZ; rw [stA_o hne, stA_at h]
theorem LZ_i (h : j < 50) : sX (LZ S wa ia f g) ia j = g j := stA_at h
theorem LZ_sw (hne : wa ≠ ia) : stA (LZ S wa ia f g) wa f' = LZ S wa ia f' g := by
  unfold LZ stA
  refine Prod.ext rfl (Prod.ext rfl (Prod.ext rfl (Prod.ext rfl (Prod.ext ?_ rfl))))
  funext b j
  simp only [sX]
  by_cases hb : b = wa
  · subst hb
    simp only [if_true, hne, if_false]
    split <;> rfl
  · simp only [hb, if_false]
theorem LZ_si : stA (LZ S wa ia f g) ia f' = LZ S wa ia f f' := stA_stA
theorem mn_min (ha : a < 2 ^ 31) (hb : b < 2 ^ 31) : mnF (nI a) (nI b) = nI (min a b) := by
  rcases Nat.le_total a b with q | q
  · rw [mn_l q hb, Nat.min_eq_left q]
  · rw [mn_r q ha, Nat.min_eq_right q]
theorem FR.of (h : ∀ z, z < c + 21 ∨ c + 28 ≤ z → J z = I z) : FR c I J := fun z hz => h z (by omega)
theorem rw_le {N M H W : Nat} (hi : INV N I c (c + 4) H W) (hj : INV M J c (c + 4) H W) (h : J (c + 4 + 10) 3 = I (c + 4 + 10) 3) : rwN J (c + 4 + 10) = rwN I (c + 4 + 10) := by unfold rwN; rw [h]
end LSS
set_option maxHeartbeats 4000000 in
theorem b_weave {Ω : JO} {F : JF} {I : JI} {S : JS} {c wa ia N H W kb nb step sl : Nat} {v : Int32} {g : Nat → Int64} {a b h n : Nat} (hc : ∀ f g, Is8 (LZ S wa ia f g) c (c + 4) (c + 104)) (hA : ∀ f g, ArE 14 (LZ S wa ia f g) wa 50) (hB : ∀ f g, ArE 14 (LZ S wa ia f g) ia 50) (hne : wa ≠ ia) (hkb : kb + 15000 ≤ 600086) (hnb : nb + 100000 ≤ 7301442) (hi : INV N I c (c + 4) H W) (hN : N + 10 ≤ 100000) (ha : a < 3) (hb : b < 3) (hh : h < H) (hn1 : 1 ≤ n) (hn8 : n ≤ 8) (h604 : ∀ (J : JI) (N1 : Nat), N ≤ N1 → N1 ≤ N + 10 → INV N1 J c (c + 4) H W → FR c I J → AA Ω m_L_law F (kb + 7000) (nb + 45000) 604 [(7, .int (nI step)), (0, .ref (oS Ω).1), (1, .ref c), (5, .ref wa), (6, .ref ia), (8, .int v), (9, .int (nI sl))] [] J (LZ S wa ia (seeF I (c + 4) H W) g)) : AA Ω m_L_law F (kb + 6500) (nb + 42000) 181 [(7, .int (nI step)), (0, .ref (oS Ω).1), (1, .ref c), (5, .ref wa), (6, .ref ia), (8, .int v), (9, .int (nI sl)), (10, .int (nI a)), (11, .int (nI b)), (12, .int (nI h)), (13, .int (nI n))] [] I (LZ S wa ia (seeF I (c + 4) H W) g) := by
  have h6 := hi.r6
  obtain ⟨J1, j1, j2⟩ := v_possible (P := c + 104) hi
  have hi1 := hi.fr j2
  obtain ⟨r, J2, k1, k2, k3⟩ := v_until (P := c + 104) hi1
  have hi2 := hi1.fr k2
  obtain ⟨J3, w1, w2, wi, w3, w4⟩ := v_weave (P := c + 104) hi2 hn1 (show n ≤ 60 by omega)
  have fw : FR c I J3 := ((FR.of j2).tr (FR.of k2)).tr w2
  have sI1 : SE I (c + 4 + 10) J1 (c + 4 + 10) := fun k j hk hj => by rw [j2 _ (by omega)]
  have lI1 : LE (c + 4) I J1 := (FR.of j2).le rfl
  have s12 : SE J1 (c + 4 + 10) J2 (c + 4 + 10) := fun k j hk hj => by rw [k2 _ (by omega)]
  have l12 : LE (c + 4) J1 J2 := (FR.of k2).le rfl
  have ew : wuN (c + 4) (c + 4 + 10) 60 J2 = wuN (c + 4) (c + 4 + 10) 60 I := ((SE.wu (by omega) (by omega) 60 I J2 (sI1.tr s12) (lI1.tr l12)).1).symm
  have hle := wuN_le (L := c + 4) (s := (c + 4 + 10)) 60 I
  have er : rwN J2 (c + 4 + 10) = rwN I (c + 4 + 10) := by unfold rwN; rw [k2 (c + 4 + 10) (by omega), j2 (c + 4 + 10) (by omega)]
  have hst : 0 < r → ¬ nI (min n (wuN (c + 4) (c + 4 + 10) 60 J2)) < r → ∃ h, h < H ∧ bt (J3 (c + 4 + 10) 1) h = true := by
    intro q1 q2
    rcases k3 with k3 | ⟨q, e1, e2, e3, e4, e5⟩
    · rw [k3] at q1; exact absurd q1 (by decide)
    · rw [e1] at q2
      refine w4 q ?_ (fun e => e5 ?_)
      · rcases Nat.lt_or_ge (min n (wuN (c + 4) (c + 4 + 10) 60 J2)) q with q3 | q3
        · exact absurd (nI_lt q3 (by omega)) q2
        · exact q3
      · have t := (SE.wu (by omega) (by omega) q J1 J2 s12 l12).2
        rw [t.sc (j := 1) (by decide), e, s12.sc (j := 1) (by decide)]
  refine r_aload_n (pc' := 182) dL_law_181 rfl 2 rfl rfl ?_
  refine r_callV (pc' := 185) (k' := (kb + 6501)) (n' := (nb + 42006)) (nn := 0) (As := []) (rest := []) dL_law_182 mb_X8_picksPossible mi_X8_picksPossible (hc _ _).o (by decide) rfl lk_L_234 rfl rfl (roomB_mk (by decide) (by decide) (show (kb + 6500) + 1 ≤ 600086 by omega) (show (nb + 42000) + 6 ≤ 7301442 by omega)) (show (kb + 6500) + 1 = (kb + 6501) by omega) (show (nb + 42000) + 6 = (nb + 42006) by omega) (Nat.le_of_ble_eq_true rfl) rfl (c_X8_picksPossible (hc _ _) (hc _ _).t (j1) (cpI ?_))
  refine r_istore (pc' := 187) (lv' := [(15, _), (7, _), (0, _), (1, _), (5, _), (6, _), (8, _), (9, _), (10, _), (11, _), (12, _), (13, _)]) dL_law_185 (by decide) rfl rfl ?_
  refine r_aload_n (pc' := 188) dL_law_187 rfl 3 rfl rfl ?_
  refine r_callV (pc' := 191) (k' := (kb + 6502)) (n' := (nb + 42012)) (nn := 0) (As := []) (rest := []) dL_law_188 mb_X8_picksUntilStuck mi_X8_picksUntilStuck (hc _ _).o (by decide) rfl lk_L_237 rfl rfl (roomB_mk (by decide) (by decide) (show (kb + 6501) + 1 ≤ 600086 by omega) (show (nb + 42006) + 6 ≤ 7301442 by omega)) (show (kb + 6501) + 1 = (kb + 6502) by omega) (show (nb + 42006) + 6 = (nb + 42012) by omega) (Nat.le_of_ble_eq_true rfl) rfl (c_X8_picksUntilStuck (hc _ _) (hc _ _).t (k1) (cpI ?_))
  refine r_istore (pc' := 193) (lv' := [(16, _), (15, _), (7, _), (0, _), (1, _), (5, _), (6, _), (8, _), (9, _), (10, _), (11, _), (12, _), (13, _)]) dL_law_191 (by decide) rfl rfl ?_
  refine r_aload_n (pc' := 194) dL_law_193 rfl 4 rfl rfl ?_
  refine r_iload (pc' := 196) dL_law_194 12 rfl rfl ?_
  refine r_callV (pc' := 199) (k' := (kb + 6504)) (n' := (nb + 42024)) (nn := 1) (As := [_]) (rest := []) dL_law_196 mb_X8_weave mi_X8_weave (hc _ _).o (by decide) rfl lk_L_240 rfl rfl (roomB_mk (by decide) (by decide) (show (kb + 6502) + 2 ≤ 600086 by omega) (show (nb + 42012) + 12 ≤ 7301442 by omega)) (show (kb + 6502) + 2 = (kb + 6504) by omega) (show (nb + 42012) + 12 = (nb + 42024) by omega) (Nat.le_of_ble_eq_true rfl) rfl (c_X8_weave (hc _ _) (hc _ _).t (w1) (cpI ?_))
  refine r_istore (pc' := 201) (lv' := [(17, _), (16, _), (15, _), (7, _), (0, _), (1, _), (5, _), (6, _), (8, _), (9, _), (10, _), (11, _), (12, _), (13, _)]) dL_law_199 (by decide) rfl rfl ?_
  refine r_iload (pc' := 203) dL_law_201 0 rfl rfl ?_
  refine r_iload (pc' := 205) dL_law_203 13 rfl rfl ?_
  refine r_iload (pc' := 207) dL_law_205 2 rfl rfl ?_
  refine r_mmin (pc' := 210) dL_law_207 mw_L_243 (by decide) (Nat.le_of_ble_eq_true rfl) (show (kb + 6504) ≤ 600086 by omega) (show (nb + 42024) ≤ 7301442 by omega) rfl ?_
  rw [mn_min (by omega) (by omega)]
  refine r_icmp_ne (tgt := 249) (pc' := 213) dL_law_210 rfl rfl (fun h210 => ?_) (fun h210 => ?_)
  · exact absurd (by rw [ew]) h210
  · refine r_aload_n (pc' := 214) dL_law_213 rfl 5 rfl rfl ?_
    refine r_callV (pc' := 217) (k' := (kb + 6505)) (n' := (nb + 42030)) (nn := 0) (As := []) (rest := []) dL_law_214 mb_X8_rowCount mi_X8_rowCount (hc _ _).o (by decide) rfl lk_L_195 rfl rfl (roomB_mk (by decide) (by decide) (show (kb + 6504) + 1 ≤ 600086 by omega) (show (nb + 42024) + 6 ≤ 7301442 by omega)) (show (kb + 6504) + 1 = (kb + 6505) by omega) (show (nb + 42024) + 6 = (nb + 42030) by omega) (Nat.le_of_ble_eq_true rfl) rfl (c_X8_rowCount (hc _ _) (hc _ _).t (v_rowCount wi) (cpI ?_))
    refine r_i2l (pc' := 218) dL_law_217 rfl ?_
    refine r_aload (pc' := 220) dL_law_218 6 rfl rfl ?_
    refine r_iconst (pc' := 221) (v := 0) dL_law_220 (by decide) rfl ?_
    refine r_laloadN (pc' := 222) (d := 0) dL_law_221 (hA _ _) rfl (by decide) (by decide) ((LZ_w hne (by decide)).trans see_0) rfl ?_
    refine r_iload (pc' := 224) dL_law_222 0 rfl rfl ?_
    refine r_i2l (pc' := 225) dL_law_224 rfl ?_
    refine r_ladd (pc' := 226) dL_law_225 rfl ?_
    refine r_lcmpE (pc' := 227) dL_law_226 (by rw [w3, er, ← toL_add (by omega)]) rfl ?_
    refine r_if_ne (tgt := 249) (pc' := 230) dL_law_227 rfl rfl (fun h227 => ?_) (fun h227 => ?_)
    · exact absurd rfl h227
    · refine r_iload (pc' := 232) dL_law_230 1 rfl rfl ?_
      refine r_if_le (tgt := 251) (pc' := 235) dL_law_232 rfl rfl (fun h232 => ?_) (fun h232 => ?_)
      · refine r_goto (tgt := 604) dL_law_251 rfl ?_
        refine aa_locs (ks := [3, 4, 5, 6, 7, 8, 9]) (lv' := [(7, _), (0, _), (1, _), (5, _), (6, _), (8, _), (9, _)]) rfl ?_
        refine aa_widen (k' := kb + 7000) (n' := nb + 45000) (by omega) (by omega) ?_
        exact h604 _ _ (Nat.le_refl _) (by omega) wi fw
      · refine r_iload (pc' := 237) dL_law_235 0 rfl rfl ?_
        refine r_iload (pc' := 239) dL_law_237 1 rfl rfl ?_
        refine r_icmp_lt (tgt := 251) (pc' := 242) dL_law_239 rfl rfl (fun h239 => ?_) (fun h239 => ?_)
        · refine r_goto (tgt := 604) dL_law_251 rfl ?_
          refine aa_locs (ks := [3, 4, 5, 6, 7, 8, 9]) (lv' := [(7, _), (0, _), (1, _), (5, _), (6, _), (8, _), (9, _)]) rfl ?_
          refine aa_widen (k' := kb + 7000) (n' := nb + 45000) (by omega) (by omega) ?_
          exact h604 _ _ (Nat.le_refl _) (by omega) wi fw
        · refine r_aload_n (pc' := 243) dL_law_242 rfl 5 rfl rfl ?_
          refine r_callS (pc' := 246) (k' := (kb + 6555)) (n' := (nb + 42330)) (nn := 1) (As := [_]) (rest := []) dL_law_243 mb_L_isAnyStuck ms_L_isAnyStuck lk_L_248 rfl rfl (roomB_mk (by decide) (by decide) (show (kb + 6505) + 50 ≤ 600086 by omega) (show (nb + 42030) + 300 ≤ 7301442 by omega)) (show (kb + 6505) + 50 = (kb + 6555) by omega) (show (nb + 42030) + 300 = (nb + 42330) by omega) (Nat.le_of_ble_eq_true rfl) rfl (c_L_isAnyStuck (hc _ _) wi (fun bq hbq => (cpI ?_)))
          refine r_if_ne (tgt := 251) (pc' := 249) dL_law_246 rfl rfl (fun h246 => ?_) (fun h246 => ?_)
          · refine r_goto (tgt := 604) dL_law_251 rfl ?_
            refine aa_locs (ks := [3, 4, 5, 6, 7, 8, 9]) (lv' := [(7, _), (0, _), (1, _), (5, _), (6, _), (8, _), (9, _)]) rfl ?_
            refine aa_widen (k' := kb + 7000) (n' := nb + 45000) (by omega) (by omega) ?_
            exact h604 _ _ (Nat.le_refl _) (by omega) wi fw
          · exact absurd h246 (by rw [hbq (hst (Int32.not_le.mp h232) h239)]; decide)
set_option maxHeartbeats 4000000 in
theorem b_unweave {Ω : JO} {F : JF} {I : JI} {S : JS} {c wa ia N H W kb nb step sl : Nat} {v : Int32} {g : Nat → Int64} {a b h n : Nat} (hc : ∀ f g, Is8 (LZ S wa ia f g) c (c + 4) (c + 104)) (hA : ∀ f g, ArE 14 (LZ S wa ia f g) wa 50) (hB : ∀ f g, ArE 14 (LZ S wa ia f g) ia 50) (hne : wa ≠ ia) (hkb : kb + 15000 ≤ 600086) (hnb : nb + 100000 ≤ 7301442) (hi : INV N I c (c + 4) H W) (hN : N + 10 ≤ 100000) (ha : a < 3) (hb : b < 3) (hh : h < H) (hn1 : 1 ≤ n) (hn8 : n ≤ 8) (h604 : ∀ (J : JI) (N1 : Nat), N ≤ N1 → N1 ≤ N + 10 → INV N1 J c (c + 4) H W → FR c I J → AA Ω m_L_law F (kb + 7000) (nb + 45000) 604 [(7, .int (nI step)), (0, .ref (oS Ω).1), (1, .ref c), (5, .ref wa), (6, .ref ia), (8, .int v), (9, .int (nI sl))] [] J (LZ S wa ia (seeF I (c + 4) H W) g)) : AA Ω m_L_law F (kb + 6500) (nb + 42000) 261 [(7, .int (nI step)), (0, .ref (oS Ω).1), (1, .ref c), (5, .ref wa), (6, .ref ia), (8, .int v), (9, .int (nI sl)), (10, .int (nI a)), (11, .int (nI b)), (12, .int (nI h)), (13, .int (nI n))] [] I (LZ S wa ia (seeF I (c + 4) H W) g) := by
  have h6 := hi.r6
  refine r_aload_n (pc' := 262) dL_law_261 rfl 2 rfl rfl ?_
  refine r_callV (pc' := 265) (k' := (kb + 6501)) (n' := (nb + 42006)) (nn := 0) (As := []) (rest := []) dL_law_262 mb_X8_rowCount mi_X8_rowCount (hc _ _).o (by decide) rfl lk_L_195 rfl rfl (roomB_mk (by decide) (by decide) (show (kb + 6500) + 1 ≤ 600086 by omega) (show (nb + 42000) + 6 ≤ 7301442 by omega)) (show (kb + 6500) + 1 = (kb + 6501) by omega) (show (nb + 42000) + 6 = (nb + 42006) by omega) (Nat.le_of_ble_eq_true rfl) rfl (c_X8_rowCount (hc _ _) (hc _ _).t (v_rowCount hi) (cpI ?_))
  refine r_istore (pc' := 267) (lv' := [(15, _), (7, _), (0, _), (1, _), (5, _), (6, _), (8, _), (9, _), (10, _), (11, _), (12, _), (13, _)]) dL_law_265 (by decide) rfl rfl ?_
  refine r_iload (pc' := 269) dL_law_267 0 rfl rfl ?_
  refine r_iload (pc' := 271) dL_law_269 11 rfl rfl ?_
  refine r_icmp_lt (tgt := 320) (pc' := 274) dL_law_271 rfl rfl (fun h271 => ?_) (fun h271 => ?_)
  · refine r_goto (tgt := 604) dL_law_320 rfl ?_
    refine aa_locs (ks := [1, 2, 3, 4, 5, 6, 7]) (lv' := [(7, _), (0, _), (1, _), (5, _), (6, _), (8, _), (9, _)]) rfl ?_
    refine aa_widen (k' := kb + 7000) (n' := nb + 45000) (by omega) (by omega) ?_
    exact h604 _ _ (Nat.le_refl _) (by omega) hi FR.rf
  · have hnr : n ≤ rwN I (c + 4 + 10) := by
      rcases Nat.lt_or_ge (rwN I (c + 4 + 10)) n with q | q
      · exact absurd (nI_lt q (by omega)) h271
      · exact q
    obtain ⟨J, w1, w2, wi, w3⟩ := v_unweave (P := c + 104) hi hn1 hnr
    obtain ⟨y0, y0', a1, a2, a3, a4⟩ := w3 0 (by decide)
    obtain ⟨y1, y1', b1, b2, b3, b4⟩ := w3 1 (by decide)
    refine r_aload_n (pc' := 275) dL_law_274 rfl 3 rfl rfl ?_
    refine r_iload (pc' := 277) dL_law_275 11 rfl rfl ?_
    refine r_callV (pc' := 280) (k' := (kb + 6503)) (n' := (nb + 42018)) (nn := 1) (As := [_]) (rest := []) dL_law_277 mb_X8_unweave mi_X8_unweave (hc _ _).o (by decide) rfl lk_L_251 rfl rfl (roomB_mk (by decide) (by decide) (show (kb + 6501) + 2 ≤ 600086 by omega) (show (nb + 42006) + 12 ≤ 7301442 by omega)) (show (kb + 6501) + 2 = (kb + 6503) by omega) (show (nb + 42006) + 12 = (nb + 42018) by omega) (Nat.le_of_ble_eq_true rfl) rfl (c_X8_unweave (hc _ _) (hc _ _).t (w1) (cpI ?_))
    refine r_iload (pc' := 282) dL_law_280 0 rfl rfl ?_
    refine r_iload (pc' := 284) dL_law_282 11 rfl rfl ?_
    refine r_isubv (pc' := 285) dL_law_284 (nI_sub hnr) rfl ?_
    refine r_icmp_ne (tgt := 318) (pc' := 288) dL_law_285 rfl rfl (fun h285 => ?_) (fun h285 => ?_)
    · exact absurd rfl h285
    · refine r_aload_n (pc' := 289) dL_law_288 rfl 3 rfl rfl ?_
      refine r_iconst (pc' := 290) (v := 0) dL_law_289 (by decide) rfl ?_
      refine r_callV (pc' := 293) (k' := (kb + 6505)) (n' := (nb + 42030)) (nn := 1) (As := [_]) (rest := []) dL_law_290 mb_X8_yarn mi_X8_yarn (hc _ _).o (by decide) rfl lk_L_173 rfl rfl (roomB_mk (by decide) (by decide) (show (kb + 6503) + 2 ≤ 600086 by omega) (show (nb + 42018) + 12 ≤ 7301442 by omega)) (show (kb + 6503) + 2 = (kb + 6505) by omega) (show (nb + 42018) + 12 = (nb + 42030) by omega) (Nat.le_of_ble_eq_true rfl) rfl (c_X8_yarn (hc _ _) (hc _ _).t (v_yarn wi (a := 0) (by decide)) (cpI ?_))
      rw [a2]
      refine r_i2l (pc' := 294) dL_law_293 rfl ?_
      refine r_aload (pc' := 296) dL_law_294 4 rfl rfl ?_
      refine r_bipush (pc' := 298) (v := 10) dL_law_296 (by decide) rfl ?_
      refine r_laloadN (pc' := 299) (d := 10) dL_law_298 (hA _ _) rfl (by decide) (by decide) ((LZ_w hne (by decide)).trans (see_10 (k := 0) (by decide))) rfl ?_
      refine r_lcmp (pc' := 300) dL_law_299 rfl ?_
      rw [a1]
      refine r_if_lt (tgt := 318) (pc' := 303) dL_law_300 rfl rfl (fun h300 => ?_) (fun h300 => ?_)
      · exact absurd h300 (lcmp_ge a3 (by omega))
      · refine r_aload_n (pc' := 304) dL_law_303 rfl 3 rfl rfl ?_
        refine r_iconst (pc' := 305) (v := 1) dL_law_304 (by decide) rfl ?_
        refine r_callV (pc' := 308) (k' := (kb + 6507)) (n' := (nb + 42042)) (nn := 1) (As := [_]) (rest := []) dL_law_305 mb_X8_yarn mi_X8_yarn (hc _ _).o (by decide) rfl lk_L_173 rfl rfl (roomB_mk (by decide) (by decide) (show (kb + 6505) + 2 ≤ 600086 by omega) (show (nb + 42030) + 12 ≤ 7301442 by omega)) (show (kb + 6505) + 2 = (kb + 6507) by omega) (show (nb + 42030) + 12 = (nb + 42042) by omega) (Nat.le_of_ble_eq_true rfl) rfl (c_X8_yarn (hc _ _) (hc _ _).t (v_yarn wi (a := 1) (by decide)) (cpI ?_))
        rw [b2]
        refine r_i2l (pc' := 309) dL_law_308 rfl ?_
        refine r_aload (pc' := 311) dL_law_309 4 rfl rfl ?_
        refine r_bipush (pc' := 313) (v := 11) dL_law_311 (by decide) rfl ?_
        refine r_laloadN (pc' := 314) (d := 11) dL_law_313 (hA _ _) rfl (by decide) (by decide) ((LZ_w hne (by decide)).trans (see_10 (k := 1) (by decide))) rfl ?_
        refine r_lcmp (pc' := 315) dL_law_314 rfl ?_
        rw [b1]
        refine r_if_ge (tgt := 320) (pc' := 318) dL_law_315 rfl rfl (fun h315 => ?_) (fun h315 => ?_)
        · refine r_goto (tgt := 604) dL_law_320 rfl ?_
          refine aa_locs (ks := [1, 2, 3, 4, 5, 6, 7]) (lv' := [(7, _), (0, _), (1, _), (5, _), (6, _), (8, _), (9, _)]) rfl ?_
          refine aa_widen (k' := kb + 7000) (n' := nb + 45000) (by omega) (by omega) ?_
          exact h604 _ _ (Nat.le_refl _) (by omega) wi w2
        · exact absurd (Int32.not_lt.mp (lcmp_ge b3 (by omega))) h315
set_option maxHeartbeats 4000000 in
theorem b_swap {Ω : JO} {F : JF} {I : JI} {S : JS} {c wa ia N H W kb nb step sl : Nat} {v : Int32} {g : Nat → Int64} {a b h n : Nat} (hc : ∀ f g, Is8 (LZ S wa ia f g) c (c + 4) (c + 104)) (hA : ∀ f g, ArE 14 (LZ S wa ia f g) wa 50) (hB : ∀ f g, ArE 14 (LZ S wa ia f g) ia 50) (hne : wa ≠ ia) (hkb : kb + 15000 ≤ 600086) (hnb : nb + 100000 ≤ 7301442) (hi : INV N I c (c + 4) H W) (hN : N + 10 ≤ 100000) (ha : a < 3) (hb : b < 3) (hh : h < H) (hn1 : 1 ≤ n) (hn8 : n ≤ 8) (h604 : ∀ (J : JI) (N1 : Nat), N ≤ N1 → N1 ≤ N + 10 → INV N1 J c (c + 4) H W → FR c I J → AA Ω m_L_law F (kb + 7000) (nb + 45000) 604 [(7, .int (nI step)), (0, .ref (oS Ω).1), (1, .ref c), (5, .ref wa), (6, .ref ia), (8, .int v), (9, .int (nI sl))] [] J (LZ S wa ia (seeF I (c + 4) H W) g)) : AA Ω m_L_law F (kb + 6500) (nb + 42000) 330 [(7, .int (nI step)), (0, .ref (oS Ω).1), (1, .ref c), (5, .ref wa), (6, .ref ia), (8, .int v), (9, .int (nI sl)), (10, .int (nI a)), (11, .int (nI b)), (12, .int (nI h)), (13, .int (nI n))] [] I (LZ S wa ia (seeF I (c + 4) H W) g) := by
  obtain ⟨J, w1, w2, wi, w3, w4⟩ := v_swap (P := c + 104) hi ha hb
  have e7 : J (c + 4 + 5 + 2) = I (c + 4 + 5 + 2) := w2 _ (by omega)
  have e5 : J (c + 4 + 5) = I (c + 4 + 5) := w2 _ (by omega)
  refine r_aload_n (pc' := 331) dL_law_330 rfl 2 rfl rfl ?_
  refine r_iload (pc' := 333) dL_law_331 7 rfl rfl ?_
  refine r_iload (pc' := 335) dL_law_333 8 rfl rfl ?_
  refine r_callV (pc' := 338) (k' := (kb + 6504)) (n' := (nb + 42024)) (nn := 2) (As := [_, _]) (rest := []) dL_law_335 mb_X8_swapCards mi_X8_swapCards (hc _ _).o (by decide) rfl lk_L_253 rfl rfl (roomB_mk (by decide) (by decide) (show (kb + 6500) + 4 ≤ 600086 by omega) (show (nb + 42000) + 24 ≤ 7301442 by omega)) (show (kb + 6500) + 4 = (kb + 6504) by omega) (show (nb + 42000) + 24 = (nb + 42024) by omega) (Nat.le_of_ble_eq_true rfl) rfl (c_X8_swapCards (hc _ _) (hc _ _).t (w1) (cpI ?_))
  refine r_istore (pc' := 340) (lv' := [(15, _), (7, _), (0, _), (1, _), (5, _), (6, _), (8, _), (9, _), (10, _), (11, _), (12, _), (13, _)]) dL_law_338 (by decide) rfl rfl ?_
  refine r_iload (pc' := 342) dL_law_340 0 rfl rfl ?_
  refine r_iload (pc' := 344) dL_law_342 8 rfl rfl ?_
  refine r_iload (pc' := 346) dL_law_344 9 rfl rfl ?_
  refine r_icmp_ne (tgt := 358) (pc' := 349) dL_law_346 rfl rfl (fun h346 => ?_) (fun h346 => ?_)
  · have qab : ¬ a = b := fun e => h346 (by rw [e])
    refine r_aload_n (pc' := 359) dL_law_358 rfl 3 rfl rfl ?_
    refine r_iload (pc' := 361) dL_law_359 8 rfl rfl ?_
    refine r_callV (pc' := 364) (k' := (kb + 6506)) (n' := (nb + 42036)) (nn := 1) (As := [_]) (rest := [_]) dL_law_361 mb_X8_cardUses mi_X8_cardUses (hc _ _).o (by decide) rfl lk_L_256 rfl rfl (roomB_mk (by decide) (by decide) (show (kb + 6504) + 2 ≤ 600086 by omega) (show (nb + 42024) + 12 ≤ 7301442 by omega)) (show (kb + 6504) + 2 = (kb + 6506) by omega) (show (nb + 42024) + 12 = (nb + 42036) by omega) (Nat.le_of_ble_eq_true rfl) rfl (c_X8_cardUses (hc _ _) (hc _ _).t (v_cardUses wi (a := a) ha) (cpI ?_))
    refine r_aload_n (pc' := 365) dL_law_364 rfl 3 rfl rfl ?_
    refine r_iload (pc' := 367) dL_law_365 9 rfl rfl ?_
    refine r_callV (pc' := 370) (k' := (kb + 6508)) (n' := (nb + 42048)) (nn := 1) (As := [_]) (rest := [_, _]) dL_law_367 mb_X8_cardUses mi_X8_cardUses (hc _ _).o (by decide) rfl lk_L_256 rfl rfl (roomB_mk (by decide) (by decide) (show (kb + 6506) + 2 ≤ 600086 by omega) (show (nb + 42036) + 12 ≤ 7301442 by omega)) (show (kb + 6506) + 2 = (kb + 6508) by omega) (show (nb + 42036) + 12 = (nb + 42048) by omega) (Nat.le_of_ble_eq_true rfl) rfl (c_X8_cardUses (hc _ _) (hc _ _).t (v_cardUses wi (a := b) hb) (cpI ?_))
    refine r_iadd (pc' := 371) dL_law_370 rfl ?_
    refine r_icmp_ne (tgt := 412) (pc' := 374) dL_law_371 rfl rfl (fun h371 => ?_) (fun h371 => ?_)
    · exact absurd (by first | (rw [if_pos qab, e7, e5]) | (rw [if_neg qab, e7, e5])) h371
    · refine r_aload_n (pc' := 375) dL_law_374 rfl 3 rfl rfl ?_
      refine r_iload (pc' := 377) dL_law_375 8 rfl rfl ?_
      refine r_callV (pc' := 380) (k' := (kb + 6510)) (n' := (nb + 42060)) (nn := 1) (As := [_]) (rest := []) dL_law_377 mb_X8_cardColour mi_X8_cardColour (hc _ _).o (by decide) rfl lk_L_166 rfl rfl (roomB_mk (by decide) (by decide) (show (kb + 6508) + 2 ≤ 600086 by omega) (show (nb + 42048) + 12 ≤ 7301442 by omega)) (show (kb + 6508) + 2 = (kb + 6510) by omega) (show (nb + 42048) + 12 = (nb + 42060) by omega) (Nat.le_of_ble_eq_true rfl) rfl (c_X8_cardColour (hc _ _) (hc _ _).t (v_cardColour wi (a := a) ha) (cpI ?_))
      refine r_i2l (pc' := 381) dL_law_380 rfl ?_
      refine r_aload (pc' := 383) dL_law_381 4 rfl rfl ?_
      refine r_bipush (pc' := 385) (v := 20) dL_law_383 (by decide) rfl ?_
      refine r_iload (pc' := 387) dL_law_385 9 rfl rfl ?_
      refine r_iaddv (pc' := 388) dL_law_387 (nI_add 20 b) rfl ?_
      refine r_laloadN (pc' := 389) (d := 20 + b) dL_law_388 (hA _ _) rfl (by omega) (by decide) ((LZ_w hne (by omega)).trans (see_20 hb)) rfl ?_
      refine r_lcmpE (pc' := 390) dL_law_389 (by rw [w3]) rfl ?_
      refine r_if_ne (tgt := 412) (pc' := 393) dL_law_390 rfl rfl (fun h390 => ?_) (fun h390 => ?_)
      · exact absurd rfl h390
      · refine r_aload_n (pc' := 394) dL_law_393 rfl 3 rfl rfl ?_
        refine r_iload (pc' := 396) dL_law_394 9 rfl rfl ?_
        refine r_callV (pc' := 399) (k' := (kb + 6512)) (n' := (nb + 42072)) (nn := 1) (As := [_]) (rest := []) dL_law_396 mb_X8_cardColour mi_X8_cardColour (hc _ _).o (by decide) rfl lk_L_166 rfl rfl (roomB_mk (by decide) (by decide) (show (kb + 6510) + 2 ≤ 600086 by omega) (show (nb + 42060) + 12 ≤ 7301442 by omega)) (show (kb + 6510) + 2 = (kb + 6512) by omega) (show (nb + 42060) + 12 = (nb + 42072) by omega) (Nat.le_of_ble_eq_true rfl) rfl (c_X8_cardColour (hc _ _) (hc _ _).t (v_cardColour wi (a := b) hb) (cpI ?_))
        refine r_i2l (pc' := 400) dL_law_399 rfl ?_
        refine r_aload (pc' := 402) dL_law_400 4 rfl rfl ?_
        refine r_bipush (pc' := 404) (v := 20) dL_law_402 (by decide) rfl ?_
        refine r_iload (pc' := 406) dL_law_404 8 rfl rfl ?_
        refine r_iaddv (pc' := 407) dL_law_406 (nI_add 20 a) rfl ?_
        refine r_laloadN (pc' := 408) (d := 20 + a) dL_law_407 (hA _ _) rfl (by omega) (by decide) ((LZ_w hne (by omega)).trans (see_20 ha)) rfl ?_
        refine r_lcmpE (pc' := 409) dL_law_408 (by rw [w4]) rfl ?_
        refine r_if_eq (tgt := 414) (pc' := 412) dL_law_409 rfl rfl (fun h409 => ?_) (fun h409 => ?_)
        · refine r_goto (tgt := 604) dL_law_414 rfl ?_
          refine aa_locs (ks := [1, 2, 3, 4, 5, 6, 7]) (lv' := [(7, _), (0, _), (1, _), (5, _), (6, _), (8, _), (9, _)]) rfl ?_
          refine aa_widen (k' := kb + 7000) (n' := nb + 45000) (by omega) (by omega) ?_
          exact h604 _ _ (Nat.le_refl _) (by omega) wi w2
        · exact absurd rfl h409
  · have qab : a = b := (nI_eq (by omega) (by omega)).mp (Classical.byContradiction fun e => absurd h346 e)
    refine r_aload_n (pc' := 350) dL_law_349 rfl 3 rfl rfl ?_
    refine r_iload (pc' := 352) dL_law_350 8 rfl rfl ?_
    refine r_callV (pc' := 355) (k' := (kb + 6506)) (n' := (nb + 42036)) (nn := 1) (As := [_]) (rest := [_]) dL_law_352 mb_X8_cardUses mi_X8_cardUses (hc _ _).o (by decide) rfl lk_L_256 rfl rfl (roomB_mk (by decide) (by decide) (show (kb + 6504) + 2 ≤ 600086 by omega) (show (nb + 42024) + 12 ≤ 7301442 by omega)) (show (kb + 6504) + 2 = (kb + 6506) by omega) (show (nb + 42024) + 12 = (nb + 42036) by omega) (Nat.le_of_ble_eq_true rfl) rfl (c_X8_cardUses (hc _ _) (hc _ _).t (v_cardUses wi (a := a) ha) (cpI ?_))
    refine r_goto (tgt := 371) dL_law_355 rfl ?_
    refine r_icmp_ne (tgt := 412) (pc' := 374) dL_law_371 rfl rfl (fun h371 => ?_) (fun h371 => ?_)
    · exact absurd (by first | (rw [if_pos qab, e7, e5]) | (rw [if_neg qab, e7, e5])) h371
    · refine r_aload_n (pc' := 375) dL_law_374 rfl 3 rfl rfl ?_
      refine r_iload (pc' := 377) dL_law_375 8 rfl rfl ?_
      refine r_callV (pc' := 380) (k' := (kb + 6508)) (n' := (nb + 42048)) (nn := 1) (As := [_]) (rest := []) dL_law_377 mb_X8_cardColour mi_X8_cardColour (hc _ _).o (by decide) rfl lk_L_166 rfl rfl (roomB_mk (by decide) (by decide) (show (kb + 6506) + 2 ≤ 600086 by omega) (show (nb + 42036) + 12 ≤ 7301442 by omega)) (show (kb + 6506) + 2 = (kb + 6508) by omega) (show (nb + 42036) + 12 = (nb + 42048) by omega) (Nat.le_of_ble_eq_true rfl) rfl (c_X8_cardColour (hc _ _) (hc _ _).t (v_cardColour wi (a := a) ha) (cpI ?_))
      refine r_i2l (pc' := 381) dL_law_380 rfl ?_
      refine r_aload (pc' := 383) dL_law_381 4 rfl rfl ?_
      refine r_bipush (pc' := 385) (v := 20) dL_law_383 (by decide) rfl ?_
      refine r_iload (pc' := 387) dL_law_385 9 rfl rfl ?_
      refine r_iaddv (pc' := 388) dL_law_387 (nI_add 20 b) rfl ?_
      refine r_laloadN (pc' := 389) (d := 20 + b) dL_law_388 (hA _ _) rfl (by omega) (by decide) ((LZ_w hne (by omega)).trans (see_20 hb)) rfl ?_
      refine r_lcmpE (pc' := 390) dL_law_389 (by rw [w3]) rfl ?_
      refine r_if_ne (tgt := 412) (pc' := 393) dL_law_390 rfl rfl (fun h390 => ?_) (fun h390 => ?_)
      · exact absurd rfl h390
      · refine r_aload_n (pc' := 394) dL_law_393 rfl 3 rfl rfl ?_
        refine r_iload (pc' := 396) dL_law_394 9 rfl rfl ?_
        refine r_callV (pc' := 399) (k' := (kb + 6510)) (n' := (nb + 42060)) (nn := 1) (As := [_]) (rest := []) dL_law_396 mb_X8_cardColour mi_X8_cardColour (hc _ _).o (by decide) rfl lk_L_166 rfl rfl (roomB_mk (by decide) (by decide) (show (kb + 6508) + 2 ≤ 600086 by omega) (show (nb + 42048) + 12 ≤ 7301442 by omega)) (show (kb + 6508) + 2 = (kb + 6510) by omega) (show (nb + 42048) + 12 = (nb + 42060) by omega) (Nat.le_of_ble_eq_true rfl) rfl (c_X8_cardColour (hc _ _) (hc _ _).t (v_cardColour wi (a := b) hb) (cpI ?_))
        refine r_i2l (pc' := 400) dL_law_399 rfl ?_
        refine r_aload (pc' := 402) dL_law_400 4 rfl rfl ?_
        refine r_bipush (pc' := 404) (v := 20) dL_law_402 (by decide) rfl ?_
        refine r_iload (pc' := 406) dL_law_404 8 rfl rfl ?_
        refine r_iaddv (pc' := 407) dL_law_406 (nI_add 20 a) rfl ?_
        refine r_laloadN (pc' := 408) (d := 20 + a) dL_law_407 (hA _ _) rfl (by omega) (by decide) ((LZ_w hne (by omega)).trans (see_20 ha)) rfl ?_
        refine r_lcmpE (pc' := 409) dL_law_408 (by rw [w4]) rfl ?_
        refine r_if_eq (tgt := 414) (pc' := 412) dL_law_409 rfl rfl (fun h409 => ?_) (fun h409 => ?_)
        · refine r_goto (tgt := 604) dL_law_414 rfl ?_
          refine aa_locs (ks := [1, 2, 3, 4, 5, 6, 7]) (lv' := [(7, _), (0, _), (1, _), (5, _), (6, _), (8, _), (9, _)]) rfl ?_
          refine aa_widen (k' := kb + 7000) (n' := nb + 45000) (by omega) (by omega) ?_
          exact h604 _ _ (Nat.le_refl _) (by omega) wi w2
        · exact absurd rfl h409
set_option maxHeartbeats 4000000 in
theorem b_punch {Ω : JO} {F : JF} {I : JI} {S : JS} {c wa ia N H W kb nb step sl : Nat} {v : Int32} {g : Nat → Int64} {a b h n : Nat} (hc : ∀ f g, Is8 (LZ S wa ia f g) c (c + 4) (c + 104)) (hA : ∀ f g, ArE 14 (LZ S wa ia f g) wa 50) (hB : ∀ f g, ArE 14 (LZ S wa ia f g) ia 50) (hne : wa ≠ ia) (hkb : kb + 15000 ≤ 600086) (hnb : nb + 100000 ≤ 7301442) (hi : INV N I c (c + 4) H W) (hN : N + 10 ≤ 100000) (ha : a < 3) (hb : b < 3) (hh : h < H) (hn1 : 1 ≤ n) (hn8 : n ≤ 8) (h604 : ∀ (J : JI) (N1 : Nat), N ≤ N1 → N1 ≤ N + 10 → INV N1 J c (c + 4) H W → FR c I J → AA Ω m_L_law F (kb + 7000) (nb + 45000) 604 [(7, .int (nI step)), (0, .ref (oS Ω).1), (1, .ref c), (5, .ref wa), (6, .ref ia), (8, .int v), (9, .int (nI sl))] [] J (LZ S wa ia (seeF I (c + 4) H W) g)) : AA Ω m_L_law F (kb + 6500) (nb + 42000) 424 [(7, .int (nI step)), (0, .ref (oS Ω).1), (1, .ref c), (5, .ref wa), (6, .ref ia), (8, .int v), (9, .int (nI sl)), (10, .int (nI a)), (11, .int (nI b)), (12, .int (nI h)), (13, .int (nI n))] [] I (LZ S wa ia (seeF I (c + 4) H W) g) := by
  obtain ⟨J, w1, w2, wi, w3⟩ := v_punch (P := c + 104) hi ha hh
  obtain ⟨J2, x1, x2, xi, x3⟩ := v_punch (P := c + 104) wi ha hh
  refine r_aload_n (pc' := 425) dL_law_424 rfl 2 rfl rfl ?_
  refine r_iload (pc' := 427) dL_law_425 7 rfl rfl ?_
  refine r_iload (pc' := 429) dL_law_427 9 rfl rfl ?_
  refine r_callV (pc' := 432) (k' := (kb + 6504)) (n' := (nb + 42024)) (nn := 2) (As := [_, _]) (rest := []) dL_law_429 mb_X8_lifts mi_X8_lifts (hc _ _).o (by decide) rfl lk_L_169 rfl rfl (roomB_mk (by decide) (by decide) (show (kb + 6500) + 4 ≤ 600086 by omega) (show (nb + 42000) + 24 ≤ 7301442 by omega)) (show (kb + 6500) + 4 = (kb + 6504) by omega) (show (nb + 42000) + 24 = (nb + 42024) by omega) (Nat.le_of_ble_eq_true rfl) rfl (c_X8_lifts (hc _ _) (hc _ _).t (v_lifts hi ha hh) (cpI ?_))
  refine r_istore (pc' := 434) (lv' := [(15, _), (7, _), (0, _), (1, _), (5, _), (6, _), (8, _), (9, _), (10, _), (11, _), (12, _), (13, _)]) dL_law_432 (by decide) rfl rfl ?_
  refine r_aload_n (pc' := 435) dL_law_434 rfl 3 rfl rfl ?_
  refine r_iload (pc' := 437) dL_law_435 8 rfl rfl ?_
  refine r_iload (pc' := 439) dL_law_437 10 rfl rfl ?_
  refine r_callV (pc' := 442) (k' := (kb + 6508)) (n' := (nb + 42048)) (nn := 2) (As := [_, _]) (rest := []) dL_law_439 mb_X8_punch mi_X8_punch (hc _ _).o (by decide) rfl lk_L_259 rfl rfl (roomB_mk (by decide) (by decide) (show (kb + 6504) + 4 ≤ 600086 by omega) (show (nb + 42024) + 24 ≤ 7301442 by omega)) (show (kb + 6504) + 4 = (kb + 6508) by omega) (show (nb + 42024) + 24 = (nb + 42048) by omega) (Nat.le_of_ble_eq_true rfl) rfl (c_X8_punch (hc _ _) (hc _ _).t (w1) (cpI ?_))
  refine r_iload (pc' := 444) dL_law_442 0 rfl rfl ?_
  refine r_icmp_eq (tgt := 460) (pc' := 447) dL_law_444 rfl rfl (fun h444 => ?_) (fun h444 => ?_)
  · exact absurd h444 (by cases bt (I ((c + 4 + 10) + 3) a) h <;> decide)
  · refine r_aload_n (pc' := 448) dL_law_447 rfl 3 rfl rfl ?_
    refine r_iload (pc' := 450) dL_law_448 8 rfl rfl ?_
    refine r_iload (pc' := 452) dL_law_450 10 rfl rfl ?_
    refine r_callV (pc' := 455) (k' := (kb + 6512)) (n' := (nb + 42072)) (nn := 2) (As := [_, _]) (rest := []) dL_law_452 mb_X8_punch mi_X8_punch (hc _ _).o (by decide) rfl lk_L_259 rfl rfl (roomB_mk (by decide) (by decide) (show (kb + 6508) + 4 ≤ 600086 by omega) (show (nb + 42048) + 24 ≤ 7301442 by omega)) (show (kb + 6508) + 4 = (kb + 6512) by omega) (show (nb + 42048) + 24 = (nb + 42072) by omega) (Nat.le_of_ble_eq_true rfl) rfl (c_X8_punch (hc _ _) (hc _ _).t (x1) (cpI ?_))
    refine r_iload (pc' := 457) dL_law_455 0 rfl rfl ?_
    refine r_icmp_eq (tgt := 462) (pc' := 460) dL_law_457 rfl rfl (fun h457 => ?_) (fun h457 => ?_)
    · refine r_goto (tgt := 604) dL_law_462 rfl ?_
      refine aa_locs (ks := [1, 2, 3, 4, 5, 6, 7]) (lv' := [(7, _), (0, _), (1, _), (5, _), (6, _), (8, _), (9, _)]) rfl ?_
      refine aa_widen (k' := kb + 7000) (n' := nb + 45000) (by omega) (by omega) ?_
      exact h604 _ _ (Nat.le_refl _) (by omega) xi (w2.tr x2)
    · exact absurd (by rw [w3]; cases bt (I ((c + 4 + 10) + 3) a) h <;> decide) h457
set_option maxHeartbeats 4000000 in
theorem b_colour {Ω : JO} {F : JF} {I : JI} {S : JS} {c wa ia N H W kb nb step sl : Nat} {v : Int32} {g : Nat → Int64} {a b h n : Nat} (hc : ∀ f g, Is8 (LZ S wa ia f g) c (c + 4) (c + 104)) (hA : ∀ f g, ArE 14 (LZ S wa ia f g) wa 50) (hB : ∀ f g, ArE 14 (LZ S wa ia f g) ia 50) (hne : wa ≠ ia) (hkb : kb + 15000 ≤ 600086) (hnb : nb + 100000 ≤ 7301442) (hi : INV N I c (c + 4) H W) (hN : N + 10 ≤ 100000) (ha : a < 3) (hb : b < 3) (hh : h < H) (hn1 : 1 ≤ n) (hn8 : n ≤ 8) (h604 : ∀ (J : JI) (N1 : Nat), N ≤ N1 → N1 ≤ N + 10 → INV N1 J c (c + 4) H W → FR c I J → AA Ω m_L_law F (kb + 7000) (nb + 45000) 604 [(7, .int (nI step)), (0, .ref (oS Ω).1), (1, .ref c), (5, .ref wa), (6, .ref ia), (8, .int v), (9, .int (nI sl))] [] J (LZ S wa ia (seeF I (c + 4) H W) g)) : AA Ω m_L_law F (kb + 6500) (nb + 42000) 472 [(7, .int (nI step)), (0, .ref (oS Ω).1), (1, .ref c), (5, .ref wa), (6, .ref ia), (8, .int v), (9, .int (nI sl)), (10, .int (nI a)), (11, .int (nI b)), (12, .int (nI h)), (13, .int (nI n))] [] I (LZ S wa ia (seeF I (c + 4) H W) g) := by
  obtain ⟨J, w1, w2, wi, w3⟩ := v_colour (P := c + 104) (b := 3) hi ha (by decide)
  refine r_aload_n (pc' := 473) dL_law_472 rfl 2 rfl rfl ?_
  refine r_iload (pc' := 475) dL_law_473 7 rfl rfl ?_
  refine r_iconst (pc' := 476) (v := 3) dL_law_475 (by decide) rfl ?_
  refine r_callV (pc' := 479) (k' := (kb + 6504)) (n' := (nb + 42024)) (nn := 2) (As := [_, _]) (rest := []) dL_law_476 mb_X8_setCardColour mi_X8_setCardColour (hc _ _).o (by decide) rfl lk_L_262 rfl rfl (roomB_mk (by decide) (by decide) (show (kb + 6500) + 4 ≤ 600086 by omega) (show (nb + 42000) + 24 ≤ 7301442 by omega)) (show (kb + 6500) + 4 = (kb + 6504) by omega) (show (nb + 42000) + 24 = (nb + 42024) by omega) (Nat.le_of_ble_eq_true rfl) rfl (c_X8_setCardColour (hc _ _) (hc _ _).t (w1) (cpI ?_))
  refine r_i2l (pc' := 480) dL_law_479 rfl ?_
  refine r_aload (pc' := 482) dL_law_480 3 rfl rfl ?_
  refine r_bipush (pc' := 484) (v := 20) dL_law_482 (by decide) rfl ?_
  refine r_iload (pc' := 486) dL_law_484 7 rfl rfl ?_
  refine r_iaddv (pc' := 487) dL_law_486 (nI_add 20 a) rfl ?_
  refine r_laloadN (pc' := 488) (d := 20 + a) dL_law_487 (hA _ _) rfl (by omega) (by decide) ((LZ_w hne (by omega)).trans (see_20 ha)) rfl ?_
  refine r_lcmpE (pc' := 489) dL_law_488 rfl rfl ?_
  refine r_if_ne (tgt := 502) (pc' := 492) dL_law_489 rfl rfl (fun h489 => ?_) (fun h489 => ?_)
  · exact absurd rfl h489
  · refine r_aload_n (pc' := 493) dL_law_492 rfl 2 rfl rfl ?_
    refine r_iload (pc' := 495) dL_law_493 7 rfl rfl ?_
    refine r_callV (pc' := 498) (k' := (kb + 6506)) (n' := (nb + 42036)) (nn := 1) (As := [_]) (rest := []) dL_law_495 mb_X8_cardColour mi_X8_cardColour (hc _ _).o (by decide) rfl lk_L_166 rfl rfl (roomB_mk (by decide) (by decide) (show (kb + 6504) + 2 ≤ 600086 by omega) (show (nb + 42024) + 12 ≤ 7301442 by omega)) (show (kb + 6504) + 2 = (kb + 6506) by omega) (show (nb + 42024) + 12 = (nb + 42036) by omega) (Nat.le_of_ble_eq_true rfl) rfl (c_X8_cardColour (hc _ _) (hc _ _).t (v_cardColour wi (a := a) ha) (cpI ?_))
    refine r_iconst (pc' := 499) (v := 3) dL_law_498 (by decide) rfl ?_
    refine r_icmp_eq (tgt := 604) (pc' := 502) dL_law_499 rfl rfl (fun h499 => ?_) (fun h499 => ?_)
    · refine aa_locs (ks := [0, 1, 2, 3, 4, 5, 6]) (lv' := [(7, _), (0, _), (1, _), (5, _), (6, _), (8, _), (9, _)]) rfl ?_
      refine aa_widen (k' := kb + 7000) (n' := nb + 45000) (by omega) (by omega) ?_
      exact h604 _ _ (Nat.le_refl _) (by omega) wi w2
    · exact absurd w3 h499
set_option maxHeartbeats 4000000 in
theorem b_bring {Ω : JO} {F : JF} {I : JI} {S : JS} {c wa ia N H W kb nb step sl : Nat} {v : Int32} {g : Nat → Int64} {a b h n : Nat} (hc : ∀ f g, Is8 (LZ S wa ia f g) c (c + 4) (c + 104)) (hA : ∀ f g, ArE 14 (LZ S wa ia f g) wa 50) (hB : ∀ f g, ArE 14 (LZ S wa ia f g) ia 50) (hne : wa ≠ ia) (hkb : kb + 15000 ≤ 600086) (hnb : nb + 100000 ≤ 7301442) (hi : INV N I c (c + 4) H W) (hN : N + 10 ≤ 100000) (ha : a < 3) (hb : b < 3) (hh : h < H) (hn1 : 1 ≤ n) (hn8 : n ≤ 8) (h604 : ∀ (J : JI) (N1 : Nat), N ≤ N1 → N1 ≤ N + 10 → INV N1 J c (c + 4) H W → FR c I J → AA Ω m_L_law F (kb + 7000) (nb + 45000) 604 [(7, .int (nI step)), (0, .ref (oS Ω).1), (1, .ref c), (5, .ref wa), (6, .ref ia), (8, .int v), (9, .int (nI sl))] [] J (LZ S wa ia (seeF I (c + 4) H W) g)) : AA Ω m_L_law F (kb + 6500) (nb + 42000) 511 [(7, .int (nI step)), (0, .ref (oS Ω).1), (1, .ref c), (5, .ref wa), (6, .ref ia), (8, .int v), (9, .int (nI sl)), (10, .int (nI a)), (11, .int (nI b)), (12, .int (nI h)), (13, .int (nI n))] [] I (LZ S wa ia (seeF I (c + 4) H W) g) := by
  obtain ⟨J, y, w1, w2, wi, w3, w4⟩ := v_bring (P := c + 104) (a := a) hi (by omega) hn1 (show n ≤ 999 by omega) (by omega)
  have h6 := wi.r6
  have hcd : cdI J (c + 4) (rwN J (c + 4 + 10)) < 3 := (wi.f.cfr (by omega)).2
  obtain ⟨-, x, x6, hx⟩ := wi.s.card _ hcd
  refine r_aload_n (pc' := 512) dL_law_511 rfl 2 rfl rfl ?_
  refine r_iload (pc' := 514) dL_law_512 7 rfl rfl ?_
  refine r_iload (pc' := 516) dL_law_514 10 rfl rfl ?_
  refine r_callV (pc' := 519) (k' := (kb + 6503)) (n' := (nb + 42018)) (nn := 2) (As := [_, _]) (rest := []) dL_law_516 mb_X8_bringYarn mi_X8_bringYarn (hc _ _).o (by decide) rfl lk_L_265 rfl rfl (roomB_mk (by decide) (by decide) (show (kb + 6500) + 3 ≤ 600086 by omega) (show (nb + 42000) + 18 ≤ 7301442 by omega)) (show (kb + 6500) + 3 = (kb + 6503) by omega) (show (nb + 42000) + 18 = (nb + 42018) by omega) (Nat.le_of_ble_eq_true rfl) rfl (c_X8_bringYarn (hc _ _) (hc _ _).t (w1) (cpI ?_))
  refine r_i2l (pc' := 520) dL_law_519 rfl ?_
  refine r_aload (pc' := 522) dL_law_520 3 rfl rfl ?_
  refine r_bipush (pc' := 524) (v := 10) dL_law_522 (by decide) rfl ?_
  refine r_iload (pc' := 526) dL_law_524 7 rfl rfl ?_
  refine r_iaddv (pc' := 527) dL_law_526 (nI_add 10 a) rfl ?_
  refine r_laloadN (pc' := 528) (d := 10 + a) dL_law_527 (hA _ _) rfl (by omega) (by decide) ((LZ_w hne (by omega)).trans (see_10 (k := a) (by omega))) rfl ?_
  refine r_iload (pc' := 530) dL_law_528 10 rfl rfl ?_
  refine r_i2l (pc' := 531) dL_law_530 rfl ?_
  refine r_ladd (pc' := 532) dL_law_531 rfl ?_
  refine r_lcmpE (pc' := 533) dL_law_532 (by rw [w3, ← toL_add (by omega)]) rfl ?_
  refine r_if_ne (tgt := 563) (pc' := 536) dL_law_533 rfl rfl (fun h533 => ?_) (fun h533 => ?_)
  · exact absurd rfl h533
  · refine r_aload_n (pc' := 537) dL_law_536 rfl 2 rfl rfl ?_
    refine r_callV (pc' := 540) (k' := (kb + 6504)) (n' := (nb + 42024)) (nn := 0) (As := []) (rest := []) dL_law_537 mb_X8_weaveObstacle mi_X8_weaveObstacle (hc _ _).o (by decide) rfl lk_L_268 rfl rfl (roomB_mk (by decide) (by decide) (show (kb + 6503) + 1 ≤ 600086 by omega) (show (nb + 42018) + 6 ≤ 7301442 by omega)) (show (kb + 6503) + 1 = (kb + 6504) by omega) (show (nb + 42018) + 6 = (nb + 42024) by omega) (Nat.le_of_ble_eq_true rfl) rfl (c_X8_weaveObstacle (hc _ _) (hc _ _).t (v_weaveObstacle wi) (cpI ?_))
    refine r_iconst (pc' := 541) (v := 3) dL_law_540 (by decide) rfl ?_
    refine r_icmp_ne (tgt := 604) (pc' := 544) dL_law_541 rfl rfl (fun h541 => ?_) (fun h541 => ?_)
    · refine aa_locs (ks := [0, 1, 2, 3, 4, 5, 6]) (lv' := [(7, _), (0, _), (1, _), (5, _), (6, _), (8, _), (9, _)]) rfl ?_
      refine aa_widen (k' := kb + 7000) (n' := nb + 45000) (by omega) (by omega) ?_
      exact h604 _ _ (by omega) (by omega) wi w2
    · have ho : x3_obst J (c + 4) (c + 4 + 10) = 3 := Classical.byContradiction fun e => absurd h541 e
      refine r_aload_n (pc' := 545) dL_law_544 rfl 2 rfl rfl ?_
      refine r_aload_n (pc' := 546) dL_law_545 rfl 2 rfl rfl ?_
      refine r_aload_n (pc' := 547) dL_law_546 rfl 2 rfl rfl ?_
      refine r_callV (pc' := 550) (k' := (kb + 6505)) (n' := (nb + 42030)) (nn := 0) (As := []) (rest := [_, _]) dL_law_547 mb_X8_nextCard mi_X8_nextCard (hc _ _).o (by decide) rfl lk_L_271 rfl rfl (roomB_mk (by decide) (by decide) (show (kb + 6504) + 1 ≤ 600086 by omega) (show (nb + 42024) + 6 ≤ 7301442 by omega)) (show (kb + 6504) + 1 = (kb + 6505) by omega) (show (nb + 42024) + 6 = (nb + 42030) by omega) (Nat.le_of_ble_eq_true rfl) rfl (c_X8_nextCard (hc _ _) (hc _ _).t (v_nextCard wi) (cpI ?_))
      refine r_callV (pc' := 553) (k' := (kb + 6507)) (n' := (nb + 42042)) (nn := 1) (As := [_]) (rest := [_]) dL_law_550 mb_X8_cardColour mi_X8_cardColour (hc _ _).o (by decide) rfl lk_L_166 rfl rfl (roomB_mk (by decide) (by decide) (show (kb + 6505) + 2 ≤ 600086 by omega) (show (nb + 42030) + 12 ≤ 7301442 by omega)) (show (kb + 6505) + 2 = (kb + 6507) by omega) (show (nb + 42030) + 12 = (nb + 42042) by omega) (Nat.le_of_ble_eq_true rfl) rfl (c_X8_cardColour (hc _ _) (hc _ _).t (v_cardColour wi (a := cdI J (c + 4) (rwN J (c + 4 + 10))) hcd) (cpI ?_))
      rw [hx]
      refine r_callV (pc' := 556) (k' := (kb + 6509)) (n' := (nb + 42054)) (nn := 1) (As := [_]) (rest := []) dL_law_553 mb_X8_yarn mi_X8_yarn (hc _ _).o (by decide) rfl lk_L_173 rfl rfl (roomB_mk (by decide) (by decide) (show (kb + 6507) + 2 ≤ 600086 by omega) (show (nb + 42042) + 12 ≤ 7301442 by omega)) (show (kb + 6507) + 2 = (kb + 6509) by omega) (show (nb + 42042) + 12 = (nb + 42054) by omega) (Nat.le_of_ble_eq_true rfl) rfl (c_X8_yarn (hc _ _) (hc _ _).t (v_yarn wi (a := x) x6) (cpI ?_))
      refine r_aload_n (pc' := 557) dL_law_556 rfl 2 rfl rfl ?_
      refine r_callV (pc' := 560) (k' := (kb + 6510)) (n' := (nb + 42060)) (nn := 0) (As := []) (rest := [_]) dL_law_557 mb_X8_warpCount mi_X8_warpCount (hc _ _).o (by decide) rfl lk_L_201 rfl rfl (roomB_mk (by decide) (by decide) (show (kb + 6509) + 1 ≤ 600086 by omega) (show (nb + 42054) + 6 ≤ 7301442 by omega)) (show (kb + 6509) + 1 = (kb + 6510) by omega) (show (nb + 42054) + 6 = (nb + 42060) by omega) (Nat.le_of_ble_eq_true rfl) rfl (c_X8_warpCount (hc _ _) (hc _ _).t (v_warpCount wi) (cpI ?_))
      refine r_icmp_lt (tgt := 604) (pc' := 563) dL_law_560 rfl rfl (fun h560 => ?_) (fun h560 => ?_)
      · refine aa_locs (ks := [0, 1, 2, 3, 4, 5, 6]) (lv' := [(7, _), (0, _), (1, _), (5, _), (6, _), (8, _), (9, _)]) rfl ?_
        refine aa_widen (k' := kb + 7000) (n' := nb + 45000) (by omega) (by omega) ?_
        exact h604 _ _ (by omega) (by omega) wi w2
      · exact absurd (obst3 wi x6 hx ho) h560
set_option maxHeartbeats 4000000 in
theorem b_oil {Ω : JO} {F : JF} {I : JI} {S : JS} {c wa ia N H W kb nb step sl : Nat} {v : Int32} {g : Nat → Int64} {a b h n : Nat} (hc : ∀ f g, Is8 (LZ S wa ia f g) c (c + 4) (c + 104)) (hA : ∀ f g, ArE 14 (LZ S wa ia f g) wa 50) (hB : ∀ f g, ArE 14 (LZ S wa ia f g) ia 50) (hne : wa ≠ ia) (hkb : kb + 15000 ≤ 600086) (hnb : nb + 100000 ≤ 7301442) (hi : INV N I c (c + 4) H W) (hN : N + 10 ≤ 100000) (ha : a < 3) (hb : b < 3) (hh : h < H) (hn1 : 1 ≤ n) (hn8 : n ≤ 8) (h604 : ∀ (J : JI) (N1 : Nat), N ≤ N1 → N1 ≤ N + 10 → INV N1 J c (c + 4) H W → FR c I J → AA Ω m_L_law F (kb + 7000) (nb + 45000) 604 [(7, .int (nI step)), (0, .ref (oS Ω).1), (1, .ref c), (5, .ref wa), (6, .ref ia), (8, .int v), (9, .int (nI sl))] [] J (LZ S wa ia (seeF I (c + 4) H W) g)) : AA Ω m_L_law F (kb + 6500) (nb + 42000) 565 [(7, .int (nI step)), (0, .ref (oS Ω).1), (1, .ref c), (5, .ref wa), (6, .ref ia), (8, .int v), (9, .int (nI sl)), (10, .int (nI a)), (11, .int (nI b)), (12, .int (nI h)), (13, .int (nI n))] [] I (LZ S wa ia (seeF I (c + 4) H W) g) := by
  obtain ⟨J, w1, w2, wi, w3, w4⟩ := v_oil (P := c + 104) hi hh
  refine r_aload_n (pc' := 566) dL_law_565 rfl 2 rfl rfl ?_
  refine r_iload (pc' := 568) dL_law_566 9 rfl rfl ?_
  refine r_callV (pc' := 571) (k' := (kb + 6502)) (n' := (nb + 42012)) (nn := 1) (As := [_]) (rest := []) dL_law_568 mb_X8_wear mi_X8_wear (hc _ _).o (by decide) rfl lk_L_161 rfl rfl (roomB_mk (by decide) (by decide) (show (kb + 6500) + 2 ≤ 600086 by omega) (show (nb + 42000) + 12 ≤ 7301442 by omega)) (show (kb + 6500) + 2 = (kb + 6502) by omega) (show (nb + 42000) + 12 = (nb + 42012) by omega) (Nat.le_of_ble_eq_true rfl) rfl (c_X8_wear (hc _ _) (hc _ _).t (v_wear hi hh) (cpI ?_))
  refine r_istore (pc' := 573) (lv' := [(15, _), (7, _), (0, _), (1, _), (5, _), (6, _), (8, _), (9, _), (10, _), (11, _), (12, _), (13, _)]) dL_law_571 (by decide) rfl rfl ?_
  refine r_aload_n (pc' := 574) dL_law_573 rfl 3 rfl rfl ?_
  refine r_iload (pc' := 576) dL_law_574 10 rfl rfl ?_
  refine r_callV (pc' := 579) (k' := (kb + 6504)) (n' := (nb + 42024)) (nn := 1) (As := [_]) (rest := []) dL_law_576 mb_X8_oil mi_X8_oil (hc _ _).o (by decide) rfl lk_L_274 rfl rfl (roomB_mk (by decide) (by decide) (show (kb + 6502) + 2 ≤ 600086 by omega) (show (nb + 42012) + 12 ≤ 7301442 by omega)) (show (kb + 6502) + 2 = (kb + 6504) by omega) (show (nb + 42012) + 12 = (nb + 42024) by omega) (Nat.le_of_ble_eq_true rfl) rfl (c_X8_oil (hc _ _) (hc _ _).t (w1) (cpI ?_))
  refine r_iload (pc' := 581) dL_law_579 0 rfl rfl ?_
  refine r_icmp_ne (tgt := 602) (pc' := 584) dL_law_581 rfl rfl (fun h581 => ?_) (fun h581 => ?_)
  · exact absurd rfl h581
  · refine r_aload_n (pc' := 585) dL_law_584 rfl 3 rfl rfl ?_
    refine r_iload (pc' := 587) dL_law_585 10 rfl rfl ?_
    refine r_callV (pc' := 590) (k' := (kb + 6506)) (n' := (nb + 42036)) (nn := 1) (As := [_]) (rest := []) dL_law_587 mb_X8_wear mi_X8_wear (hc _ _).o (by decide) rfl lk_L_161 rfl rfl (roomB_mk (by decide) (by decide) (show (kb + 6504) + 2 ≤ 600086 by omega) (show (nb + 42024) + 12 ≤ 7301442 by omega)) (show (kb + 6504) + 2 = (kb + 6506) by omega) (show (nb + 42024) + 12 = (nb + 42036) by omega) (Nat.le_of_ble_eq_true rfl) rfl (c_X8_wear (hc _ _) (hc _ _).t (v_wear wi hh) (cpI ?_))
    refine r_if_ne (tgt := 602) (pc' := 593) dL_law_590 rfl rfl (fun h590 => ?_) (fun h590 => ?_)
    · exact absurd w3 h590
    · refine r_aload_n (pc' := 594) dL_law_593 rfl 3 rfl rfl ?_
      refine r_iload (pc' := 596) dL_law_594 10 rfl rfl ?_
      refine r_callV (pc' := 599) (k' := (kb + 6508)) (n' := (nb + 42048)) (nn := 1) (As := [_]) (rest := []) dL_law_596 mb_X8_isStuck mi_X8_isStuck (hc _ _).o (by decide) rfl lk_L_158 rfl rfl (roomB_mk (by decide) (by decide) (show (kb + 6506) + 2 ≤ 600086 by omega) (show (nb + 42036) + 12 ≤ 7301442 by omega)) (show (kb + 6506) + 2 = (kb + 6508) by omega) (show (nb + 42036) + 12 = (nb + 42048) by omega) (Nat.le_of_ble_eq_true rfl) rfl (c_X8_isStuck (hc _ _) (hc _ _).t (v_isStuck wi hh) (cpI ?_))
      refine r_if_eq (tgt := 604) (pc' := 602) dL_law_599 rfl rfl (fun h599 => ?_) (fun h599 => ?_)
      · refine aa_locs (ks := [1, 2, 3, 4, 5, 6, 7]) (lv' := [(7, _), (0, _), (1, _), (5, _), (6, _), (8, _), (9, _)]) rfl ?_
        refine aa_widen (k' := kb + 7000) (n' := nb + 45000) (by omega) (by omega) ?_
        exact h604 _ _ (Nat.le_refl _) (by omega) wi w2
      · exact absurd (by rw [w4]; rfl) h599
