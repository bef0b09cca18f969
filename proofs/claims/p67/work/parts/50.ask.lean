/-! the law's questions -/
/-- a row of fifty longs -/
def stA (S : JS) (a : Nat) (f : Nat → Int64) : JS := (S.1, S.2.1, S.2.2.1, S.2.2.2.1, fun b j => if b = a then (if j < 50 then f j else sX S b j) else sX S b j, S.2.2.2.2.2)
def upL (f : Nat → Int64) (i : Nat) (v : Int64) : Nat → Int64 := fun j => if j = i then v else f j
theorem upL_at {f : Nat → Int64} {i : Nat} {v : Int64} : upL f i v i = v := if_pos rfl
theorem upL_o {f : Nat → Int64} {i j : Nat} {v : Int64} (h : j ≠ i) : upL f i v j = f j := if_neg h
theorem stA_X {S : JS} {a i : Nat} {f : Nat → Int64} {v : Int64} (h : i < 50) : stX (stA S a f) a i v = stA S a (upL f i v) := by
  unfold stX stA upL
  refine Prod.ext rfl (Prod.ext rfl (Prod.ext rfl (Prod.ext rfl (Prod.ext ?_ rfl))))
  funext b j
  simp only [sX]
  by_cases hb : b = a
  · subst hb
    by_cases hj : j = i
    · subst hj; simp [h]
    · simp [hj]
  · simp [hb]
theorem stA_fl {S : JS} {a : Nat} {v : Int64} : flX S a 50 v = stA S a (fun _ => v) := rfl
theorem stA_at {S : JS} {a j : Nat} {f : Nat → Int64} (h : j < 50) : sX (stA S a f) a j = f j := by
  unfold stA; simp only [sX, if_true]; rw [if_pos h]
theorem stA_o {S : JS} {a b j : Nat} {f : Nat → Int64} (h : b ≠ a) : sX (stA S a f) b j = sX S b j := by
  unfold stA; simp only [sX]; rw [if_neg h]
theorem stA_stA {S : JS} {a : Nat} {f g : Nat → Int64} : stA (stA S a f) a g = stA S a g := by
  unfold stA
  refine Prod.ext rfl (Prod.ext rfl (Prod.ext rfl (Prod.ext rfl (Prod.ext ?_ rfl))))
  funext b j
  simp only [sX]
  by_cases hb : b = a
  · subst hb
    by_cases hj : j < 50
    · simp [hj]
    · simp [hj]
  · simp [hb]
theorem aa_S {Ω : JO} {Y : JM} {F : JF} {k n pc : Nat} {lv : List (Nat × Value)} {st : List Value} {I : JI} {S S' : JS} (h : S = S') (g : AA Ω Y F k n pc lv st I S') : AA Ω Y F k n pc lv st I S := h ▸ g
/-- what is seen of a loom -/
def goY (I : JI) (L : Nat) : Nat → Nat → (Nat → Int64) → Nat → Int64
  | 0, _, f => f
  | m + 1, k, f => goY I L m (k + 1) (upL f (10 + k) (I (L + 10 + 2) k).toInt64)
def goC (I : JI) (L : Nat) : Nat → Nat → (Nat → Int64) → Nat → Int64
  | 0, _, f => f
  | m + 1, k, f => goC I L m (k + 1) (upL (upL f (20 + k) (I (L + 10 + 4) k).toInt64) (24 + k) (bcF (x3_mask I L (I (L + 10 + 3) k))).toInt64)
def goH (I : JI) (L : Nat) : Nat → Nat → (Nat → Int64) → Nat → Int64
  | 0, _, f => f
  | m + 1, k, f => goH I L m (k + 1) (upL f (30 + k) (4 * (I (L + 10 + 1) k).toInt64 + (if bt (I (L + 10) 0) k = true then 2 else 0) + (if bt (I (L + 10) 1) k = true then 1 else 0)))
def goW (I : JI) (L i : Nat) : Nat → Nat → (Nat → Int64) → Nat → Int64
  | 0, _, f => f
  | m + 1, k, f => goW I L i m (k + 1) (upL f 40 (31 * f 40 + 2 * (x3_cell I L (nI i) (nI k)).toInt64 + (if bt (I (L + 10 + 5) i) k = true then 1 else 0)))
def goR (I : JI) (L W : Nat) : Nat → Nat → (Nat → Int64) → Nat → Int64
  | 0, _, f => f
  | m + 1, k, f => goR I L W m (k + 1) (goW I L k W 0 f)
def seeF (I : JI) (L H W : Nat) : Nat → Int64 := goR I L W (rwN I (L + 10)) 0 (goH I L H 0 (goC I L 3 0 (goY I L 6 0 (upL (upL (fun _ => 0) 0 (nI (rwN I (L + 10))).toInt64) 1 (bcF (I (L + 10) 2)).toInt64))))
set_option maxHeartbeats 2000000 in
theorem l_isAnyStuck {Ω : JO} {I : JI} {S : JS} {Q : JQ} {c L P N H W : Nat} (hc : Is8 S c L P) (hi : INV N I c L H W) (hQ : ∀ b, ((∃ h, h < H ∧ bt (I (L + 10) 1) h = true) → b = true) → Q (.inl (some (.int (zb b)))) I S) : ∀ (m : Nat) (j : Nat), j + m = H → (∀ h, h < j → bt (I (L + 10) 1) h = false) → AA Ω m_L_isAnyStuck (FQ Ω m_L_isAnyStuck Q) (3 * j) (18 * j) 2 [(1, .int (nI j)), (0, .ref c)] [] I S := by
  intro m
  induction m with
  | zero =>
    intro j hj hno
    have hw := hi.hw
    refine r_iload_n (pc' := 3) dL_isAnyStuck_2 rfl 0 rfl rfl ?_
    refine r_aload_n (pc' := 4) dL_isAnyStuck_3 rfl 1 rfl rfl ?_
    refine r_callV (pc' := 7) (k' := (3 * j + 1)) (n' := (18 * j + 6)) (nn := 0) (As := []) (rest := [_]) dL_isAnyStuck_4 mb_X8_harnessCount mi_X8_harnessCount hc.o (by decide) rfl lk_L_198 rfl rfl (roomB_mk (by decide) (by decide) (show (3 * j + 0) + 1 ≤ 50 by omega) (show (18 * j + 0) + 6 ≤ 300 by omega)) rfl rfl (Nat.le_of_ble_eq_true rfl) rfl (c_X8_harnessCount hc hc.t (v_harnessCount hi) (cpI ?_))
    refine r_icmp_ge (tgt := 26) (pc' := 10) dL_isAnyStuck_7 rfl rfl (fun h7 => ?_) (fun h7 => ?_)
    · refine aa_widen (k' := 50) (n' := 300) (by omega) (by omega) ?_
      refine r_iconst (pc' := 27) (v := 0) dL_isAnyStuck_26 (by decide) rfl ?_
      exact r_zret dL_isAnyStuck_27 rfl (by first | exact zb01 _ | decide) (by decide) (by decide) (hQ false (fun ⟨h, h1, h2⟩ => by rw [hno h (by omega)] at h2; exact h2))
    · exact absurd (show nI H ≤ nI j from nI_le (by omega) (by omega)) h7
  | succ m ih =>
    intro j hj hno
    have hw := hi.hw
    refine r_iload_n (pc' := 3) dL_isAnyStuck_2 rfl 0 rfl rfl ?_
    refine r_aload_n (pc' := 4) dL_isAnyStuck_3 rfl 1 rfl rfl ?_
    refine r_callV (pc' := 7) (k' := (3 * j + 1)) (n' := (18 * j + 6)) (nn := 0) (As := []) (rest := [_]) dL_isAnyStuck_4 mb_X8_harnessCount mi_X8_harnessCount hc.o (by decide) rfl lk_L_198 rfl rfl (roomB_mk (by decide) (by decide) (show (3 * j + 0) + 1 ≤ 50 by omega) (show (18 * j + 0) + 6 ≤ 300 by omega)) rfl rfl (Nat.le_of_ble_eq_true rfl) rfl (c_X8_harnessCount hc hc.t (v_harnessCount hi) (cpI ?_))
    refine r_icmp_ge (tgt := 26) (pc' := 10) dL_isAnyStuck_7 rfl rfl (fun h7 => ?_) (fun h7 => ?_)
    · exact absurd h7 (show ¬ nI H ≤ nI j from nI_ge (by omega) (by omega))
    · refine r_aload_n (pc' := 11) dL_isAnyStuck_10 rfl 1 rfl rfl ?_
      refine r_iload_n (pc' := 12) dL_isAnyStuck_11 rfl 0 rfl rfl ?_
      refine r_callV (pc' := 15) (k' := (3 * j + 3)) (n' := (18 * j + 18)) (nn := 1) (As := [_]) (rest := []) dL_isAnyStuck_12 mb_X8_isStuck mi_X8_isStuck hc.o (by decide) rfl lk_L_158 rfl rfl (roomB_mk (by decide) (by decide) (show (3 * j + 1) + 2 ≤ 50 by omega) (show (18 * j + 6) + 12 ≤ 300 by omega)) rfl rfl (Nat.le_of_ble_eq_true rfl) rfl (c_X8_isStuck hc hc.t (v_isStuck hi (a := j) (by omega)) (cpI ?_))
      refine r_if_eq (tgt := 20) (pc' := 18) dL_isAnyStuck_15 rfl rfl (fun h15 => ?_) (fun h15 => ?_)
      · refine r_iinc (pc' := 23) (lv' := [(1, _), (0, _)]) dL_isAnyStuck_20 0 rfl rfl (by decide) rfl rfl ?_
        refine r_goto (tgt := 2) dL_isAnyStuck_23 rfl ?_
        refine aa_widen (k' := 3 * (j + 1)) (n' := 18 * (j + 1)) (by omega) (by omega) ?_
        exact aa_lv (lv' := [(1, .int (nI (j + 1))), (0, .ref c)]) (by rw [nI_succ]; rfl) (ih (j + 1) (by omega) (fun h hh => by by_cases e : h = j; subst e; exact zb0 h15; exact hno h (by omega)))
      · refine aa_widen (k' := 50) (n' := 300) (by omega) (by omega) ?_
        refine r_iconst (pc' := 19) (v := 1) dL_isAnyStuck_18 (by decide) rfl ?_
        exact r_zret dL_isAnyStuck_19 rfl (by first | exact zb01 _ | decide) (by decide) (by decide) (hQ true (fun _ => rfl))
set_option maxHeartbeats 2000000 in
theorem c_L_isAnyStuck {Ω : JO} {I : JI} {S : JS} {Q : JQ} {c L P N H W : Nat} (hc : Is8 S c L P) (hi : INV N I c L H W) (hQ : ∀ b, ((∃ h, h < H ∧ bt (I (L + 10) 1) h = true) → b = true) → Q (.inl (some (.int (zb b)))) I S) : Call Ω m_L_isAnyStuck [.ref c] I S Q := by
  refine call_of (by decide +kernel) rfl (Nat.le_of_ble_eq_true rfl) ?_
  change AA Ω m_L_isAnyStuck (FQ Ω m_L_isAnyStuck Q) 0 0 0 [(0, .ref c)] [] I S
  refine r_iconst (pc' := 1) (v := 0) dL_isAnyStuck_0 (by decide) rfl ?_
  refine r_istore_n (pc' := 2) (lv' := [(1, _), (0, _)]) dL_isAnyStuck_1 rfl (by decide) rfl rfl ?_
  exact l_isAnyStuck hc hi hQ H 0 (by omega) (fun h hh => absurd hh (Nat.not_lt_zero h))
def ccs (I : JI) (L W : Nat) : Nat → Nat
  | 0 => 0
  | k + 1 => ccs I L W k + ccT I L W k (rwN I (L + 10))
theorem ccs6 {I : JI} {N L H W : Nat} (hF : FOK I L H W) (g : SOK N I L (L + 10) H W) : ccs I L W 6 = rwN I (L + 10) * W := by
  have h := ccT_sum hF g (rwN I (L + 10)) (Nat.le_refl _)
  simp only [ccs]; omega
set_option maxHeartbeats 2000000 in
theorem l_isWhole {Ω : JO} {I : JI} {S : JS} {Q : JQ} {c L P N H W : Nat} (hc : Is8 S c L P) (hi : INV N I c L H W) (h24 : AA Ω m_L_isWhole (FQ Ω m_L_isWhole Q) 12 72 24 [(1, .int (nI (rwN I (L + 10) * W))), (0, .ref c)] [] I S) : ∀ (m : Nat) (j : Nat), j + m = 6 → AA Ω m_L_isWhole (FQ Ω m_L_isWhole Q) (2 * j + 0) (12 * j + 0) 4 [(2, .int (nI j)), (1, .int (nI (ccs I L W j))), (0, .ref c)] [] I S := by
  intro m
  induction m with
  | zero =>
    intro j hj
    have e6 : j = 6 := by omega
    subst e6
    rw [ccs6 hi.f hi.s]
    refine r_iload_n (pc' := 5) dL_isWhole_4 rfl 0 rfl rfl ?_
    refine r_bipush (pc' := 7) (v := 6) dL_isWhole_5 (by decide) rfl ?_
    refine r_icmp_ge (tgt := 24) (pc' := 10) dL_isWhole_7 rfl rfl (fun h7 => ?_) (fun h7 => ?_)
    · refine aa_locs (ks := [1, 2]) (lv' := [(1, _), (0, _)]) rfl ?_
      exact h24
    · exact absurd (show (6 : Int32) ≤ nI 6 by decide) h7
  | succ m ih =>
    intro j hj
    refine r_iload_n (pc' := 5) dL_isWhole_4 rfl 0 rfl rfl ?_
    refine r_bipush (pc' := 7) (v := 6) dL_isWhole_5 (by decide) rfl ?_
    refine r_icmp_ge (tgt := 24) (pc' := 10) dL_isWhole_7 rfl rfl (fun h7 => ?_) (fun h7 => ?_)
    · exact absurd h7 (show ¬ nI 6 ≤ nI j from nI_ge (by omega) (by decide))
    · refine r_iload_n (pc' := 11) dL_isWhole_10 rfl 1 rfl rfl ?_
      refine r_aload_n (pc' := 12) dL_isWhole_11 rfl 2 rfl rfl ?_
      refine r_iload_n (pc' := 13) dL_isWhole_12 rfl 0 rfl rfl ?_
      refine r_callV (pc' := 16) (k' := (2 * j + 2)) (n' := (12 * j + 12)) (nn := 1) (As := [_]) (rest := [_]) dL_isWhole_13 mb_X8_cellsOfColour mi_X8_cellsOfColour hc.o (by decide) rfl lk_L_289 rfl rfl (roomB_mk (by decide) (by decide) (show (2 * j + 0) + 2 ≤ 200 by omega) (show (12 * j + 0) + 12 ≤ 1200 by omega)) rfl rfl (Nat.le_of_ble_eq_true rfl) rfl (c_X8_cellsOfColour hc hc.t (v_cellsOfColour hi (a := j) (by omega)) (cpI ?_))
      refine r_iaddv (pc' := 17) dL_isWhole_16 (nI_add (ccs I L W j) (ccT I L W j (rwN I (L + 10)))) rfl ?_
      refine r_istore_n (pc' := 18) (lv' := [(1, _), (2, _), (0, _)]) dL_isWhole_17 rfl (by decide) rfl rfl ?_
      refine r_iinc (pc' := 21) (lv' := [(2, _), (1, _), (0, _)]) dL_isWhole_18 1 rfl rfl (by decide) rfl rfl ?_
      refine r_goto (tgt := 4) dL_isWhole_21 rfl ?_
      refine aa_widen (k' := 2 * (j + 1)) (n' := 12 * (j + 1)) (by omega) (by omega) ?_
      exact aa_lv (lv' := [(2, .int (nI (j + 1))), (1, .int (nI (ccs I L W (j + 1)))), (0, .ref c)]) (by rw [nI_succ]; rfl) (ih (j + 1) (by omega))
set_option maxHeartbeats 2000000 in
theorem l_isWhole3 {Ω : JO} {I : JI} {S : JS} {Q : JQ} {c L P N H W : Nat} (hc : Is8 S c L P) (hi : INV N I c L H W) (hQ : ∀ J, (∀ z, z < c + 21 ∨ c + 28 ≤ z → J z = I z) → Q (.inl (some (.int 1))) J S) (x y : Int32) : AA Ω m_L_isWhole (FQ Ω m_L_isWhole Q) 30 180 99 [(2, .int x), (1, .int y), (0, .ref c)] [] I S := by
  have h6 := hi.r6
  have e := hi.e
  obtain ⟨p, p1, p2⟩ := v_rowPeriod (P := P) hi
  obtain ⟨J1, j1, j2⟩ := v_possible (P := P) hi
  have hi1 := hi.fr j2
  obtain ⟨J2, k1, k2⟩ := v_possible (P := P) hi1
  have hi2 := hi1.fr k2
  have w1 := wuN_le (L := L) (s := L + 10) 60 I
  have w2 := wuN_le (L := L) (s := L + 10) 60 J1
  have eo : x3_obst J2 L (L + 10) = x3_obst J1 L (L + 10) := SE.obst (fun k j hk hj => by rw [k2 _ (by omega)]) (fun z z1 z2 => k2 z (by omega))
  have hq := hQ J2 fun z hz => (k2 z hz).trans (j2 z hz)
  have hz := poss0 (I := J1) (L := L) (s := L + 10)
  have hor := obst_or (I := J1) (L := L) (s := L + 10)
  by_cases ho : x3_obst J1 L (L + 10) = 0
  · refine r_aload_n (pc' := 100) dL_isWhole_99 rfl 2 rfl rfl ?_
    refine r_callV (pc' := 103) (k' := 31) (n' := 186) (nn := 0) (As := []) (rest := []) dL_isWhole_100 mb_X8_rowPeriod mi_X8_rowPeriod hc.o (by decide) rfl lk_L_304 rfl rfl rfl rfl rfl (Nat.le_of_ble_eq_true rfl) rfl (c_X8_rowPeriod hc hc.t (p2) (cpI ?_))
    refine r_aload_n (pc' := 104) dL_isWhole_103 rfl 2 rfl rfl ?_
    refine r_callV (pc' := 107) (k' := 32) (n' := 192) (nn := 0) (As := []) (rest := [_]) dL_isWhole_104 mb_X8_rowCount mi_X8_rowCount hc.o (by decide) rfl lk_L_195 rfl rfl rfl rfl rfl (Nat.le_of_ble_eq_true rfl) rfl (c_X8_rowCount hc hc.t (v_rowCount hi) (cpI ?_))
    refine r_icmp_le (tgt := 112) (pc' := 110) dL_isWhole_107 rfl rfl (fun h107 => ?_) (fun h107 => ?_)
    · refine r_aload_n (pc' := 113) dL_isWhole_112 rfl 2 rfl rfl ?_
      refine r_callV (pc' := 116) (k' := 33) (n' := 198) (nn := 0) (As := []) (rest := []) dL_isWhole_113 mb_X8_imbalance mi_X8_imbalance hc.o (by decide) rfl lk_L_204 rfl rfl rfl rfl rfl (Nat.le_of_ble_eq_true rfl) rfl (c_X8_imbalance hc hc.t (v_imbalance hi) (cpI ?_))
      refine r_if_ne (tgt := 157) (pc' := 119) dL_isWhole_116 rfl rfl (fun h116 => ?_) (fun h116 => ?_)
      · exact absurd rfl h116
      · refine r_aload_n (pc' := 120) dL_isWhole_119 rfl 2 rfl rfl ?_
        refine r_callV (pc' := 123) (k' := 34) (n' := 204) (nn := 0) (As := []) (rest := []) dL_isWhole_120 mb_X8_picksPossible mi_X8_picksPossible hc.o (by decide) rfl lk_L_234 rfl rfl rfl rfl rfl (Nat.le_of_ble_eq_true rfl) rfl (c_X8_picksPossible hc hc.t (j1) (cpI ?_))
        refine r_if_lt (tgt := 157) (pc' := 126) dL_isWhole_123 rfl rfl (fun h123 => ?_) (fun h123 => ?_)
        · exact absurd h123 (nI_nlt (b := 0) (Nat.zero_le _) (by omega))
        · refine r_aload_n (pc' := 127) dL_isWhole_126 rfl 2 rfl rfl ?_
          refine r_callV (pc' := 130) (k' := 35) (n' := 210) (nn := 0) (As := []) (rest := []) dL_isWhole_127 mb_X8_picksPossible mi_X8_picksPossible hc.o (by decide) rfl lk_L_234 rfl rfl rfl rfl rfl (Nat.le_of_ble_eq_true rfl) rfl (c_X8_picksPossible hc hc.t (k1) (cpI ?_))
          refine r_if_ne (tgt := 137) (pc' := 133) dL_isWhole_130 rfl rfl (fun h130 => ?_) (fun h130 => ?_)
          · refine r_iconst (pc' := 138) (v := 0) dL_isWhole_137 (by decide) rfl ?_
            refine r_aload_n (pc' := 139) dL_isWhole_138 rfl 2 rfl rfl ?_
            refine r_callV (pc' := 142) (k' := 36) (n' := 216) (nn := 0) (As := []) (rest := [_]) dL_isWhole_139 mb_X8_weaveObstacle mi_X8_weaveObstacle hc.o (by decide) rfl lk_L_268 rfl rfl rfl rfl rfl (Nat.le_of_ble_eq_true rfl) rfl (c_X8_weaveObstacle hc hc.t (v_weaveObstacle hi2) (cpI ?_))
            refine r_if_le (tgt := 149) (pc' := 145) dL_isWhole_142 rfl rfl (fun h142 => ?_) (fun h142 => ?_)
            · refine r_iconst (pc' := 150) (v := 0) dL_isWhole_149 (by decide) rfl ?_
              refine r_icmp_ne (tgt := 157) (pc' := 153) dL_isWhole_150 rfl rfl (fun h150 => ?_) (fun h150 => ?_)
              · exact absurd rfl h150
              · refine r_iconst (pc' := 154) (v := 1) dL_isWhole_153 (by decide) rfl ?_
                refine r_goto (tgt := 158) dL_isWhole_154 rfl ?_
                exact r_zret dL_isWhole_158 rfl (by first | exact zb01 _ | decide) (by decide) (by decide) (hq)
            · exact absurd (show x3_obst J2 L (L + 10) ≤ 0 by rw [eo, ho]; decide) h142
          · exact absurd ((nI_eq (by omega) (by decide)).mp h130) (fun q => (hz.mp q) ho)
    · exact absurd (nI_le p1 (by omega)) h107
  · refine r_aload_n (pc' := 100) dL_isWhole_99 rfl 2 rfl rfl ?_
    refine r_callV (pc' := 103) (k' := 31) (n' := 186) (nn := 0) (As := []) (rest := []) dL_isWhole_100 mb_X8_rowPeriod mi_X8_rowPeriod hc.o (by decide) rfl lk_L_304 rfl rfl rfl rfl rfl (Nat.le_of_ble_eq_true rfl) rfl (c_X8_rowPeriod hc hc.t (p2) (cpI ?_))
    refine r_aload_n (pc' := 104) dL_isWhole_103 rfl 2 rfl rfl ?_
    refine r_callV (pc' := 107) (k' := 32) (n' := 192) (nn := 0) (As := []) (rest := [_]) dL_isWhole_104 mb_X8_rowCount mi_X8_rowCount hc.o (by decide) rfl lk_L_195 rfl rfl rfl rfl rfl (Nat.le_of_ble_eq_true rfl) rfl (c_X8_rowCount hc hc.t (v_rowCount hi) (cpI ?_))
    refine r_icmp_le (tgt := 112) (pc' := 110) dL_isWhole_107 rfl rfl (fun h107 => ?_) (fun h107 => ?_)
    · refine r_aload_n (pc' := 113) dL_isWhole_112 rfl 2 rfl rfl ?_
      refine r_callV (pc' := 116) (k' := 33) (n' := 198) (nn := 0) (As := []) (rest := []) dL_isWhole_113 mb_X8_imbalance mi_X8_imbalance hc.o (by decide) rfl lk_L_204 rfl rfl rfl rfl rfl (Nat.le_of_ble_eq_true rfl) rfl (c_X8_imbalance hc hc.t (v_imbalance hi) (cpI ?_))
      refine r_if_ne (tgt := 157) (pc' := 119) dL_isWhole_116 rfl rfl (fun h116 => ?_) (fun h116 => ?_)
      · exact absurd rfl h116
      · refine r_aload_n (pc' := 120) dL_isWhole_119 rfl 2 rfl rfl ?_
        refine r_callV (pc' := 123) (k' := 34) (n' := 204) (nn := 0) (As := []) (rest := []) dL_isWhole_120 mb_X8_picksPossible mi_X8_picksPossible hc.o (by decide) rfl lk_L_234 rfl rfl rfl rfl rfl (Nat.le_of_ble_eq_true rfl) rfl (c_X8_picksPossible hc hc.t (j1) (cpI ?_))
        refine r_if_lt (tgt := 157) (pc' := 126) dL_isWhole_123 rfl rfl (fun h123 => ?_) (fun h123 => ?_)
        · exact absurd h123 (nI_nlt (b := 0) (Nat.zero_le _) (by omega))
        · refine r_aload_n (pc' := 127) dL_isWhole_126 rfl 2 rfl rfl ?_
          refine r_callV (pc' := 130) (k' := 35) (n' := 210) (nn := 0) (As := []) (rest := []) dL_isWhole_127 mb_X8_picksPossible mi_X8_picksPossible hc.o (by decide) rfl lk_L_234 rfl rfl rfl rfl rfl (Nat.le_of_ble_eq_true rfl) rfl (c_X8_picksPossible hc hc.t (k1) (cpI ?_))
          refine r_if_ne (tgt := 137) (pc' := 133) dL_isWhole_130 rfl rfl (fun h130 => ?_) (fun h130 => ?_)
          · exact absurd (show nI (wuN L (L + 10) 60 J1) = 0 by rw [hz.mpr ho]; rfl) h130
          · refine r_iconst (pc' := 134) (v := 1) dL_isWhole_133 (by decide) rfl ?_
            refine r_goto (tgt := 138) dL_isWhole_134 rfl ?_
            refine r_aload_n (pc' := 139) dL_isWhole_138 rfl 2 rfl rfl ?_
            refine r_callV (pc' := 142) (k' := 36) (n' := 216) (nn := 0) (As := []) (rest := [_]) dL_isWhole_139 mb_X8_weaveObstacle mi_X8_weaveObstacle hc.o (by decide) rfl lk_L_268 rfl rfl rfl rfl rfl (Nat.le_of_ble_eq_true rfl) rfl (c_X8_weaveObstacle hc hc.t (v_weaveObstacle hi2) (cpI ?_))
            refine r_if_le (tgt := 149) (pc' := 145) dL_isWhole_142 rfl rfl (fun h142 => ?_) (fun h142 => ?_)
            · exact absurd h142 (by rw [eo]; rcases hor with q | q | q | q | q; exact absurd q ho; all_goals rw [q]; decide)
            · refine r_iconst (pc' := 146) (v := 1) dL_isWhole_145 (by decide) rfl ?_
              refine r_goto (tgt := 150) dL_isWhole_146 rfl ?_
              refine r_icmp_ne (tgt := 157) (pc' := 153) dL_isWhole_150 rfl rfl (fun h150 => ?_) (fun h150 => ?_)
              · exact absurd rfl h150
              · refine r_iconst (pc' := 154) (v := 1) dL_isWhole_153 (by decide) rfl ?_
                refine r_goto (tgt := 158) dL_isWhole_154 rfl ?_
                exact r_zret dL_isWhole_158 rfl (by first | exact zb01 _ | decide) (by decide) (by decide) (hq)
    · exact absurd (nI_le p1 (by omega)) h107
set_option maxHeartbeats 2000000 in
theorem l_isWhole2 {Ω : JO} {I : JI} {S : JS} {Q : JQ} {c L P N H W : Nat} (hc : Is8 S c L P) (hi : INV N I c L H W) (hQ : ∀ J, (∀ z, z < c + 21 ∨ c + 28 ≤ z → J z = I z) → Q (.inl (some (.int 1))) J S) (x y : Int32) : AA Ω m_L_isWhole (FQ Ω m_L_isWhole Q) 20 120 80 [(2, .int x), (1, .int y), (0, .ref c)] [] I S := by
  have hp : (if x3_pair I L = -1 then -1 else x3_pair I L / 12) = -1 ∨ (if x3_pair I L = -1 then -1 else x3_pair I L / 12) < (if x3_pair I L = -1 then -1 else x3_pair I L - x3_pair I L / 12 * 12) := by
    rcases pair_or hi.f with q | ⟨-, a, b, h1, h2, h3⟩
    · exact Or.inl (if_pos q)
    · obtain ⟨g1, g2, g3⟩ := pair_f h1 h2
      rw [h3, if_neg g1, if_neg g1, g3, g2]
      exact Or.inr (nI_lt h1 (by omega))
  refine r_aload_n (pc' := 81) dL_isWhole_80 rfl 2 rfl rfl ?_
  refine r_callV (pc' := 84) (k' := 21) (n' := 126) (nn := 0) (As := []) (rest := []) dL_isWhole_81 mb_X8_swapFirst mi_X8_swapFirst hc.o (by decide) rfl lk_L_298 rfl rfl rfl rfl rfl (Nat.le_of_ble_eq_true rfl) rfl (c_X8_swapFirst hc hc.t (v_swapFirst hi) (cpI ?_))
  refine r_aload_n (pc' := 85) dL_isWhole_84 rfl 2 rfl rfl ?_
  refine r_callV (pc' := 88) (k' := 22) (n' := 132) (nn := 0) (As := []) (rest := [_]) dL_isWhole_85 mb_X8_swapSecond mi_X8_swapSecond hc.o (by decide) rfl lk_L_301 rfl rfl rfl rfl rfl (Nat.le_of_ble_eq_true rfl) rfl (c_X8_swapSecond hc hc.t (v_swapSecond hi) (cpI ?_))
  refine r_icmp_lt (tgt := 99) (pc' := 91) dL_isWhole_88 rfl rfl (fun h88 => ?_) (fun h88 => ?_)
  · refine aa_widen (k' := 30) (n' := 180) (by decide) (by decide) ?_
    exact l_isWhole3 hc hi hQ _ _
  · refine r_aload_n (pc' := 92) dL_isWhole_91 rfl 2 rfl rfl ?_
    refine r_callV (pc' := 95) (k' := 23) (n' := 138) (nn := 0) (As := []) (rest := []) dL_isWhole_92 mb_X8_swapFirst mi_X8_swapFirst hc.o (by decide) rfl lk_L_298 rfl rfl rfl rfl rfl (Nat.le_of_ble_eq_true rfl) rfl (c_X8_swapFirst hc hc.t (v_swapFirst hi) (cpI ?_))
    refine r_iconst (pc' := 96) (v := -1) dL_isWhole_95 (by decide) rfl ?_
    refine r_icmp_ne (tgt := 110) (pc' := 99) dL_isWhole_96 rfl rfl (fun h96 => ?_) (fun h96 => ?_)
    · exact absurd (hp.elim id fun q => absurd q h88) h96
    · refine aa_widen (k' := 30) (n' := 180) (by decide) (by decide) ?_
      exact l_isWhole3 hc hi hQ _ _
set_option maxHeartbeats 2000000 in
theorem l_isWhole1 {Ω : JO} {I : JI} {S : JS} {Q : JQ} {c L P N H W : Nat} (hc : Is8 S c L P) (hi : INV N I c L H W) (hQ : ∀ J, (∀ z, z < c + 21 ∨ c + 28 ≤ z → J z = I z) → Q (.inl (some (.int 1))) J S) : AA Ω m_L_isWhole (FQ Ω m_L_isWhole Q) 12 72 24 [(1, .int (nI (rwN I (L + 10) * W))), (0, .ref c)] [] I S := by
  have hf : (fwF I L (rwN I (L + 10)) 0 = -1 ∧ cwF I L (rwN I (L + 10)) = 0 ∧ x3_pair I L = -1) ∨ (0 ≤ fwF I L (rwN I (L + 10)) 0 ∧ ¬ cwF I L (rwN I (L + 10)) = 0) := by
    rcases fw_cw (I := I) (L := L) hi.r6 with ⟨h1, h2⟩ | ⟨k, h1, h2, h3⟩
    · refine Or.inl ⟨h1, h2, ?_⟩
      rcases pair_or hi.f with q | ⟨q, -⟩
      · exact q
      · exact absurd h1 q
    · have := hi.r6
      exact Or.inr ⟨by rw [h2]; exact nI_le (a := 0) (Nat.zero_le _) (by omega), h3⟩
  rcases hf with ⟨f1, f2, f3⟩ | ⟨f1, f2⟩
  · refine r_aload_n (pc' := 25) dL_isWhole_24 rfl 1 rfl rfl ?_
    refine r_callV (pc' := 28) (k' := 13) (n' := 78) (nn := 0) (As := []) (rest := []) dL_isWhole_25 mb_X8_firstWrongRow mi_X8_firstWrongRow hc.o (by decide) rfl lk_L_292 rfl rfl rfl rfl rfl (Nat.le_of_ble_eq_true rfl) rfl (c_X8_firstWrongRow hc hc.t (v_firstWrongRow hi) (cpI ?_))
    refine r_istore_n (pc' := 29) (lv' := [(2, _), (1, _), (0, _)]) dL_isWhole_28 rfl (by decide) rfl rfl ?_
    refine r_iload_n (pc' := 30) dL_isWhole_29 rfl 1 rfl rfl ?_
    refine r_aload_n (pc' := 31) dL_isWhole_30 rfl 2 rfl rfl ?_
    refine r_callV (pc' := 34) (k' := 14) (n' := 84) (nn := 0) (As := []) (rest := [_]) dL_isWhole_31 mb_X8_rowCount mi_X8_rowCount hc.o (by decide) rfl lk_L_195 rfl rfl rfl rfl rfl (Nat.le_of_ble_eq_true rfl) rfl (c_X8_rowCount hc hc.t (v_rowCount hi) (cpI ?_))
    refine r_aload_n (pc' := 35) dL_isWhole_34 rfl 2 rfl rfl ?_
    refine r_callV (pc' := 38) (k' := 15) (n' := 90) (nn := 0) (As := []) (rest := [_, _]) dL_isWhole_35 mb_X8_warpCount mi_X8_warpCount hc.o (by decide) rfl lk_L_201 rfl rfl rfl rfl rfl (Nat.le_of_ble_eq_true rfl) rfl (c_X8_warpCount hc hc.t (v_warpCount hi) (cpI ?_))
    refine r_imulv (pc' := 39) dL_isWhole_38 (nI_mul _ _) rfl ?_
    refine r_icmp_ne (tgt := 78) (pc' := 42) dL_isWhole_39 rfl rfl (fun h39 => ?_) (fun h39 => ?_)
    · exact absurd rfl h39
    · refine r_iload_n (pc' := 43) dL_isWhole_42 rfl 0 rfl rfl ?_
      refine r_if_ge (tgt := 50) (pc' := 46) dL_isWhole_43 rfl rfl (fun h43 => ?_) (fun h43 => ?_)
      · exact absurd h43 (by rw [f1]; decide)
      · refine r_iconst (pc' := 47) (v := 1) dL_isWhole_46 (by decide) rfl ?_
        refine r_goto (tgt := 51) dL_isWhole_47 rfl ?_
        refine r_aload_n (pc' := 52) dL_isWhole_51 rfl 2 rfl rfl ?_
        refine r_callV (pc' := 55) (k' := 16) (n' := 96) (nn := 0) (As := []) (rest := [_]) dL_isWhole_52 mb_X8_wrongCount mi_X8_wrongCount hc.o (by decide) rfl lk_L_295 rfl rfl rfl rfl rfl (Nat.le_of_ble_eq_true rfl) rfl (c_X8_wrongCount hc hc.t (v_wrongCount hi) (cpI ?_))
        refine r_if_ne (tgt := 62) (pc' := 58) dL_isWhole_55 rfl rfl (fun h55 => ?_) (fun h55 => ?_)
        · exact absurd f2 h55
        · refine r_iconst (pc' := 59) (v := 1) dL_isWhole_58 (by decide) rfl ?_
          refine r_goto (tgt := 63) dL_isWhole_59 rfl ?_
          refine r_icmp_ne (tgt := 78) (pc' := 66) dL_isWhole_63 rfl rfl (fun h63 => ?_) (fun h63 => ?_)
          · exact absurd rfl h63
          · refine r_iload_n (pc' := 67) dL_isWhole_66 rfl 0 rfl rfl ?_
            refine r_if_ge (tgt := 80) (pc' := 70) dL_isWhole_67 rfl rfl (fun h67 => ?_) (fun h67 => ?_)
            · exact absurd h67 (by rw [f1]; decide)
            · refine r_aload_n (pc' := 71) dL_isWhole_70 rfl 2 rfl rfl ?_
              refine r_callV (pc' := 74) (k' := 17) (n' := 102) (nn := 0) (As := []) (rest := []) dL_isWhole_71 mb_X8_swapFirst mi_X8_swapFirst hc.o (by decide) rfl lk_L_298 rfl rfl rfl rfl rfl (Nat.le_of_ble_eq_true rfl) rfl (c_X8_swapFirst hc hc.t (v_swapFirst hi) (cpI ?_))
              refine r_iconst (pc' := 75) (v := -1) dL_isWhole_74 (by decide) rfl ?_
              refine r_icmp_eq (tgt := 80) (pc' := 78) dL_isWhole_75 rfl rfl (fun h75 => ?_) (fun h75 => ?_)
              · refine aa_widen (k' := 20) (n' := 120) (by decide) (by decide) ?_
                exact l_isWhole2 hc hi hQ _ _
              · exact absurd (if_pos f3) h75
  · refine r_aload_n (pc' := 25) dL_isWhole_24 rfl 1 rfl rfl ?_
    refine r_callV (pc' := 28) (k' := 13) (n' := 78) (nn := 0) (As := []) (rest := []) dL_isWhole_25 mb_X8_firstWrongRow mi_X8_firstWrongRow hc.o (by decide) rfl lk_L_292 rfl rfl rfl rfl rfl (Nat.le_of_ble_eq_true rfl) rfl (c_X8_firstWrongRow hc hc.t (v_firstWrongRow hi) (cpI ?_))
    refine r_istore_n (pc' := 29) (lv' := [(2, _), (1, _), (0, _)]) dL_isWhole_28 rfl (by decide) rfl rfl ?_
    refine r_iload_n (pc' := 30) dL_isWhole_29 rfl 1 rfl rfl ?_
    refine r_aload_n (pc' := 31) dL_isWhole_30 rfl 2 rfl rfl ?_
    refine r_callV (pc' := 34) (k' := 14) (n' := 84) (nn := 0) (As := []) (rest := [_]) dL_isWhole_31 mb_X8_rowCount mi_X8_rowCount hc.o (by decide) rfl lk_L_195 rfl rfl rfl rfl rfl (Nat.le_of_ble_eq_true rfl) rfl (c_X8_rowCount hc hc.t (v_rowCount hi) (cpI ?_))
    refine r_aload_n (pc' := 35) dL_isWhole_34 rfl 2 rfl rfl ?_
    refine r_callV (pc' := 38) (k' := 15) (n' := 90) (nn := 0) (As := []) (rest := [_, _]) dL_isWhole_35 mb_X8_warpCount mi_X8_warpCount hc.o (by decide) rfl lk_L_201 rfl rfl rfl rfl rfl (Nat.le_of_ble_eq_true rfl) rfl (c_X8_warpCount hc hc.t (v_warpCount hi) (cpI ?_))
    refine r_imulv (pc' := 39) dL_isWhole_38 (nI_mul _ _) rfl ?_
    refine r_icmp_ne (tgt := 78) (pc' := 42) dL_isWhole_39 rfl rfl (fun h39 => ?_) (fun h39 => ?_)
    · exact absurd rfl h39
    · refine r_iload_n (pc' := 43) dL_isWhole_42 rfl 0 rfl rfl ?_
      refine r_if_ge (tgt := 50) (pc' := 46) dL_isWhole_43 rfl rfl (fun h43 => ?_) (fun h43 => ?_)
      · refine r_iconst (pc' := 51) (v := 0) dL_isWhole_50 (by decide) rfl ?_
        refine r_aload_n (pc' := 52) dL_isWhole_51 rfl 2 rfl rfl ?_
        refine r_callV (pc' := 55) (k' := 16) (n' := 96) (nn := 0) (As := []) (rest := [_]) dL_isWhole_52 mb_X8_wrongCount mi_X8_wrongCount hc.o (by decide) rfl lk_L_295 rfl rfl rfl rfl rfl (Nat.le_of_ble_eq_true rfl) rfl (c_X8_wrongCount hc hc.t (v_wrongCount hi) (cpI ?_))
        refine r_if_ne (tgt := 62) (pc' := 58) dL_isWhole_55 rfl rfl (fun h55 => ?_) (fun h55 => ?_)
        · refine r_iconst (pc' := 63) (v := 0) dL_isWhole_62 (by decide) rfl ?_
          refine r_icmp_ne (tgt := 78) (pc' := 66) dL_isWhole_63 rfl rfl (fun h63 => ?_) (fun h63 => ?_)
          · exact absurd rfl h63
          · refine r_iload_n (pc' := 67) dL_isWhole_66 rfl 0 rfl rfl ?_
            refine r_if_ge (tgt := 80) (pc' := 70) dL_isWhole_67 rfl rfl (fun h67 => ?_) (fun h67 => ?_)
            · refine aa_widen (k' := 20) (n' := 120) (by decide) (by decide) ?_
              exact l_isWhole2 hc hi hQ _ _
            · exact absurd f1 h67
        · exact absurd h55 f2
      · exact absurd f1 h43
set_option maxHeartbeats 2000000 in
theorem c_L_isWhole {Ω : JO} {I : JI} {S : JS} {Q : JQ} {c L P N H W : Nat} (hc : Is8 S c L P) (hi : INV N I c L H W) (hQ : ∀ J, (∀ z, z < c + 21 ∨ c + 28 ≤ z → J z = I z) → Q (.inl (some (.int 1))) J S) : Call Ω m_L_isWhole [.ref c] I S Q := by
  refine call_of (by decide +kernel) rfl (Nat.le_of_ble_eq_true rfl) ?_
  change AA Ω m_L_isWhole (FQ Ω m_L_isWhole Q) 0 0 0 [(0, .ref c)] [] I S
  refine r_iconst (pc' := 1) (v := 0) dL_isWhole_0 (by decide) rfl ?_
  refine r_istore_n (pc' := 2) (lv' := [(1, _), (0, _)]) dL_isWhole_1 rfl (by decide) rfl rfl ?_
  refine r_iconst (pc' := 3) (v := 0) dL_isWhole_2 (by decide) rfl ?_
  refine r_istore_n (pc' := 4) (lv' := [(2, _), (1, _), (0, _)]) dL_isWhole_3 rfl (by decide) rfl rfl ?_
  exact l_isWhole hc hi (l_isWhole1 hc hi hQ) 6 0 (by decide)
set_option maxHeartbeats 2000000 in
theorem l_seesY {Ω : JO} {I : JI} {S : JS} {Q : JQ} {c L P N H W a : Nat} (hc : ∀ f, Is8 (stA S a f) c L P) (hA : ∀ f, ArE 14 (stA S a f) a 50) (hi : INV N I c L H W)  : ∀ (m : Nat) (j : Nat) (f : Nat → Int64), j + m = 6 → (AA Ω m_L_sees (FQ Ω m_L_sees Q) (2 + 2 * (6 + 1)) (12 + 12 * (6 + 1)) 47 [(2, .int (nI (6))), (0, .ref c), (1, .ref a)] [] I (stA S a (goY I L m j f))) → AA Ω m_L_sees (FQ Ω m_L_sees Q) (2 + 2 * j) (12 + 12 * j) 23 [(2, .int (nI j)), (0, .ref c), (1, .ref a)] [] I (stA S a f) := by
  intro m
  induction m with
  | zero =>
    intro j f hj hk
    have e9 : j = 6 := by omega
    have hw := hi.hw
    have h6 := hi.r6
    refine r_iload_n (pc' := 24) dL_sees_23 rfl 0 rfl rfl ?_
    refine r_bipush (pc' := 26) (v := 6) dL_sees_24 (by decide) rfl ?_
    refine r_icmp_ge (tgt := 47) (pc' := 29) dL_sees_26 rfl rfl (fun h26 => ?_) (fun h26 => ?_)
    · refine aa_widen (k' := 2 + 2 * (6 + 1)) (n' := 12 + 12 * (6 + 1)) (by omega) (by omega) ?_
      rw [e9]
      exact hk
    · exact absurd (show nI 6 ≤ nI j from nI_le (by omega) (by omega)) h26
  | succ m ih =>
    intro j f hj hk
    have hw := hi.hw
    have h6 := hi.r6
    refine r_iload_n (pc' := 24) dL_sees_23 rfl 0 rfl rfl ?_
    refine r_bipush (pc' := 26) (v := 6) dL_sees_24 (by decide) rfl ?_
    refine r_icmp_ge (tgt := 47) (pc' := 29) dL_sees_26 rfl rfl (fun h26 => ?_) (fun h26 => ?_)
    · exact absurd h26 (show ¬ nI 6 ≤ nI j from nI_ge (by omega) (by decide))
    · refine r_aload_n (pc' := 30) dL_sees_29 rfl 2 rfl rfl ?_
      refine r_bipush (pc' := 32) (v := 10) dL_sees_30 (by decide) rfl ?_
      refine r_iload_n (pc' := 33) dL_sees_32 rfl 0 rfl rfl ?_
      refine r_iaddv (pc' := 34) dL_sees_33 (nI_add 10 j) rfl ?_
      refine r_aload_n (pc' := 35) dL_sees_34 rfl 1 rfl rfl ?_
      refine r_iload_n (pc' := 36) dL_sees_35 rfl 0 rfl rfl ?_
      refine r_callV (pc' := 39) (k' := (2 + 2 * j + 2)) (n' := (12 + 12 * j + 12)) (nn := 1) (As := [_]) (rest := [_, _]) dL_sees_36 mb_X8_yarn mi_X8_yarn (hc _).o (by decide) rfl lk_L_173 rfl rfl (roomB_mk (by decide) (by decide) (show (2 + 2 * j + 0) + 2 ≤ 6000 by omega) (show (12 + 12 * j + 0) + 12 ≤ 40000 by omega)) rfl rfl (Nat.le_of_ble_eq_true rfl) rfl (c_X8_yarn (hc _) (hc _).t (v_yarn hi (a := j) (by omega)) (cpI ?_))
      refine r_i2l (pc' := 40) dL_sees_39 rfl ?_
      refine r_lastN (pc' := 41) (d := 10 + j) dL_sees_40 (hA _) rfl (by omega) (by decide) rfl ?_
      refine aa_S (stA_X (by omega)) ?_
      refine r_iinc (pc' := 44) (lv' := [(2, _), (0, _), (1, _)]) dL_sees_41 0 rfl rfl (by decide) rfl rfl ?_
      refine r_goto (tgt := 23) dL_sees_44 rfl ?_
      refine aa_widen (k' := 2 + 2 * (j + 1)) (n' := 12 + 12 * (j + 1)) (by omega) (by omega) ?_
      exact aa_lv (lv' := [(2, .int (nI (j + 1))), (0, .ref c), (1, .ref a)]) (by rw [nI_succ]; rfl) (ih (j + 1) _ (by omega) hk)
set_option maxHeartbeats 2000000 in
theorem l_seesC {Ω : JO} {I : JI} {S : JS} {Q : JQ} {c L P N H W a : Nat} (hc : ∀ f, Is8 (stA S a f) c L P) (hA : ∀ f, ArE 14 (stA S a f) a 50) (hi : INV N I c L H W)  : ∀ (m : Nat) (j : Nat) (f : Nat → Int64), j + m = 3 → (AA Ω m_L_sees (FQ Ω m_L_sees Q) (16 + 5 * (3 + 1)) (96 + 30 * (3 + 1)) 87 [(2, .int (nI (3))), (0, .ref c), (1, .ref a)] [] I (stA S a (goC I L m j f))) → AA Ω m_L_sees (FQ Ω m_L_sees Q) (16 + 5 * j) (96 + 30 * j) 49 [(2, .int (nI j)), (0, .ref c), (1, .ref a)] [] I (stA S a f) := by
  intro m
  induction m with
  | zero =>
    intro j f hj hk
    have e9 : j = 3 := by omega
    have hw := hi.hw
    have h6 := hi.r6
    refine r_iload_n (pc' := 50) dL_sees_49 rfl 0 rfl rfl ?_
    refine r_aload_n (pc' := 51) dL_sees_50 rfl 1 rfl rfl ?_
    refine r_callV (pc' := 54) (k' := (16 + 5 * j + 1)) (n' := (96 + 30 * j + 6)) (nn := 0) (As := []) (rest := [_]) dL_sees_51 mb_X8_cardCount mi_X8_cardCount (hc _).o (by decide) rfl lk_L_314 rfl rfl (roomB_mk (by decide) (by decide) (show (16 + 5 * j + 0) + 1 ≤ 6000 by omega) (show (96 + 30 * j + 0) + 6 ≤ 40000 by omega)) rfl rfl (Nat.le_of_ble_eq_true rfl) rfl (c_X8_cardCount (hc _) (hc _).t (v_cardCount hi) (cpI ?_))
    refine r_icmp_ge (tgt := 87) (pc' := 57) dL_sees_54 rfl rfl (fun h54 => ?_) (fun h54 => ?_)
    · refine aa_widen (k' := 16 + 5 * (3 + 1)) (n' := 96 + 30 * (3 + 1)) (by omega) (by omega) ?_
      rw [e9]
      exact hk
    · exact absurd (show nI 3 ≤ nI j from nI_le (by omega) (by omega)) h54
  | succ m ih =>
    intro j f hj hk
    have hw := hi.hw
    have h6 := hi.r6
    refine r_iload_n (pc' := 50) dL_sees_49 rfl 0 rfl rfl ?_
    refine r_aload_n (pc' := 51) dL_sees_50 rfl 1 rfl rfl ?_
    refine r_callV (pc' := 54) (k' := (16 + 5 * j + 1)) (n' := (96 + 30 * j + 6)) (nn := 0) (As := []) (rest := [_]) dL_sees_51 mb_X8_cardCount mi_X8_cardCount (hc _).o (by decide) rfl lk_L_314 rfl rfl (roomB_mk (by decide) (by decide) (show (16 + 5 * j + 0) + 1 ≤ 6000 by omega) (show (96 + 30 * j + 0) + 6 ≤ 40000 by omega)) rfl rfl (Nat.le_of_ble_eq_true rfl) rfl (c_X8_cardCount (hc _) (hc _).t (v_cardCount hi) (cpI ?_))
    refine r_icmp_ge (tgt := 87) (pc' := 57) dL_sees_54 rfl rfl (fun h54 => ?_) (fun h54 => ?_)
    · exact absurd h54 (show ¬ nI 3 ≤ nI j from nI_ge (by omega) (by decide))
    · refine r_aload_n (pc' := 58) dL_sees_57 rfl 2 rfl rfl ?_
      refine r_bipush (pc' := 60) (v := 20) dL_sees_58 (by decide) rfl ?_
      refine r_iload_n (pc' := 61) dL_sees_60 rfl 0 rfl rfl ?_
      refine r_iaddv (pc' := 62) dL_sees_61 (nI_add 20 j) rfl ?_
      refine r_aload_n (pc' := 63) dL_sees_62 rfl 1 rfl rfl ?_
      refine r_iload_n (pc' := 64) dL_sees_63 rfl 0 rfl rfl ?_
      refine r_callV (pc' := 67) (k' := (16 + 5 * j + 3)) (n' := (96 + 30 * j + 18)) (nn := 1) (As := [_]) (rest := [_, _]) dL_sees_64 mb_X8_cardColour mi_X8_cardColour (hc _).o (by decide) rfl lk_L_166 rfl rfl (roomB_mk (by decide) (by decide) (show (16 + 5 * j + 1) + 2 ≤ 6000 by omega) (show (96 + 30 * j + 6) + 12 ≤ 40000 by omega)) rfl rfl (Nat.le_of_ble_eq_true rfl) rfl (c_X8_cardColour (hc _) (hc _).t (v_cardColour hi (a := j) (by omega)) (cpI ?_))
      refine r_i2l (pc' := 68) dL_sees_67 rfl ?_
      refine r_lastN (pc' := 69) (d := 20 + j) dL_sees_68 (hA _) rfl (by omega) (by decide) rfl ?_
      refine aa_S (stA_X (by omega)) ?_
      refine r_aload_n (pc' := 70) dL_sees_69 rfl 2 rfl rfl ?_
      refine r_bipush (pc' := 72) (v := 24) dL_sees_70 (by decide) rfl ?_
      refine r_iload_n (pc' := 73) dL_sees_72 rfl 0 rfl rfl ?_
      refine r_iaddv (pc' := 74) dL_sees_73 (nI_add 24 j) rfl ?_
      refine r_aload_n (pc' := 75) dL_sees_74 rfl 1 rfl rfl ?_
      refine r_iload_n (pc' := 76) dL_sees_75 rfl 0 rfl rfl ?_
      refine r_callV (pc' := 79) (k' := (16 + 5 * j + 5)) (n' := (96 + 30 * j + 30)) (nn := 1) (As := [_]) (rest := [_, _]) dL_sees_76 mb_X8_liftedWarps mi_X8_liftedWarps (hc _).o (by decide) rfl lk_L_317 rfl rfl (roomB_mk (by decide) (by decide) (show (16 + 5 * j + 3) + 2 ≤ 6000 by omega) (show (96 + 30 * j + 18) + 12 ≤ 40000 by omega)) rfl rfl (Nat.le_of_ble_eq_true rfl) rfl (c_X8_liftedWarps (hc _) (hc _).t (v_liftedWarps hi (a := j) (by omega)) (cpI ?_))
      refine r_i2l (pc' := 80) dL_sees_79 rfl ?_
      refine r_lastN (pc' := 81) (d := 24 + j) dL_sees_80 (hA _) rfl (by omega) (by decide) rfl ?_
      refine aa_S (stA_X (by omega)) ?_
      refine r_iinc (pc' := 84) (lv' := [(2, _), (0, _), (1, _)]) dL_sees_81 0 rfl rfl (by decide) rfl rfl ?_
      refine r_goto (tgt := 49) dL_sees_84 rfl ?_
      refine aa_widen (k' := 16 + 5 * (j + 1)) (n' := 96 + 30 * (j + 1)) (by omega) (by omega) ?_
      exact aa_lv (lv' := [(2, .int (nI (j + 1))), (0, .ref c), (1, .ref a)]) (by rw [nI_succ]; rfl) (ih (j + 1) _ (by omega) hk)
set_option maxHeartbeats 2000000 in
theorem l_seesH {Ω : JO} {I : JI} {S : JS} {Q : JQ} {c L P N H W a : Nat} (hc : ∀ f, Is8 (stA S a f) c L P) (hA : ∀ f, ArE 14 (stA S a f) a 50) (hi : INV N I c L H W)  : ∀ (m : Nat) (j : Nat) (f : Nat → Int64), j + m = H → (AA Ω m_L_sees (FQ Ω m_L_sees Q) (36 + 7 * (H + 1)) (216 + 42 * (H + 1)) 149 [(2, .int (nI (H))), (0, .ref c), (1, .ref a)] [] I (stA S a (goH I L m j f))) → AA Ω m_L_sees (FQ Ω m_L_sees Q) (36 + 7 * j) (216 + 42 * j) 89 [(2, .int (nI j)), (0, .ref c), (1, .ref a)] [] I (stA S a f) := by
  intro m
  induction m with
  | zero =>
    intro j f hj hk
    have e9 : j = H := by omega
    have hw := hi.hw
    have h6 := hi.r6
    refine r_iload_n (pc' := 90) dL_sees_89 rfl 0 rfl rfl ?_
    refine r_aload_n (pc' := 91) dL_sees_90 rfl 1 rfl rfl ?_
    refine r_callV (pc' := 94) (k' := (36 + 7 * j + 1)) (n' := (216 + 42 * j + 6)) (nn := 0) (As := []) (rest := [_]) dL_sees_91 mb_X8_harnessCount mi_X8_harnessCount (hc _).o (by decide) rfl lk_L_198 rfl rfl (roomB_mk (by decide) (by decide) (show (36 + 7 * j + 0) + 1 ≤ 6000 by omega) (show (216 + 42 * j + 0) + 6 ≤ 40000 by omega)) rfl rfl (Nat.le_of_ble_eq_true rfl) rfl (c_X8_harnessCount (hc _) (hc _).t (v_harnessCount hi) (cpI ?_))
    refine r_icmp_ge (tgt := 149) (pc' := 97) dL_sees_94 rfl rfl (fun h94 => ?_) (fun h94 => ?_)
    · refine aa_widen (k' := 36 + 7 * (H + 1)) (n' := 216 + 42 * (H + 1)) (by omega) (by omega) ?_
      rw [e9]
      exact hk
    · exact absurd (show nI H ≤ nI j from nI_le (by omega) (by omega)) h94
  | succ m ih =>
    intro j f hj hk
    have hw := hi.hw
    have h6 := hi.r6
    refine r_iload_n (pc' := 90) dL_sees_89 rfl 0 rfl rfl ?_
    refine r_aload_n (pc' := 91) dL_sees_90 rfl 1 rfl rfl ?_
    refine r_callV (pc' := 94) (k' := (36 + 7 * j + 1)) (n' := (216 + 42 * j + 6)) (nn := 0) (As := []) (rest := [_]) dL_sees_91 mb_X8_harnessCount mi_X8_harnessCount (hc _).o (by decide) rfl lk_L_198 rfl rfl (roomB_mk (by decide) (by decide) (show (36 + 7 * j + 0) + 1 ≤ 6000 by omega) (show (216 + 42 * j + 0) + 6 ≤ 40000 by omega)) rfl rfl (Nat.le_of_ble_eq_true rfl) rfl (c_X8_harnessCount (hc _) (hc _).t (v_harnessCount hi) (cpI ?_))
    refine r_icmp_ge (tgt := 149) (pc' := 97) dL_sees_94 rfl rfl (fun h94 => ?_) (fun h94 => ?_)
    · exact absurd h94 (show ¬ nI H ≤ nI j from nI_ge (by omega) (by omega))
    · refine r_aload_n (pc' := 98) dL_sees_97 rfl 2 rfl rfl ?_
      refine r_bipush (pc' := 100) (v := 30) dL_sees_98 (by decide) rfl ?_
      refine r_iload_n (pc' := 101) dL_sees_100 rfl 0 rfl rfl ?_
      refine r_iaddv (pc' := 102) dL_sees_101 (nI_add 30 j) rfl ?_
      refine r_ldc2 (pc' := 105) (v := 4) dL_sees_102 kl_L_320 rfl ?_
      refine r_aload_n (pc' := 106) dL_sees_105 rfl 1 rfl rfl ?_
      refine r_iload_n (pc' := 107) dL_sees_106 rfl 0 rfl rfl ?_
      refine r_callV (pc' := 110) (k' := (36 + 7 * j + 3)) (n' := (216 + 42 * j + 18)) (nn := 1) (As := [_]) (rest := [_, _, _]) dL_sees_107 mb_X8_wear mi_X8_wear (hc _).o (by decide) rfl lk_L_161 rfl rfl (roomB_mk (by decide) (by decide) (show (36 + 7 * j + 1) + 2 ≤ 6000 by omega) (show (216 + 42 * j + 6) + 12 ≤ 40000 by omega)) rfl rfl (Nat.le_of_ble_eq_true rfl) rfl (c_X8_wear (hc _) (hc _).t (v_wear hi (a := j) (by omega)) (cpI ?_))
      refine r_i2l (pc' := 111) dL_sees_110 rfl ?_
      refine r_lmul (pc' := 112) dL_sees_111 rfl ?_
      refine r_aload_n (pc' := 113) dL_sees_112 rfl 1 rfl rfl ?_
      refine r_iload_n (pc' := 114) dL_sees_113 rfl 0 rfl rfl ?_
      refine r_callV (pc' := 117) (k' := (36 + 7 * j + 5)) (n' := (216 + 42 * j + 30)) (nn := 1) (As := [_]) (rest := [_, _, _]) dL_sees_114 mb_X8_isLifted mi_X8_isLifted (hc _).o (by decide) rfl lk_L_154 rfl rfl (roomB_mk (by decide) (by decide) (show (36 + 7 * j + 3) + 2 ≤ 6000 by omega) (show (216 + 42 * j + 18) + 12 ≤ 40000 by omega)) rfl rfl (Nat.le_of_ble_eq_true rfl) rfl (c_X8_isLifted (hc _) (hc _).t (v_isLifted hi (a := j) (by omega)) (cpI ?_))
      refine r_if_eq (tgt := 126) (pc' := 120) dL_sees_117 rfl rfl (fun h117 => ?_) (fun h117 => ?_)
      · refine r_lconst (pc' := 127) (v := 0) dL_sees_126 (by decide) rfl ?_
        refine r_laddv (pc' := 128) dL_sees_127 (show _ = 4 * (I (L + 10 + 1) j).toInt64 + (if bt (I (L + 10) 0) j = true then 2 else 0) from by first | rw [if_pos (zb_p0 h117)] | rw [if_neg (zb_n0 h117)]) rfl ?_
        refine r_aload_n (pc' := 129) dL_sees_128 rfl 1 rfl rfl ?_
        refine r_iload_n (pc' := 130) dL_sees_129 rfl 0 rfl rfl ?_
        refine r_callV (pc' := 133) (k' := (36 + 7 * j + 7)) (n' := (216 + 42 * j + 42)) (nn := 1) (As := [_]) (rest := [_, _, _]) dL_sees_130 mb_X8_isStuck mi_X8_isStuck (hc _).o (by decide) rfl lk_L_158 rfl rfl (roomB_mk (by decide) (by decide) (show (36 + 7 * j + 5) + 2 ≤ 6000 by omega) (show (216 + 42 * j + 30) + 12 ≤ 40000 by omega)) rfl rfl (Nat.le_of_ble_eq_true rfl) rfl (c_X8_isStuck (hc _) (hc _).t (v_isStuck hi (a := j) (by omega)) (cpI ?_))
        refine r_if_eq (tgt := 140) (pc' := 136) dL_sees_133 rfl rfl (fun h133 => ?_) (fun h133 => ?_)
        · refine r_lconst (pc' := 141) (v := 0) dL_sees_140 (by decide) rfl ?_
          refine r_laddv (pc' := 142) dL_sees_141 (show _ = 4 * (I (L + 10 + 1) j).toInt64 + (if bt (I (L + 10) 0) j = true then 2 else 0) + (if bt (I (L + 10) 1) j = true then 1 else 0) from by first | rw [if_pos (zb_p0 h133)] | rw [if_neg (zb_n0 h133)]) rfl ?_
          refine r_lastN (pc' := 143) (d := 30 + j) dL_sees_142 (hA _) rfl (by omega) (by decide) rfl ?_
          refine aa_S (stA_X (by omega)) ?_
          refine r_iinc (pc' := 146) (lv' := [(2, _), (0, _), (1, _)]) dL_sees_143 0 rfl rfl (by decide) rfl rfl ?_
          refine r_goto (tgt := 89) dL_sees_146 rfl ?_
          refine aa_widen (k' := 36 + 7 * (j + 1)) (n' := 216 + 42 * (j + 1)) (by omega) (by omega) ?_
          exact aa_lv (lv' := [(2, .int (nI (j + 1))), (0, .ref c), (1, .ref a)]) (by rw [nI_succ]; rfl) (ih (j + 1) _ (by omega) hk)
        · refine r_lconst (pc' := 137) (v := 1) dL_sees_136 (by decide) rfl ?_
          refine r_goto (tgt := 141) dL_sees_137 rfl ?_
          refine r_laddv (pc' := 142) dL_sees_141 (show _ = 4 * (I (L + 10 + 1) j).toInt64 + (if bt (I (L + 10) 0) j = true then 2 else 0) + (if bt (I (L + 10) 1) j = true then 1 else 0) from by first | rw [if_pos (zb_p0 h133)] | rw [if_neg (zb_n0 h133)]) rfl ?_
          refine r_lastN (pc' := 143) (d := 30 + j) dL_sees_142 (hA _) rfl (by omega) (by decide) rfl ?_
          refine aa_S (stA_X (by omega)) ?_
          refine r_iinc (pc' := 146) (lv' := [(2, _), (0, _), (1, _)]) dL_sees_143 0 rfl rfl (by decide) rfl rfl ?_
          refine r_goto (tgt := 89) dL_sees_146 rfl ?_
          refine aa_widen (k' := 36 + 7 * (j + 1)) (n' := 216 + 42 * (j + 1)) (by omega) (by omega) ?_
          exact aa_lv (lv' := [(2, .int (nI (j + 1))), (0, .ref c), (1, .ref a)]) (by rw [nI_succ]; rfl) (ih (j + 1) _ (by omega) hk)
      · refine r_ldc2 (pc' := 123) (v := 2) dL_sees_120 kl_L_322 rfl ?_
        refine r_goto (tgt := 127) dL_sees_123 rfl ?_
        refine r_laddv (pc' := 128) dL_sees_127 (show _ = 4 * (I (L + 10 + 1) j).toInt64 + (if bt (I (L + 10) 0) j = true then 2 else 0) from by first | rw [if_pos (zb_p0 h117)] | rw [if_neg (zb_n0 h117)]) rfl ?_
        refine r_aload_n (pc' := 129) dL_sees_128 rfl 1 rfl rfl ?_
        refine r_iload_n (pc' := 130) dL_sees_129 rfl 0 rfl rfl ?_
        refine r_callV (pc' := 133) (k' := (36 + 7 * j + 7)) (n' := (216 + 42 * j + 42)) (nn := 1) (As := [_]) (rest := [_, _, _]) dL_sees_130 mb_X8_isStuck mi_X8_isStuck (hc _).o (by decide) rfl lk_L_158 rfl rfl (roomB_mk (by decide) (by decide) (show (36 + 7 * j + 5) + 2 ≤ 6000 by omega) (show (216 + 42 * j + 30) + 12 ≤ 40000 by omega)) rfl rfl (Nat.le_of_ble_eq_true rfl) rfl (c_X8_isStuck (hc _) (hc _).t (v_isStuck hi (a := j) (by omega)) (cpI ?_))
        refine r_if_eq (tgt := 140) (pc' := 136) dL_sees_133 rfl rfl (fun h133 => ?_) (fun h133 => ?_)
        · refine r_lconst (pc' := 141) (v := 0) dL_sees_140 (by decide) rfl ?_
          refine r_laddv (pc' := 142) dL_sees_141 (show _ = 4 * (I (L + 10 + 1) j).toInt64 + (if bt (I (L + 10) 0) j = true then 2 else 0) + (if bt (I (L + 10) 1) j = true then 1 else 0) from by first | rw [if_pos (zb_p0 h133)] | rw [if_neg (zb_n0 h133)]) rfl ?_
          refine r_lastN (pc' := 143) (d := 30 + j) dL_sees_142 (hA _) rfl (by omega) (by decide) rfl ?_
          refine aa_S (stA_X (by omega)) ?_
          refine r_iinc (pc' := 146) (lv' := [(2, _), (0, _), (1, _)]) dL_sees_143 0 rfl rfl (by decide) rfl rfl ?_
          refine r_goto (tgt := 89) dL_sees_146 rfl ?_
          refine aa_widen (k' := 36 + 7 * (j + 1)) (n' := 216 + 42 * (j + 1)) (by omega) (by omega) ?_
          exact aa_lv (lv' := [(2, .int (nI (j + 1))), (0, .ref c), (1, .ref a)]) (by rw [nI_succ]; rfl) (ih (j + 1) _ (by omega) hk)
        · refine r_lconst (pc' := 137) (v := 1) dL_sees_136 (by decide) rfl ?_
          refine r_goto (tgt := 141) dL_sees_137 rfl ?_
          refine r_laddv (pc' := 142) dL_sees_141 (show _ = 4 * (I (L + 10 + 1) j).toInt64 + (if bt (I (L + 10) 0) j = true then 2 else 0) + (if bt (I (L + 10) 1) j = true then 1 else 0) from by first | rw [if_pos (zb_p0 h133)] | rw [if_neg (zb_n0 h133)]) rfl ?_
          refine r_lastN (pc' := 143) (d := 30 + j) dL_sees_142 (hA _) rfl (by omega) (by decide) rfl ?_
          refine aa_S (stA_X (by omega)) ?_
          refine r_iinc (pc' := 146) (lv' := [(2, _), (0, _), (1, _)]) dL_sees_143 0 rfl rfl (by decide) rfl rfl ?_
          refine r_goto (tgt := 89) dL_sees_146 rfl ?_
          refine aa_widen (k' := 36 + 7 * (j + 1)) (n' := 216 + 42 * (j + 1)) (by omega) (by omega) ?_
          exact aa_lv (lv' := [(2, .int (nI (j + 1))), (0, .ref c), (1, .ref a)]) (by rw [nI_succ]; rfl) (ih (j + 1) _ (by omega) hk)
set_option maxHeartbeats 2000000 in
theorem l_seesW {Ω : JO} {I : JI} {S : JS} {Q : JQ} {c L P N H W a : Nat} (hc : ∀ f, Is8 (stA S a f) c L P) (hA : ∀ f, ArE 14 (stA S a f) a 50) (hi : INV N I c L H W) {i : Nat} (hin : i < rwN I (L + 10)) : ∀ (m : Nat) (j : Nat) (f : Nat → Int64), j + m = W → (AA Ω m_L_sees (FQ Ω m_L_sees Q) ((72 + 50 * i) + 9 * (W + 1)) ((412 + 300 * i) + 54 * (W + 1)) 214 [(3, .int (nI (W))), (2, .int (nI i)), (0, .ref c), (1, .ref a)] [] I (stA S a (goW I L i m j f))) → AA Ω m_L_sees (FQ Ω m_L_sees Q) ((72 + 50 * i) + 9 * j) ((412 + 300 * i) + 54 * j) 161 [(3, .int (nI j)), (2, .int (nI i)), (0, .ref c), (1, .ref a)] [] I (stA S a f) := by
  intro m
  induction m with
  | zero =>
    intro j f hj hk
    have e9 : j = W := by omega
    have hw := hi.hw
    have h6 := hi.r6
    refine r_iload_n (pc' := 162) dL_sees_161 rfl 0 rfl rfl ?_
    refine r_aload_n (pc' := 163) dL_sees_162 rfl 2 rfl rfl ?_
    refine r_callV (pc' := 166) (k' := ((72 + 50 * i) + 9 * j + 1)) (n' := ((412 + 300 * i) + 54 * j + 6)) (nn := 0) (As := []) (rest := [_]) dL_sees_163 mb_X8_warpCount mi_X8_warpCount (hc _).o (by decide) rfl lk_L_201 rfl rfl (roomB_mk (by decide) (by decide) (show ((72 + 50 * i) + 9 * j + 0) + 1 ≤ 6000 by omega) (show ((412 + 300 * i) + 54 * j + 0) + 6 ≤ 40000 by omega)) rfl rfl (Nat.le_of_ble_eq_true rfl) rfl (c_X8_warpCount (hc _) (hc _).t (v_warpCount hi) (cpI ?_))
    refine r_icmp_ge (tgt := 214) (pc' := 169) dL_sees_166 rfl rfl (fun h166 => ?_) (fun h166 => ?_)
    · refine aa_widen (k' := (72 + 50 * i) + 9 * (W + 1)) (n' := (412 + 300 * i) + 54 * (W + 1)) (by omega) (by omega) ?_
      rw [e9]
      exact hk
    · exact absurd (show nI W ≤ nI j from nI_le (by omega) (by omega)) h166
  | succ m ih =>
    intro j f hj hk
    have hw := hi.hw
    have h6 := hi.r6
    refine r_iload_n (pc' := 162) dL_sees_161 rfl 0 rfl rfl ?_
    refine r_aload_n (pc' := 163) dL_sees_162 rfl 2 rfl rfl ?_
    refine r_callV (pc' := 166) (k' := ((72 + 50 * i) + 9 * j + 1)) (n' := ((412 + 300 * i) + 54 * j + 6)) (nn := 0) (As := []) (rest := [_]) dL_sees_163 mb_X8_warpCount mi_X8_warpCount (hc _).o (by decide) rfl lk_L_201 rfl rfl (roomB_mk (by decide) (by decide) (show ((72 + 50 * i) + 9 * j + 0) + 1 ≤ 6000 by omega) (show ((412 + 300 * i) + 54 * j + 0) + 6 ≤ 40000 by omega)) rfl rfl (Nat.le_of_ble_eq_true rfl) rfl (c_X8_warpCount (hc _) (hc _).t (v_warpCount hi) (cpI ?_))
    refine r_icmp_ge (tgt := 214) (pc' := 169) dL_sees_166 rfl rfl (fun h166 => ?_) (fun h166 => ?_)
    · exact absurd h166 (show ¬ nI W ≤ nI j from nI_ge (by omega) (by omega))
    · refine r_aload_n (pc' := 170) dL_sees_169 rfl 3 rfl rfl ?_
      refine r_bipush (pc' := 172) (v := 40) dL_sees_170 (by decide) rfl ?_
      refine r_ldc2 (pc' := 175) (v := 31) dL_sees_172 kl_L_324 rfl ?_
      refine r_aload_n (pc' := 176) dL_sees_175 rfl 3 rfl rfl ?_
      refine r_bipush (pc' := 178) (v := 40) dL_sees_176 (by decide) rfl ?_
      refine r_laloadN (pc' := 179) (d := 40) dL_sees_178 (hA _) rfl (by decide) (by decide) (stA_at (by decide)) rfl ?_
      refine r_lmul (pc' := 180) dL_sees_179 rfl ?_
      refine r_ldc2 (pc' := 183) (v := 2) dL_sees_180 kl_L_322 rfl ?_
      refine r_aload_n (pc' := 184) dL_sees_183 rfl 2 rfl rfl ?_
      refine r_iload_n (pc' := 185) dL_sees_184 rfl 1 rfl rfl ?_
      refine r_iload_n (pc' := 186) dL_sees_185 rfl 0 rfl rfl ?_
      refine r_callV (pc' := 189) (k' := ((72 + 50 * i) + 9 * j + 5)) (n' := ((412 + 300 * i) + 54 * j + 30)) (nn := 2) (As := [_, _]) (rest := [_, _, _, _]) dL_sees_186 mb_X8_cellColour mi_X8_cellColour (hc _).o (by decide) rfl lk_L_184 rfl rfl (roomB_mk (by decide) (by decide) (show ((72 + 50 * i) + 9 * j + 1) + 4 ≤ 6000 by omega) (show ((412 + 300 * i) + 54 * j + 6) + 24 ≤ 40000 by omega)) rfl rfl (Nat.le_of_ble_eq_true rfl) rfl (c_X8_cellColour (hc _) (hc _).t (v_cellColour hi (a := i) (b := j) hin (by omega)) (cpI ?_))
      refine r_i2l (pc' := 190) dL_sees_189 rfl ?_
      refine r_lmul (pc' := 191) dL_sees_190 rfl ?_
      refine r_ladd (pc' := 192) dL_sees_191 rfl ?_
      refine r_aload_n (pc' := 193) dL_sees_192 rfl 2 rfl rfl ?_
      refine r_iload_n (pc' := 194) dL_sees_193 rfl 1 rfl rfl ?_
      refine r_iload_n (pc' := 195) dL_sees_194 rfl 0 rfl rfl ?_
      refine r_callV (pc' := 198) (k' := ((72 + 50 * i) + 9 * j + 9)) (n' := ((412 + 300 * i) + 54 * j + 54)) (nn := 2) (As := [_, _]) (rest := [_, _, _]) dL_sees_195 mb_X8_showsWarp mi_X8_showsWarp (hc _).o (by decide) rfl lk_L_192 rfl rfl (roomB_mk (by decide) (by decide) (show ((72 + 50 * i) + 9 * j + 5) + 4 ≤ 6000 by omega) (show ((412 + 300 * i) + 54 * j + 30) + 24 ≤ 40000 by omega)) rfl rfl (Nat.le_of_ble_eq_true rfl) rfl (c_X8_showsWarp (hc _) (hc _).t (v_showsWarp hi (a := i) (b := j) hin (by omega)) (cpI ?_))
      refine r_if_eq (tgt := 205) (pc' := 201) dL_sees_198 rfl rfl (fun h198 => ?_) (fun h198 => ?_)
      · refine r_lconst (pc' := 206) (v := 0) dL_sees_205 (by decide) rfl ?_
        refine r_laddv (pc' := 207) dL_sees_206 (show _ = 31 * f 40 + 2 * (x3_cell I L (nI i) (nI j)).toInt64 + (if bt (I (L + 10 + 5) i) j = true then 1 else 0) from by first | rw [if_pos (zb_p0 h198)] | rw [if_neg (zb_n0 h198)]) rfl ?_
        refine r_lastN (pc' := 208) (d := 40) dL_sees_207 (hA _) rfl (by decide) (by decide) rfl ?_
        refine aa_S (stA_X (by decide)) ?_
        refine r_iinc (pc' := 211) (lv' := [(3, _), (2, _), (0, _), (1, _)]) dL_sees_208 0 rfl rfl (by decide) rfl rfl ?_
        refine r_goto (tgt := 161) dL_sees_211 rfl ?_
        refine aa_widen (k' := (72 + 50 * i) + 9 * (j + 1)) (n' := (412 + 300 * i) + 54 * (j + 1)) (by omega) (by omega) ?_
        exact aa_lv (lv' := [(3, .int (nI (j + 1))), (2, .int (nI i)), (0, .ref c), (1, .ref a)]) (by rw [nI_succ]; rfl) (ih (j + 1) _ (by omega) hk)
      · refine r_lconst (pc' := 202) (v := 1) dL_sees_201 (by decide) rfl ?_
        refine r_goto (tgt := 206) dL_sees_202 rfl ?_
        refine r_laddv (pc' := 207) dL_sees_206 (show _ = 31 * f 40 + 2 * (x3_cell I L (nI i) (nI j)).toInt64 + (if bt (I (L + 10 + 5) i) j = true then 1 else 0) from by first | rw [if_pos (zb_p0 h198)] | rw [if_neg (zb_n0 h198)]) rfl ?_
        refine r_lastN (pc' := 208) (d := 40) dL_sees_207 (hA _) rfl (by decide) (by decide) rfl ?_
        refine aa_S (stA_X (by decide)) ?_
        refine r_iinc (pc' := 211) (lv' := [(3, _), (2, _), (0, _), (1, _)]) dL_sees_208 0 rfl rfl (by decide) rfl rfl ?_
        refine r_goto (tgt := 161) dL_sees_211 rfl ?_
        refine aa_widen (k' := (72 + 50 * i) + 9 * (j + 1)) (n' := (412 + 300 * i) + 54 * (j + 1)) (by omega) (by omega) ?_
        exact aa_lv (lv' := [(3, .int (nI (j + 1))), (2, .int (nI i)), (0, .ref c), (1, .ref a)]) (by rw [nI_succ]; rfl) (ih (j + 1) _ (by omega) hk)
set_option maxHeartbeats 2000000 in
theorem l_seesR {Ω : JO} {I : JI} {S : JS} {Q : JQ} {c L P N H W a : Nat} (hc : ∀ f, Is8 (stA S a f) c L P) (hA : ∀ f, ArE 14 (stA S a f) a 50) (hi : INV N I c L H W)  : ∀ (m : Nat) (j : Nat) (f : Nat → Int64), j + m = (rwN I (L + 10)) → (AA Ω m_L_sees (FQ Ω m_L_sees Q) (70 + 50 * ((rwN I (L + 10)) + 1)) (400 + 300 * ((rwN I (L + 10)) + 1)) 220 [(2, .int (nI ((rwN I (L + 10))))), (0, .ref c), (1, .ref a)] [] I (stA S a (goR I L W m j f))) → AA Ω m_L_sees (FQ Ω m_L_sees Q) (70 + 50 * j) (400 + 300 * j) 151 [(2, .int (nI j)), (0, .ref c), (1, .ref a)] [] I (stA S a f) := by
  intro m
  induction m with
  | zero =>
    intro j f hj hk
    have e9 : j = (rwN I (L + 10)) := by omega
    have hw := hi.hw
    have h6 := hi.r6
    refine r_iload_n (pc' := 152) dL_sees_151 rfl 0 rfl rfl ?_
    refine r_aload_n (pc' := 153) dL_sees_152 rfl 1 rfl rfl ?_
    refine r_callV (pc' := 156) (k' := (70 + 50 * j + 1)) (n' := (400 + 300 * j + 6)) (nn := 0) (As := []) (rest := [_]) dL_sees_153 mb_X8_rowCount mi_X8_rowCount (hc _).o (by decide) rfl lk_L_195 rfl rfl (roomB_mk (by decide) (by decide) (show (70 + 50 * j + 0) + 1 ≤ 6000 by omega) (show (400 + 300 * j + 0) + 6 ≤ 40000 by omega)) rfl rfl (Nat.le_of_ble_eq_true rfl) rfl (c_X8_rowCount (hc _) (hc _).t (v_rowCount hi) (cpI ?_))
    refine r_icmp_ge (tgt := 220) (pc' := 159) dL_sees_156 rfl rfl (fun h156 => ?_) (fun h156 => ?_)
    · refine aa_widen (k' := 70 + 50 * ((rwN I (L + 10)) + 1)) (n' := 400 + 300 * ((rwN I (L + 10)) + 1)) (by omega) (by omega) ?_
      rw [e9]
      exact hk
    · exact absurd (show nI (rwN I (L + 10)) ≤ nI j from nI_le (by omega) (by omega)) h156
  | succ m ih =>
    intro j f hj hk
    have hw := hi.hw
    have h6 := hi.r6
    refine r_iload_n (pc' := 152) dL_sees_151 rfl 0 rfl rfl ?_
    refine r_aload_n (pc' := 153) dL_sees_152 rfl 1 rfl rfl ?_
    refine r_callV (pc' := 156) (k' := (70 + 50 * j + 1)) (n' := (400 + 300 * j + 6)) (nn := 0) (As := []) (rest := [_]) dL_sees_153 mb_X8_rowCount mi_X8_rowCount (hc _).o (by decide) rfl lk_L_195 rfl rfl (roomB_mk (by decide) (by decide) (show (70 + 50 * j + 0) + 1 ≤ 6000 by omega) (show (400 + 300 * j + 0) + 6 ≤ 40000 by omega)) rfl rfl (Nat.le_of_ble_eq_true rfl) rfl (c_X8_rowCount (hc _) (hc _).t (v_rowCount hi) (cpI ?_))
    refine r_icmp_ge (tgt := 220) (pc' := 159) dL_sees_156 rfl rfl (fun h156 => ?_) (fun h156 => ?_)
    · exact absurd h156 (show ¬ nI (rwN I (L + 10)) ≤ nI j from nI_ge (by omega) (by omega))
    · refine r_iconst (pc' := 160) (v := 0) dL_sees_159 (by decide) rfl ?_
      refine r_istore_n (pc' := 161) (lv' := [(3, _), (2, _), (0, _), (1, _)]) dL_sees_160 rfl (by decide) rfl rfl ?_
      refine aa_widen (k' := 72 + 50 * j + 9 * 0) (n' := 412 + 300 * j + 54 * 0) (by omega) (by omega) ?_
      refine l_seesW hc hA hi (show j < rwN I (L + 10) by omega) W 0 f (by omega) ?_
      refine r_iinc (pc' := 217) (lv' := [(2, _), (3, _), (0, _), (1, _)]) dL_sees_214 1 rfl rfl (by decide) rfl rfl ?_
      refine r_goto (tgt := 151) dL_sees_217 rfl ?_
      refine aa_widen (k' := 70 + 50 * (j + 1)) (n' := 400 + 300 * (j + 1)) (by omega) (by omega) ?_
      refine aa_locs (ks := [0, 2, 3]) (lv' := [(2, _), (0, _), (1, _)]) rfl ?_
      exact aa_lv (lv' := [(2, .int (nI (j + 1))), (0, .ref c), (1, .ref a)]) (by rw [nI_succ]; rfl) (ih (j + 1) _ (by omega) hk)
set_option maxHeartbeats 2000000 in
theorem c_L_sees {Ω : JO} {I : JI} {S : JS} {Q : JQ} {c L P N H W a : Nat} (hc0 : Is8 S c L P) (hA0 : ArE 14 S a 50) (hi : INV N I c L H W) (hQ : Q (.inl none) I (stA S a (seeF I L H W))) : Call Ω m_L_sees [.ref c, .ref a] I S Q := by
  refine call_of (by decide +kernel) rfl (Nat.le_of_ble_eq_true rfl) ?_
  change AA Ω m_L_sees (FQ Ω m_L_sees Q) 0 0 0 [(0, .ref c), (1, .ref a)] [] I S
  have hc : ∀ f, Is8 (stA S a f) c L P := fun f => hc0
  have hA : ∀ f, ArE 14 (stA S a f) a 50 := fun f => hA0
  have hw := hi.hw
  have h6 := hi.r6
  refine r_aload_n (pc' := 1) dL_sees_0 rfl 1 rfl rfl ?_
  refine r_lconst (pc' := 2) (v := 0) dL_sees_1 (by decide) rfl ?_
  refine r_callS (pc' := 5) (k' := 0) (n' := 0) (nn := 2) (As := [_, _]) (rest := []) dL_sees_2 mb_J7_fill_d0a16 ms_J7_fill_d0a16 lk_L_307 rfl rfl rfl rfl rfl (Nat.le_of_ble_eq_true rfl) rfl (c_J7_fill_d0a16 hA0 (by decide) (cpV ?_))
  refine aa_S stA_fl ?_
  refine r_aload_n (pc' := 6) dL_sees_5 rfl 1 rfl rfl ?_
  refine r_iconst (pc' := 7) (v := 0) dL_sees_6 (by decide) rfl ?_
  refine r_aload_n (pc' := 8) dL_sees_7 rfl 0 rfl rfl ?_
  refine r_callV (pc' := 11) (k' := 1) (n' := 6) (nn := 0) (As := []) (rest := [_, _]) dL_sees_8 mb_X8_rowCount mi_X8_rowCount (hc _).o (by decide) rfl lk_L_195 rfl rfl rfl rfl rfl (Nat.le_of_ble_eq_true rfl) rfl (c_X8_rowCount (hc _) (hc _).t (v_rowCount hi) (cpI ?_))
  refine r_i2l (pc' := 12) dL_sees_11 rfl ?_
  refine r_lastN (pc' := 13) (d := 0) dL_sees_12 (hA _) rfl (by decide) (by decide) rfl ?_
  refine aa_S (stA_X (by decide)) ?_
  refine r_aload_n (pc' := 14) dL_sees_13 rfl 1 rfl rfl ?_
  refine r_iconst (pc' := 15) (v := 1) dL_sees_14 (by decide) rfl ?_
  refine r_aload_n (pc' := 16) dL_sees_15 rfl 0 rfl rfl ?_
  refine r_callV (pc' := 19) (k' := 2) (n' := 12) (nn := 0) (As := []) (rest := [_, _]) dL_sees_16 mb_X8_brokenCount mi_X8_brokenCount (hc _).o (by decide) rfl lk_L_311 rfl rfl rfl rfl rfl (Nat.le_of_ble_eq_true rfl) rfl (c_X8_brokenCount (hc _) (hc _).t (v_brokenCount hi) (cpI ?_))
  refine r_i2l (pc' := 20) dL_sees_19 rfl ?_
  refine r_lastN (pc' := 21) (d := 1) dL_sees_20 (hA _) rfl (by decide) (by decide) rfl ?_
  refine aa_S (stA_X (by decide)) ?_
  refine r_iconst (pc' := 22) (v := 0) dL_sees_21 (by decide) rfl ?_
  refine r_istore_n (pc' := 23) (lv' := [(2, _), (0, _), (1, _)]) dL_sees_22 rfl (by decide) rfl rfl ?_
  refine l_seesY hc hA hi 6 0 _ (by decide) ?_
  refine r_iconst (pc' := 48) (v := 0) dL_sees_47 (by decide) rfl ?_
  refine r_istore_n (pc' := 49) (lv' := [(2, _), (0, _), (1, _)]) dL_sees_48 rfl (by decide) rfl rfl ?_
  refine aa_widen (k' := 16 + 5 * 0) (n' := 96 + 30 * 0) (by omega) (by omega) ?_
  refine l_seesC hc hA hi 3 0 _ (by decide) ?_
  refine r_iconst (pc' := 88) (v := 0) dL_sees_87 (by decide) rfl ?_
  refine r_istore_n (pc' := 89) (lv' := [(2, _), (0, _), (1, _)]) dL_sees_88 rfl (by decide) rfl rfl ?_
  refine aa_widen (k' := 36 + 7 * 0) (n' := 216 + 42 * 0) (by omega) (by omega) ?_
  refine l_seesH hc hA hi H 0 _ (by omega) ?_
  refine r_iconst (pc' := 150) (v := 0) dL_sees_149 (by decide) rfl ?_
  refine r_istore_n (pc' := 151) (lv' := [(2, _), (0, _), (1, _)]) dL_sees_150 rfl (by decide) rfl rfl ?_
  refine aa_widen (k' := 70 + 50 * 0) (n' := 400 + 300 * 0) (by omega) (by omega) ?_
  refine l_seesR hc hA hi (rwN I (L + 10)) 0 _ (by omega) ?_
  refine aa_widen (k' := 6000) (n' := 40000) (by omega) (by omega) ?_
  exact r_ret dL_sees_220 rfl (by decide) (by decide) hQ
