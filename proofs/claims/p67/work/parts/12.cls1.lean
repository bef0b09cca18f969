/-! leaf methods; State -/
def flI (I : JI) (a N : Nat) (v : Int32) : JI := fun b j => if b = a then (if j < N then v else I b j) else I b j
theorem flI_0 (I : JI) (a : Nat) (v : Int32) : flI I a 0 v = I := by funext b j; simp [flI]
theorem flI_s (I : JI) (a N : Nat) (v : Int32) : flI I a (N + 1) v = stI (flI I a N v) a N v := by
  funext b j
  by_cases hb : b = a
  · subst hb
    by_cases hj : j = N
    · subst hj; simp [flI, stI]
    · simp only [flI, stI, if_true, hj, if_false]
      by_cases h2 : j < N
      · rw [if_pos h2, if_pos (by omega)]
      · rw [if_neg h2, if_neg (by omega)]
  · simp [flI, stI, hb]
set_option maxHeartbeats 2000000 in
theorem c_X8_at {Ω : JO} {I : JI} {S : JS} {Q : JQ} {a N : Nat} {i : Int32} (hA : ArE 11 S a N) (hN : N < 2 ^ 31) (hQ : Q (.inl (some (.int (atF (I a) N i)))) I S) : Call Ω m_X8_at [.ref a, .int i] I S Q := by
  refine call_of (by decide +kernel) rfl (Nat.le_of_ble_eq_true rfl) ?_
  change AA Ω m_X8_at (FQ Ω m_X8_at Q) 0 0 0 [(0, .ref a), (1, .int i)] [] I S
  refine r_iload_n (pc' := 1) dX8_at_0 rfl 1 rfl rfl ?_
  refine r_if_lt (tgt := 16) (pc' := 4) dX8_at_1 rfl rfl (fun h1 => ?_) (fun h1 => ?_)
  · rw [atF, if_pos (Or.inl h1)] at hQ
    refine r_iconst (pc' := 17) (v := 0) dX8_at_16 (by decide) rfl ?_
    exact r_iret dX8_at_17 rfl (by decide) (by decide) (hQ)
  · refine r_iload_n (pc' := 5) dX8_at_4 rfl 1 rfl rfl ?_
    refine r_aload_n (pc' := 6) dX8_at_5 rfl 0 rfl rfl ?_
    refine r_alen (pc' := 7) dX8_at_6 hA (by decide) rfl rfl ?_
    refine r_icmp_ge (tgt := 16) (pc' := 10) dX8_at_7 rfl rfl (fun h7 => ?_) (fun h7 => ?_)
    · rw [atF, if_pos (Or.inr (clamp_ge h7 hN))] at hQ
      refine r_iconst (pc' := 17) (v := 0) dX8_at_16 (by decide) rfl ?_
      exact r_iret dX8_at_17 rfl (by decide) (by decide) (hQ)
    · rw [atF, if_neg (vp_in_c h1 h7 hN)] at hQ
      refine r_aload_n (pc' := 11) dX8_at_10 rfl 0 rfl rfl ?_
      refine r_iload_n (pc' := 12) dX8_at_11 rfl 1 rfl rfl ?_
      refine r_iaload (pc' := 13) dX8_at_12 hA (vp_in_c h1 h7 hN) rfl ?_
      refine r_goto (tgt := 17) dX8_at_13 rfl ?_
      exact r_iret dX8_at_17 rfl (by decide) (by decide) (hQ)
set_option maxHeartbeats 2000000 in
theorem c_X8_put {Ω : JO} {I : JI} {S : JS} {Q : JQ} {a N : Nat} {i v : Int32} (hA : ArE 11 S a N) (hN : N < 2 ^ 31) (hQ : Q (.inl none) (ptI I a N i v) S) : Call Ω m_X8_put [.ref a, .int i, .int v] I S Q := by
  refine call_of (by decide +kernel) rfl (Nat.le_of_ble_eq_true rfl) ?_
  change AA Ω m_X8_put (FQ Ω m_X8_put Q) 0 0 0 [(0, .ref a), (1, .int i), (2, .int v)] [] I S
  refine r_iload_n (pc' := 1) dX8_put_0 rfl 1 rfl rfl ?_
  refine r_if_lt (tgt := 14) (pc' := 4) dX8_put_1 rfl rfl (fun h1 => ?_) (fun h1 => ?_)
  · rw [ptI, if_pos (Or.inl h1)] at hQ
    exact r_ret dX8_put_14 rfl (by decide) (by decide) (hQ)
  · refine r_iload_n (pc' := 5) dX8_put_4 rfl 1 rfl rfl ?_
    refine r_aload_n (pc' := 6) dX8_put_5 rfl 0 rfl rfl ?_
    refine r_alen (pc' := 7) dX8_put_6 hA (by decide) rfl rfl ?_
    refine r_icmp_ge (tgt := 14) (pc' := 10) dX8_put_7 rfl rfl (fun h7 => ?_) (fun h7 => ?_)
    · rw [ptI, if_pos (Or.inr (clamp_ge h7 hN))] at hQ
      exact r_ret dX8_put_14 rfl (by decide) (by decide) (hQ)
    · rw [ptI, if_neg (vp_in_c h1 h7 hN)] at hQ
      refine r_aload_n (pc' := 11) dX8_put_10 rfl 0 rfl rfl ?_
      refine r_iload_n (pc' := 12) dX8_put_11 rfl 1 rfl rfl ?_
      refine r_iload_n (pc' := 13) dX8_put_12 rfl 2 rfl rfl ?_
      refine r_iastore (pc' := 14) dX8_put_13 hA (vp_in_c h1 h7 hN) rfl ?_
      exact r_ret dX8_put_14 rfl (by decide) (by decide) (hQ)
set_option maxHeartbeats 2000000 in
theorem c_X8_has {Ω : JO} {I : JI} {S : JS} {Q : JQ} {s m : Int32} (hQ : Q (.inl (some (.int (zb (hasB s m))))) I S) : Call Ω m_X8_has [.int s, .int m] I S Q := by
  refine call_of (by decide +kernel) rfl (Nat.le_of_ble_eq_true rfl) ?_
  change AA Ω m_X8_has (FQ Ω m_X8_has Q) 0 0 0 [(0, .int s), (1, .int m)] [] I S
  refine r_iload_n (pc' := 1) dX8_has_0 rfl 0 rfl rfl ?_
  refine r_iload_n (pc' := 2) dX8_has_1 rfl 1 rfl rfl ?_
  refine r_ishr (pc' := 3) dX8_has_2 rfl ?_
  refine r_iconst (pc' := 4) (v := 1) dX8_has_3 (by decide) rfl ?_
  refine r_iand (pc' := 5) dX8_has_4 rfl ?_
  refine r_if_eq (tgt := 12) (pc' := 8) dX8_has_5 rfl rfl (fun h5 => ?_) (fun h5 => ?_)
  · rw [hasB, decide_eq_false (fun q => q h5)] at hQ
    refine r_iconst (pc' := 13) (v := 0) dX8_has_12 (by decide) rfl ?_
    exact r_zret dX8_has_13 rfl (by first | exact zb01 _ | decide) (by decide) (by decide) (hQ)
  · rw [hasB, decide_eq_true h5] at hQ
    refine r_iconst (pc' := 9) (v := 1) dX8_has_8 (by decide) rfl ?_
    refine r_goto (tgt := 13) dX8_has_9 rfl ?_
    exact r_zret dX8_has_13 rfl (by first | exact zb01 _ | decide) (by decide) (by decide) (hQ)
set_option maxHeartbeats 2000000 in
theorem c_X8_copy {Ω : JO} {I : JI} {S : JS} {Q : JQ} {a b N : Nat} (hA : ArE 11 S a N) (hB : ArE 11 S b N) (hN : N < 2 ^ 31) (hQ : Q (.inl none) (cpA I a b N) S) : Call Ω m_X8_copy [.ref a, .ref b] I S Q := by
  refine call_of (by decide +kernel) rfl (Nat.le_of_ble_eq_true rfl) ?_
  change AA Ω m_X8_copy (FQ Ω m_X8_copy Q) 0 0 0 [(0, .ref a), (1, .ref b)] [] I S
  refine r_aload_n (pc' := 1) dX8_copy_0 rfl 0 rfl rfl ?_
  refine r_iconst (pc' := 2) (v := 0) dX8_copy_1 (by decide) rfl ?_
  refine r_aload_n (pc' := 3) dX8_copy_2 rfl 1 rfl rfl ?_
  refine r_iconst (pc' := 4) (v := 0) dX8_copy_3 (by decide) rfl ?_
  refine r_aload_n (pc' := 5) dX8_copy_4 rfl 0 rfl rfl ?_
  refine r_alen (pc' := 6) dX8_copy_5 hA (by decide) rfl rfl ?_
  refine r_aload_n (pc' := 7) dX8_copy_6 rfl 1 rfl rfl ?_
  refine r_alen (pc' := 8) dX8_copy_7 hB (by decide) rfl rfl ?_
  refine r_mmin (pc' := 11) dX8_copy_8 mw_X8_344 (by decide) (Nat.le_of_ble_eq_true rfl) (by decide) (by decide) rfl ?_
  have e : mnF (Int32.ofNat N) (Int32.ofNat N) = Int32.ofNat N := by simp [mnF]
  rw [e]
  have e2 : (Int32.ofNat N).toNatClampNeg = N := nI_clamp hN
  refine r_arraycopy (pc' := 14) dX8_copy_11 aw_X8_347 hA hB rfl rfl (nI_pos hN) (Nat.le_of_eq e2) (by decide) (Nat.le_of_ble_eq_true rfl) rfl ?_
  rw [e2]
  exact r_ret dX8_copy_14 rfl (by decide) (by decide) (hQ)
set_option maxHeartbeats 2000000 in
theorem l_J7_fill {Ω : JO} {I : JI} {S : JS} {Q : JQ} {a N : Nat} {v : Int32} (hA : ArE 11 S a N) (hN : N < 2 ^ 31) (hQ : Q (.inl none) (flI I a N v) S) : ∀ (m j : Nat), j + m = N → AA Ω m_J7_fill_53178 (FQ Ω m_J7_fill_53178 Q) 0 0 5 [(3, .int (nI N)), (2, .int (nI j)), (0, .ref a), (1, .int v)] [] (flI I a j v) S := by
  intro m
  induction m with
  | zero =>
    intro j hj
    refine r_iload_n (pc' := 6) dJ7_fill_53178_5 rfl 1 rfl rfl ?_
    refine r_iload_n (pc' := 7) dJ7_fill_53178_6 rfl 0 rfl rfl ?_
    refine r_icmp_ge (tgt := 20) (pc' := 10) dJ7_fill_53178_7 rfl rfl (fun h7 => ?_) (fun h7 => ?_)
    · rw [show j = N by omega]
      exact r_ret dJ7_fill_53178_20 rfl (by decide) (by decide) (hQ)
    · exact absurd (nI_le (show N ≤ j by omega) (by omega)) h7
  | succ m ih =>
    intro j hj
    refine r_iload_n (pc' := 6) dJ7_fill_53178_5 rfl 1 rfl rfl ?_
    refine r_iload_n (pc' := 7) dJ7_fill_53178_6 rfl 0 rfl rfl ?_
    refine r_icmp_ge (tgt := 20) (pc' := 10) dJ7_fill_53178_7 rfl rfl (fun h7 => ?_) (fun h7 => ?_)
    · exact absurd h7 (nI_ge (show j < N by omega) hN)
    · refine r_aload_n (pc' := 11) dJ7_fill_53178_10 rfl 2 rfl rfl ?_
      refine r_iload_n (pc' := 12) dJ7_fill_53178_11 rfl 1 rfl rfl ?_
      refine r_iload_n (pc' := 13) dJ7_fill_53178_12 rfl 3 rfl rfl ?_
      refine r_iastore (pc' := 14) dJ7_fill_53178_13 hA (vp_in_nI (show j < N by omega) hN) rfl ?_
      refine r_iinc (pc' := 17) (lv' := [(2, _), (3, _), (0, _), (1, _)]) dJ7_fill_53178_14 1 rfl rfl (by decide) rfl rfl ?_
      refine r_goto (tgt := 5) dJ7_fill_53178_17 rfl ?_
      refine aa_locs (ks := [1, 0, 2, 3]) (lv' := [(3, _), (2, _), (0, _), (1, _)]) rfl ?_
      rw [nI_clamp (show j < 2 ^ 31 by omega), ← flI_s]
      exact aa_lv (lv' := [(3, .int (nI N)), (2, .int (nI (j + 1))), (0, .ref a), (1, .int v)]) (by rw [nI_succ]; rfl) (ih (j + 1) (by omega))
set_option maxHeartbeats 2000000 in
theorem c_J7_fill_53178 {Ω : JO} {I : JI} {S : JS} {Q : JQ} {a N : Nat} {v : Int32} (hA : ArE 11 S a N) (hN : N < 2 ^ 31) (hQ : Q (.inl none) (flI I a N v) S) : Call Ω m_J7_fill_53178 [.ref a, .int v] I S Q := by
  refine call_of (by decide +kernel) rfl (Nat.le_of_ble_eq_true rfl) ?_
  change AA Ω m_J7_fill_53178 (FQ Ω m_J7_fill_53178 Q) 0 0 0 [(0, .ref a), (1, .int v)] [] I S
  refine r_iconst (pc' := 1) (v := 0) dJ7_fill_53178_0 (by decide) rfl ?_
  refine r_istore_n (pc' := 2) (lv' := [(2, _), (0, _), (1, _)]) dJ7_fill_53178_1 rfl (by decide) rfl rfl ?_
  refine r_aload_n (pc' := 3) dJ7_fill_53178_2 rfl 1 rfl rfl ?_
  refine r_alen (pc' := 4) dJ7_fill_53178_3 hA (by decide) rfl rfl ?_
  refine r_istore_n (pc' := 5) (lv' := [(3, _), (2, _), (0, _), (1, _)]) dJ7_fill_53178_4 rfl (by decide) rfl rfl ?_
  have h := l_J7_fill (Ω := Ω) hA hN hQ N 0 (by omega)
  rw [flI_0] at h
  exact h
def bcF (x : Int32) : Int32 :=
  let us := fun (x y : Int32) => (x.toUInt32 >>> (y.toUInt32 &&& Int32.toUInt32 31)).toInt32
  let a := x - (us x 1 &&& 1431655765)
  let b := (a &&& 858993459) + (us a 2 &&& 858993459)
  let c := (b + us b 4) &&& 252645135
  let d := c + us c 8
  (d + us d 16) &&& 63
set_option maxHeartbeats 2000000 in
theorem c_J6_bitCount_0f7a4 {Ω : JO} {I : JI} {S : JS} {Q : JQ} {x : Int32} (hQ : Q (.inl (some (.int (bcF x)))) I S) : Call Ω m_J6_bitCount_0f7a4 [.int x] I S Q := by
  refine call_of (by decide +kernel) rfl (Nat.le_of_ble_eq_true rfl) ?_
  change AA Ω m_J6_bitCount_0f7a4 (FQ Ω m_J6_bitCount_0f7a4 Q) 0 0 0 [(0, .int x)] [] I S
  refine r_iload_n (pc' := 1) dJ6_bitCount_0f7a4_0 rfl 0 rfl rfl ?_
  refine r_iload_n (pc' := 2) dJ6_bitCount_0f7a4_1 rfl 0 rfl rfl ?_
  refine r_iconst (pc' := 3) (v := 1) dJ6_bitCount_0f7a4_2 (by decide) rfl ?_
  refine r_iushr (pc' := 4) dJ6_bitCount_0f7a4_3 rfl ?_
  refine r_ldcw (pc' := 7) dJ6_bitCount_0f7a4_4 kw_J6_265 rfl ?_
  refine r_iand (pc' := 8) dJ6_bitCount_0f7a4_7 rfl ?_
  refine r_isub (pc' := 9) dJ6_bitCount_0f7a4_8 rfl ?_
  refine r_istore_n (pc' := 10) (lv' := [(0, _)]) dJ6_bitCount_0f7a4_9 rfl (by decide) rfl rfl ?_
  refine r_iload_n (pc' := 11) dJ6_bitCount_0f7a4_10 rfl 0 rfl rfl ?_
  refine r_ldcw (pc' := 14) dJ6_bitCount_0f7a4_11 kw_J6_266 rfl ?_
  refine r_iand (pc' := 15) dJ6_bitCount_0f7a4_14 rfl ?_
  refine r_iload_n (pc' := 16) dJ6_bitCount_0f7a4_15 rfl 0 rfl rfl ?_
  refine r_iconst (pc' := 17) (v := 2) dJ6_bitCount_0f7a4_16 (by decide) rfl ?_
  refine r_iushr (pc' := 18) dJ6_bitCount_0f7a4_17 rfl ?_
  refine r_ldcw (pc' := 21) dJ6_bitCount_0f7a4_18 kw_J6_266 rfl ?_
  refine r_iand (pc' := 22) dJ6_bitCount_0f7a4_21 rfl ?_
  refine r_iadd (pc' := 23) dJ6_bitCount_0f7a4_22 rfl ?_
  refine r_istore_n (pc' := 24) (lv' := [(0, _)]) dJ6_bitCount_0f7a4_23 rfl (by decide) rfl rfl ?_
  refine r_iload_n (pc' := 25) dJ6_bitCount_0f7a4_24 rfl 0 rfl rfl ?_
  refine r_iload_n (pc' := 26) dJ6_bitCount_0f7a4_25 rfl 0 rfl rfl ?_
  refine r_iconst (pc' := 27) (v := 4) dJ6_bitCount_0f7a4_26 (by decide) rfl ?_
  refine r_iushr (pc' := 28) dJ6_bitCount_0f7a4_27 rfl ?_
  refine r_iadd (pc' := 29) dJ6_bitCount_0f7a4_28 rfl ?_
  refine r_ldcw (pc' := 32) dJ6_bitCount_0f7a4_29 kw_J6_267 rfl ?_
  refine r_iand (pc' := 33) dJ6_bitCount_0f7a4_32 rfl ?_
  refine r_istore_n (pc' := 34) (lv' := [(0, _)]) dJ6_bitCount_0f7a4_33 rfl (by decide) rfl rfl ?_
  refine r_iload_n (pc' := 35) dJ6_bitCount_0f7a4_34 rfl 0 rfl rfl ?_
  refine r_iload_n (pc' := 36) dJ6_bitCount_0f7a4_35 rfl 0 rfl rfl ?_
  refine r_bipush (pc' := 38) (v := 8) dJ6_bitCount_0f7a4_36 (by decide) rfl ?_
  refine r_iushr (pc' := 39) dJ6_bitCount_0f7a4_38 rfl ?_
  refine r_iadd (pc' := 40) dJ6_bitCount_0f7a4_39 rfl ?_
  refine r_istore_n (pc' := 41) (lv' := [(0, _)]) dJ6_bitCount_0f7a4_40 rfl (by decide) rfl rfl ?_
  refine r_iload_n (pc' := 42) dJ6_bitCount_0f7a4_41 rfl 0 rfl rfl ?_
  refine r_iload_n (pc' := 43) dJ6_bitCount_0f7a4_42 rfl 0 rfl rfl ?_
  refine r_bipush (pc' := 45) (v := 16) dJ6_bitCount_0f7a4_43 (by decide) rfl ?_
  refine r_iushr (pc' := 46) dJ6_bitCount_0f7a4_45 rfl ?_
  refine r_iadd (pc' := 47) dJ6_bitCount_0f7a4_46 rfl ?_
  refine r_istore_n (pc' := 48) (lv' := [(0, _)]) dJ6_bitCount_0f7a4_47 rfl (by decide) rfl rfl ?_
  refine r_iload_n (pc' := 49) dJ6_bitCount_0f7a4_48 rfl 0 rfl rfl ?_
  refine r_bipush (pc' := 51) (v := 63) dJ6_bitCount_0f7a4_49 (by decide) rfl ?_
  refine r_iand (pc' := 52) dJ6_bitCount_0f7a4_51 rfl ?_
  exact r_iret dJ6_bitCount_0f7a4_52 rfl (by decide) (by decide) (hQ)
def x7_clear (I : JI) (s : Nat) : JI := flI (flI (stI (stI (stI (stI (stI (stI I s 0 0) s 1 0) s 2 0) s 3 0) s 4 0) s 5 0) (s + 1) 8 0) (s + 2) 6 0
def cf1 (I : JI) (s o j : Nat) : JI := stI I s j (I o j)
def x7_copyFrom (I : JI) (s o : Nat) : JI := cpA (cpA (cpA (cpA (cpA (cpA (cf1 (cf1 (cf1 (cf1 (cf1 (cf1 I s o 0) s o 1) s o 2) s o 3) s o 4) s o 5) (o + 1) (s + 1) 8) (o + 2) (s + 2) 6) (o + 3) (s + 3) 12) (o + 4) (s + 4) 12) (o + 5) (s + 5) 60) (o + 6) (s + 6) 60
def x7_changeLifts (I : JI) (s : Nat) (c v : Int32) : JI := stI (ptI I (s + 3) 12 c v) s 5 1
def x7_punchCard (I : JI) (s : Nat) (c h : Int32) : JI := x7_changeLifts I s c (atF (I (s + 3)) 12 c ^^^ ((1 : Int32) <<< (h &&& 31)))
def x7_changeColour (I : JI) (s : Nat) (c v : Int32) : JI := stI (ptI I (s + 4) 12 c v) s 5 1
def x7_exchangeCards (I : JI) (s : Nat) (c o : Int32) : JI :=
  let I1 := x7_changeLifts I s c (atF (I (s + 3)) 12 o)
  let I2 := x7_changeColour I1 s c (atF (I1 (s + 4)) 12 o)
  x7_changeColour (x7_changeLifts I2 s o (atF (I (s + 3)) 12 c)) s o (atF (I (s + 4)) 12 c)
def x7_addYarn (I : JI) (s : Nat) (c a : Int32) : JI := ptI I (s + 2) 6 c (atF (I (s + 2)) 6 c + a)
def x7_bring (I : JI) (s : Nat) (c a : Int32) : JI := stI (x7_addYarn I s c a) s 4 (x7_addYarn I s c a s 4 + a)
def x7_oilHarness (I : JI) (s : Nat) (h : Int32) : JI := stI (ptI I (s + 1) 8 h 0) s 1 (ptI I (s + 1) 8 h 0 s 1 &&& (((1 : Int32) <<< (h &&& 31)) ^^^ (-1)))
def x7_mendWarp (I : JI) (s : Nat) (w : Int32) : JI := stI I s 2 (I s 2 &&& (((1 : Int32) <<< (w &&& 31)) ^^^ (-1)))
def x7_addRow (I : JI) (s : Nat) (sh wf : Int32) : JI :=
  let I1 := ptI I (s + 5) 60 (I s 3) sh
  let I2 := ptI I1 (s + 6) 60 (I1 s 3) wf
  stI I2 s 3 (I2 s 3 + 1)
def ysum (f : Nat → Int32) : Nat → Int32
  | 0 => 0
  | j + 1 => ysum f j + atF f 6 (nI j)
set_option maxHeartbeats 2000000 in
theorem c_X7_clear {Ω : JO} {I : JI} {S : JS} {Q : JQ} {s : Nat}  (hs : Is7 S s) (hQ : Q (.inl none) (x7_clear I s) S) : Call Ω m_X7_clear [.ref s] I S Q := by
  refine call_of (by decide +kernel) rfl (Nat.le_of_ble_eq_true rfl) ?_
  change AA Ω m_X7_clear (FQ Ω m_X7_clear Q) 0 0 0 [(0, .ref s)] [] I S
  refine r_aload_n (pc' := 1) dX7_clear_0 rfl 0 rfl rfl ?_
  refine r_iconst (pc' := 2) (v := 0) dX7_clear_1 (by decide) rfl ?_
  refine r_putI (pc' := 5) dX7_clear_2 fa_X7_9 hs.o rfl rfl ?_
  refine r_aload_n (pc' := 6) dX7_clear_5 rfl 0 rfl rfl ?_
  refine r_iconst (pc' := 7) (v := 0) dX7_clear_6 (by decide) rfl ?_
  refine r_putI (pc' := 10) dX7_clear_7 fa_X7_15 hs.o rfl rfl ?_
  refine r_aload_n (pc' := 11) dX7_clear_10 rfl 0 rfl rfl ?_
  refine r_iconst (pc' := 12) (v := 0) dX7_clear_11 (by decide) rfl ?_
  refine r_putI (pc' := 15) dX7_clear_12 fa_X7_18 hs.o rfl rfl ?_
  refine r_aload_n (pc' := 16) dX7_clear_15 rfl 0 rfl rfl ?_
  refine r_iconst (pc' := 17) (v := 0) dX7_clear_16 (by decide) rfl ?_
  refine r_putI (pc' := 20) dX7_clear_17 fa_X7_21 hs.o rfl rfl ?_
  refine r_aload_n (pc' := 21) dX7_clear_20 rfl 0 rfl rfl ?_
  refine r_iconst (pc' := 22) (v := 0) dX7_clear_21 (by decide) rfl ?_
  refine r_putI (pc' := 25) dX7_clear_22 fa_X7_24 hs.o rfl rfl ?_
  refine r_aload_n (pc' := 26) dX7_clear_25 rfl 0 rfl rfl ?_
  refine r_iconst (pc' := 27) (v := 0) dX7_clear_26 (by decide) rfl ?_
  refine r_putZ (pc' := 30) dX7_clear_27 fa_X7_27 hs.o rfl (by decide) rfl ?_
  refine r_aload_n (pc' := 31) dX7_clear_30 rfl 0 rfl rfl ?_
  refine r_getO (pc' := 34) dX7_clear_31 fa_X7_31 hs.o rfl hs.r6 rfl ?_
  refine r_iconst (pc' := 35) (v := 0) dX7_clear_34 (by decide) rfl ?_
  refine r_callS2 (pc' := 38) (k' := 0) (n' := 0) dX7_clear_35 mb_J7_fill_53178 ms_J7_fill_53178 lk_X7_50 rfl rfl rfl (Nat.le_of_ble_eq_true rfl) rfl (c_J7_fill_53178 hs.c6 (by decide) (cpV ?_))
  refine r_aload_n (pc' := 39) dX7_clear_38 rfl 0 rfl rfl ?_
  refine r_getO (pc' := 42) dX7_clear_39 fa_X7_35 hs.o rfl hs.r7 rfl ?_
  refine r_iconst (pc' := 43) (v := 0) dX7_clear_42 (by decide) rfl ?_
  refine r_callS2 (pc' := 46) (k' := 0) (n' := 0) dX7_clear_43 mb_J7_fill_53178 ms_J7_fill_53178 lk_X7_50 rfl rfl rfl (Nat.le_of_ble_eq_true rfl) rfl (c_J7_fill_53178 hs.c7 (by decide) (cpV ?_))
  exact r_ret dX7_clear_46 rfl (by decide) (by decide) (hQ)
set_option maxHeartbeats 2000000 in
theorem c_X7_copyFrom {Ω : JO} {I : JI} {S : JS} {Q : JQ} {s : Nat} {o : Nat} (hz : I o 5 = 0 ∨ I o 5 = 1) (hs : Is7 S s) (ho : Is7 S o) (hQ : Q (.inl none) (x7_copyFrom I s o) S) : Call Ω m_X7_copyFrom [.ref s, .ref o] I S Q := by
  refine call_of (by decide +kernel) rfl (Nat.le_of_ble_eq_true rfl) ?_
  change AA Ω m_X7_copyFrom (FQ Ω m_X7_copyFrom Q) 0 0 0 [(0, .ref s), (1, .ref o)] [] I S
  refine r_aload_n (pc' := 1) dX7_copyFrom_0 rfl 0 rfl rfl ?_
  refine r_aload_n (pc' := 2) dX7_copyFrom_1 rfl 1 rfl rfl ?_
  refine r_getI (pc' := 5) dX7_copyFrom_2 fa_X7_9 ho.o rfl rfl ?_
  refine r_putI (pc' := 8) dX7_copyFrom_5 fa_X7_9 hs.o rfl rfl ?_
  refine r_aload_n (pc' := 9) dX7_copyFrom_8 rfl 0 rfl rfl ?_
  refine r_aload_n (pc' := 10) dX7_copyFrom_9 rfl 1 rfl rfl ?_
  refine r_getI (pc' := 13) dX7_copyFrom_10 fa_X7_15 ho.o rfl rfl ?_
  refine r_putI (pc' := 16) dX7_copyFrom_13 fa_X7_15 hs.o rfl rfl ?_
  refine r_aload_n (pc' := 17) dX7_copyFrom_16 rfl 0 rfl rfl ?_
  refine r_aload_n (pc' := 18) dX7_copyFrom_17 rfl 1 rfl rfl ?_
  refine r_getI (pc' := 21) dX7_copyFrom_18 fa_X7_18 ho.o rfl rfl ?_
  refine r_putI (pc' := 24) dX7_copyFrom_21 fa_X7_18 hs.o rfl rfl ?_
  refine r_aload_n (pc' := 25) dX7_copyFrom_24 rfl 0 rfl rfl ?_
  refine r_aload_n (pc' := 26) dX7_copyFrom_25 rfl 1 rfl rfl ?_
  refine r_getI (pc' := 29) dX7_copyFrom_26 fa_X7_21 ho.o rfl rfl ?_
  refine r_putI (pc' := 32) dX7_copyFrom_29 fa_X7_21 hs.o rfl rfl ?_
  refine r_aload_n (pc' := 33) dX7_copyFrom_32 rfl 0 rfl rfl ?_
  refine r_aload_n (pc' := 34) dX7_copyFrom_33 rfl 1 rfl rfl ?_
  refine r_getI (pc' := 37) dX7_copyFrom_34 fa_X7_24 ho.o rfl rfl ?_
  refine r_putI (pc' := 40) dX7_copyFrom_37 fa_X7_24 hs.o rfl rfl ?_
  refine r_aload_n (pc' := 41) dX7_copyFrom_40 rfl 0 rfl rfl ?_
  refine r_aload_n (pc' := 42) dX7_copyFrom_41 rfl 1 rfl rfl ?_
  refine r_getI (pc' := 45) dX7_copyFrom_42 fa_X7_27 ho.o rfl rfl ?_
  refine r_putZ (pc' := 48) dX7_copyFrom_45 fa_X7_27 hs.o rfl (by simpa [stI] using hz) rfl ?_
  refine r_aload_n (pc' := 49) dX7_copyFrom_48 rfl 1 rfl rfl ?_
  refine r_getO (pc' := 52) dX7_copyFrom_49 fa_X7_31 ho.o rfl ho.r6 rfl ?_
  refine r_aload_n (pc' := 53) dX7_copyFrom_52 rfl 0 rfl rfl ?_
  refine r_getO (pc' := 56) dX7_copyFrom_53 fa_X7_31 hs.o rfl hs.r6 rfl ?_
  refine r_callSN2 (pc' := 59) (k' := 0) (n' := 0) dX7_copyFrom_56 mb_X8_copy ms_X8_copy ln_X7_56 rfl rfl rfl (Nat.le_of_ble_eq_true rfl) rfl (c_X8_copy ho.c6 hs.c6 (by decide) (cpV ?_))
  refine r_aload_n (pc' := 60) dX7_copyFrom_59 rfl 1 rfl rfl ?_
  refine r_getO (pc' := 63) dX7_copyFrom_60 fa_X7_35 ho.o rfl ho.r7 rfl ?_
  refine r_aload_n (pc' := 64) dX7_copyFrom_63 rfl 0 rfl rfl ?_
  refine r_getO (pc' := 67) dX7_copyFrom_64 fa_X7_35 hs.o rfl hs.r7 rfl ?_
  refine r_callSN2 (pc' := 70) (k' := 0) (n' := 0) dX7_copyFrom_67 mb_X8_copy ms_X8_copy ln_X7_56 rfl rfl rfl (Nat.le_of_ble_eq_true rfl) rfl (c_X8_copy ho.c7 hs.c7 (by decide) (cpV ?_))
  refine r_aload_n (pc' := 71) dX7_copyFrom_70 rfl 1 rfl rfl ?_
  refine r_getO (pc' := 74) dX7_copyFrom_71 fa_X7_38 ho.o rfl ho.r8 rfl ?_
  refine r_aload_n (pc' := 75) dX7_copyFrom_74 rfl 0 rfl rfl ?_
  refine r_getO (pc' := 78) dX7_copyFrom_75 fa_X7_38 hs.o rfl hs.r8 rfl ?_
  refine r_callSN2 (pc' := 81) (k' := 0) (n' := 0) dX7_copyFrom_78 mb_X8_copy ms_X8_copy ln_X7_56 rfl rfl rfl (Nat.le_of_ble_eq_true rfl) rfl (c_X8_copy ho.c8 hs.c8 (by decide) (cpV ?_))
  refine r_aload_n (pc' := 82) dX7_copyFrom_81 rfl 1 rfl rfl ?_
  refine r_getO (pc' := 85) dX7_copyFrom_82 fa_X7_41 ho.o rfl ho.r9 rfl ?_
  refine r_aload_n (pc' := 86) dX7_copyFrom_85 rfl 0 rfl rfl ?_
  refine r_getO (pc' := 89) dX7_copyFrom_86 fa_X7_41 hs.o rfl hs.r9 rfl ?_
  refine r_callSN2 (pc' := 92) (k' := 0) (n' := 0) dX7_copyFrom_89 mb_X8_copy ms_X8_copy ln_X7_56 rfl rfl rfl (Nat.le_of_ble_eq_true rfl) rfl (c_X8_copy ho.c9 hs.c9 (by decide) (cpV ?_))
  refine r_aload_n (pc' := 93) dX7_copyFrom_92 rfl 1 rfl rfl ?_
  refine r_getO (pc' := 96) dX7_copyFrom_93 fa_X7_44 ho.o rfl ho.r10 rfl ?_
  refine r_aload_n (pc' := 97) dX7_copyFrom_96 rfl 0 rfl rfl ?_
  refine r_getO (pc' := 100) dX7_copyFrom_97 fa_X7_44 hs.o rfl hs.r10 rfl ?_
  refine r_callSN2 (pc' := 103) (k' := 0) (n' := 0) dX7_copyFrom_100 mb_X8_copy ms_X8_copy ln_X7_56 rfl rfl rfl (Nat.le_of_ble_eq_true rfl) rfl (c_X8_copy ho.c10 hs.c10 (by decide) (cpV ?_))
  refine r_aload_n (pc' := 104) dX7_copyFrom_103 rfl 1 rfl rfl ?_
  refine r_getO (pc' := 107) dX7_copyFrom_104 fa_X7_47 ho.o rfl ho.r11 rfl ?_
  refine r_aload_n (pc' := 108) dX7_copyFrom_107 rfl 0 rfl rfl ?_
  refine r_getO (pc' := 111) dX7_copyFrom_108 fa_X7_47 hs.o rfl hs.r11 rfl ?_
  refine r_callSN2 (pc' := 114) (k' := 0) (n' := 0) dX7_copyFrom_111 mb_X8_copy ms_X8_copy ln_X7_56 rfl rfl rfl (Nat.le_of_ble_eq_true rfl) rfl (c_X8_copy ho.c11 hs.c11 (by decide) (cpV ?_))
  exact r_ret dX7_copyFrom_114 rfl (by decide) (by decide) (hQ)
set_option maxHeartbeats 2000000 in
theorem c_X7_changeLifts {Ω : JO} {I : JI} {S : JS} {Q : JQ} {s : Nat} {c v : Int32} (hs : Is7 S s) (hQ : Q (.inl none) (x7_changeLifts I s c v) S) : Call Ω m_X7_changeLifts [.ref s, .int c, .int v] I S Q := by
  refine call_of (by decide +kernel) rfl (Nat.le_of_ble_eq_true rfl) ?_
  change AA Ω m_X7_changeLifts (FQ Ω m_X7_changeLifts Q) 0 0 0 [(0, .ref s), (1, .int c), (2, .int v)] [] I S
  refine r_aload_n (pc' := 1) dX7_changeLifts_0 rfl 0 rfl rfl ?_
  refine r_getO (pc' := 4) dX7_changeLifts_1 fa_X7_38 hs.o rfl hs.r8 rfl ?_
  refine r_iload_n (pc' := 5) dX7_changeLifts_4 rfl 1 rfl rfl ?_
  refine r_iload_n (pc' := 6) dX7_changeLifts_5 rfl 2 rfl rfl ?_
  refine r_callSN3 (pc' := 9) (k' := 0) (n' := 0) dX7_changeLifts_6 mb_X8_put ms_X8_put ln_X7_60 rfl rfl rfl (Nat.le_of_ble_eq_true rfl) rfl (c_X8_put hs.c8 (by decide) (cpV ?_))
  refine r_aload_n (pc' := 10) dX7_changeLifts_9 rfl 0 rfl rfl ?_
  refine r_iconst (pc' := 11) (v := 1) dX7_changeLifts_10 (by decide) rfl ?_
  refine r_putZ (pc' := 14) dX7_changeLifts_11 fa_X7_27 hs.o rfl (by decide) rfl ?_
  exact r_ret dX7_changeLifts_14 rfl (by decide) (by decide) (hQ)
set_option maxHeartbeats 2000000 in
theorem c_X7_punchCard {Ω : JO} {I : JI} {S : JS} {Q : JQ} {s : Nat} {c h : Int32} (hs : Is7 S s) (hQ : Q (.inl none) (x7_punchCard I s c h) S) : Call Ω m_X7_punchCard [.ref s, .int c, .int h] I S Q := by
  refine call_of (by decide +kernel) rfl (Nat.le_of_ble_eq_true rfl) ?_
  change AA Ω m_X7_punchCard (FQ Ω m_X7_punchCard Q) 0 0 0 [(0, .ref s), (1, .int c), (2, .int h)] [] I S
  refine r_aload_n (pc' := 1) dX7_punchCard_0 rfl 0 rfl rfl ?_
  refine r_iload_n (pc' := 2) dX7_punchCard_1 rfl 1 rfl rfl ?_
  refine r_aload_n (pc' := 3) dX7_punchCard_2 rfl 0 rfl rfl ?_
  refine r_getO (pc' := 6) dX7_punchCard_3 fa_X7_38 hs.o rfl hs.r8 rfl ?_
  refine r_iload_n (pc' := 7) dX7_punchCard_6 rfl 1 rfl rfl ?_
  refine r_callSN2 (pc' := 10) (k' := 0) (n' := 0) dX7_punchCard_7 mb_X8_at ms_X8_at ln_X7_64 rfl rfl rfl (Nat.le_of_ble_eq_true rfl) rfl (c_X8_at hs.c8 (by decide) (cpI ?_))
  refine r_iconst (pc' := 11) (v := 1) dX7_punchCard_10 (by decide) rfl ?_
  refine r_iload_n (pc' := 12) dX7_punchCard_11 rfl 2 rfl rfl ?_
  refine r_ishl (pc' := 13) dX7_punchCard_12 rfl ?_
  refine r_ixor (pc' := 14) dX7_punchCard_13 rfl ?_
  refine r_callV2 (pc' := 17) (k' := 0) (n' := 0) dX7_punchCard_14 mb_X7_changeLifts mi_X7_changeLifts hs.o (by decide) rfl lk_X7_68 rfl rfl rfl (Nat.le_of_ble_eq_true rfl) rfl (c_X7_changeLifts hs (cpV ?_))
  exact r_ret dX7_punchCard_17 rfl (by decide) (by decide) (hQ)
set_option maxHeartbeats 2000000 in
theorem c_X7_changeColour {Ω : JO} {I : JI} {S : JS} {Q : JQ} {s : Nat} {c v : Int32} (hs : Is7 S s) (hQ : Q (.inl none) (x7_changeColour I s c v) S) : Call Ω m_X7_changeColour [.ref s, .int c, .int v] I S Q := by
  refine call_of (by decide +kernel) rfl (Nat.le_of_ble_eq_true rfl) ?_
  change AA Ω m_X7_changeColour (FQ Ω m_X7_changeColour Q) 0 0 0 [(0, .ref s), (1, .int c), (2, .int v)] [] I S
  refine r_aload_n (pc' := 1) dX7_changeColour_0 rfl 0 rfl rfl ?_
  refine r_getO (pc' := 4) dX7_changeColour_1 fa_X7_41 hs.o rfl hs.r9 rfl ?_
  refine r_iload_n (pc' := 5) dX7_changeColour_4 rfl 1 rfl rfl ?_
  refine r_iload_n (pc' := 6) dX7_changeColour_5 rfl 2 rfl rfl ?_
  refine r_callSN3 (pc' := 9) (k' := 0) (n' := 0) dX7_changeColour_6 mb_X8_put ms_X8_put ln_X7_60 rfl rfl rfl (Nat.le_of_ble_eq_true rfl) rfl (c_X8_put hs.c9 (by decide) (cpV ?_))
  refine r_aload_n (pc' := 10) dX7_changeColour_9 rfl 0 rfl rfl ?_
  refine r_iconst (pc' := 11) (v := 1) dX7_changeColour_10 (by decide) rfl ?_
  refine r_putZ (pc' := 14) dX7_changeColour_11 fa_X7_27 hs.o rfl (by decide) rfl ?_
  exact r_ret dX7_changeColour_14 rfl (by decide) (by decide) (hQ)
set_option maxHeartbeats 2000000 in
theorem c_X7_exchangeCards {Ω : JO} {I : JI} {S : JS} {Q : JQ} {s : Nat} {c o : Int32} (hs : Is7 S s) (hQ : Q (.inl none) (x7_exchangeCards I s c o) S) : Call Ω m_X7_exchangeCards [.ref s, .int c, .int o] I S Q := by
  refine call_of (by decide +kernel) rfl (Nat.le_of_ble_eq_true rfl) ?_
  change AA Ω m_X7_exchangeCards (FQ Ω m_X7_exchangeCards Q) 0 0 0 [(0, .ref s), (1, .int c), (2, .int o)] [] I S
  refine r_aload_n (pc' := 1) dX7_exchangeCards_0 rfl 0 rfl rfl ?_
  refine r_getO (pc' := 4) dX7_exchangeCards_1 fa_X7_38 hs.o rfl hs.r8 rfl ?_
  refine r_iload_n (pc' := 5) dX7_exchangeCards_4 rfl 1 rfl rfl ?_
  refine r_callSN2 (pc' := 8) (k' := 0) (n' := 0) dX7_exchangeCards_5 mb_X8_at ms_X8_at ln_X7_64 rfl rfl rfl (Nat.le_of_ble_eq_true rfl) rfl (c_X8_at hs.c8 (by decide) (cpI ?_))
  refine r_istore_n (pc' := 9) (lv' := [(3, _), (0, _), (1, _), (2, _)]) dX7_exchangeCards_8 rfl (by decide) rfl rfl ?_
  refine r_aload_n (pc' := 10) dX7_exchangeCards_9 rfl 1 rfl rfl ?_
  refine r_getO (pc' := 13) dX7_exchangeCards_10 fa_X7_41 hs.o rfl hs.r9 rfl ?_
  refine r_iload_n (pc' := 14) dX7_exchangeCards_13 rfl 2 rfl rfl ?_
  refine r_callSN2 (pc' := 17) (k' := 0) (n' := 0) dX7_exchangeCards_14 mb_X8_at ms_X8_at ln_X7_64 rfl rfl rfl (Nat.le_of_ble_eq_true rfl) rfl (c_X8_at hs.c9 (by decide) (cpI ?_))
  refine r_istore (pc' := 19) (lv' := [(4, _), (3, _), (0, _), (1, _), (2, _)]) dX7_exchangeCards_17 (by decide) rfl rfl ?_
  refine r_aload_n (pc' := 20) dX7_exchangeCards_19 rfl 2 rfl rfl ?_
  refine r_iload_n (pc' := 21) dX7_exchangeCards_20 rfl 3 rfl rfl ?_
  refine r_aload_n (pc' := 22) dX7_exchangeCards_21 rfl 2 rfl rfl ?_
  refine r_getO (pc' := 25) dX7_exchangeCards_22 fa_X7_38 hs.o rfl hs.r8 rfl ?_
  refine r_iload_n (pc' := 26) dX7_exchangeCards_25 rfl 4 rfl rfl ?_
  refine r_callSN2 (pc' := 29) (k' := 0) (n' := 0) dX7_exchangeCards_26 mb_X8_at ms_X8_at ln_X7_64 rfl rfl rfl (Nat.le_of_ble_eq_true rfl) rfl (c_X8_at hs.c8 (by decide) (cpI ?_))
  refine r_callV2 (pc' := 32) (k' := 0) (n' := 0) dX7_exchangeCards_29 mb_X7_changeLifts mi_X7_changeLifts hs.o (by decide) rfl lk_X7_68 rfl rfl rfl (Nat.le_of_ble_eq_true rfl) rfl (c_X7_changeLifts hs (cpV ?_))
  refine r_aload_n (pc' := 33) dX7_exchangeCards_32 rfl 2 rfl rfl ?_
  refine r_iload_n (pc' := 34) dX7_exchangeCards_33 rfl 3 rfl rfl ?_
  refine r_aload_n (pc' := 35) dX7_exchangeCards_34 rfl 2 rfl rfl ?_
  refine r_getO (pc' := 38) dX7_exchangeCards_35 fa_X7_41 hs.o rfl hs.r9 rfl ?_
  refine r_iload_n (pc' := 39) dX7_exchangeCards_38 rfl 4 rfl rfl ?_
  refine r_callSN2 (pc' := 42) (k' := 0) (n' := 0) dX7_exchangeCards_39 mb_X8_at ms_X8_at ln_X7_64 rfl rfl rfl (Nat.le_of_ble_eq_true rfl) rfl (c_X8_at hs.c9 (by decide) (cpI ?_))
  refine r_callV2 (pc' := 45) (k' := 0) (n' := 0) dX7_exchangeCards_42 mb_X7_changeColour mi_X7_changeColour hs.o (by decide) rfl lk_X7_72 rfl rfl rfl (Nat.le_of_ble_eq_true rfl) rfl (c_X7_changeColour hs (cpV ?_))
  refine r_aload_n (pc' := 46) dX7_exchangeCards_45 rfl 2 rfl rfl ?_
  refine r_iload_n (pc' := 47) dX7_exchangeCards_46 rfl 4 rfl rfl ?_
  refine r_iload_n (pc' := 48) dX7_exchangeCards_47 rfl 1 rfl rfl ?_
  refine r_callV2 (pc' := 51) (k' := 0) (n' := 0) dX7_exchangeCards_48 mb_X7_changeLifts mi_X7_changeLifts hs.o (by decide) rfl lk_X7_68 rfl rfl rfl (Nat.le_of_ble_eq_true rfl) rfl (c_X7_changeLifts hs (cpV ?_))
  refine r_aload_n (pc' := 52) dX7_exchangeCards_51 rfl 2 rfl rfl ?_
  refine r_iload_n (pc' := 53) dX7_exchangeCards_52 rfl 4 rfl rfl ?_
  refine r_iload (pc' := 55) dX7_exchangeCards_53 0 rfl rfl ?_
  refine r_callV2 (pc' := 58) (k' := 0) (n' := 0) dX7_exchangeCards_55 mb_X7_changeColour mi_X7_changeColour hs.o (by decide) rfl lk_X7_72 rfl rfl rfl (Nat.le_of_ble_eq_true rfl) rfl (c_X7_changeColour hs (cpV ?_))
  exact r_ret dX7_exchangeCards_58 rfl (by decide) (by decide) (hQ)
set_option maxHeartbeats 2000000 in
theorem c_X7_addYarn {Ω : JO} {I : JI} {S : JS} {Q : JQ} {s : Nat} {c v : Int32} (hs : Is7 S s) (hQ : Q (.inl none) (x7_addYarn I s c v) S) : Call Ω m_X7_addYarn [.ref s, .int c, .int v] I S Q := by
  refine call_of (by decide +kernel) rfl (Nat.le_of_ble_eq_true rfl) ?_
  change AA Ω m_X7_addYarn (FQ Ω m_X7_addYarn Q) 0 0 0 [(0, .ref s), (1, .int c), (2, .int v)] [] I S
  refine r_aload_n (pc' := 1) dX7_addYarn_0 rfl 0 rfl rfl ?_
  refine r_getO (pc' := 4) dX7_addYarn_1 fa_X7_35 hs.o rfl hs.r7 rfl ?_
  refine r_iload_n (pc' := 5) dX7_addYarn_4 rfl 1 rfl rfl ?_
  refine r_aload_n (pc' := 6) dX7_addYarn_5 rfl 0 rfl rfl ?_
  refine r_getO (pc' := 9) dX7_addYarn_6 fa_X7_35 hs.o rfl hs.r7 rfl ?_
  refine r_iload_n (pc' := 10) dX7_addYarn_9 rfl 1 rfl rfl ?_
  refine r_callSN2 (pc' := 13) (k' := 0) (n' := 0) dX7_addYarn_10 mb_X8_at ms_X8_at ln_X7_64 rfl rfl rfl (Nat.le_of_ble_eq_true rfl) rfl (c_X8_at hs.c7 (by decide) (cpI ?_))
  refine r_iload_n (pc' := 14) dX7_addYarn_13 rfl 2 rfl rfl ?_
  refine r_iadd (pc' := 15) dX7_addYarn_14 rfl ?_
  refine r_callSN3 (pc' := 18) (k' := 0) (n' := 0) dX7_addYarn_15 mb_X8_put ms_X8_put ln_X7_60 rfl rfl rfl (Nat.le_of_ble_eq_true rfl) rfl (c_X8_put hs.c7 (by decide) (cpV ?_))
  exact r_ret dX7_addYarn_18 rfl (by decide) (by decide) (hQ)
set_option maxHeartbeats 2000000 in
theorem c_X7_bring {Ω : JO} {I : JI} {S : JS} {Q : JQ} {s : Nat} {c v : Int32} (hs : Is7 S s) (hQ : Q (.inl none) (x7_bring I s c v) S) : Call Ω m_X7_bring [.ref s, .int c, .int v] I S Q := by
  refine call_of (by decide +kernel) rfl (Nat.le_of_ble_eq_true rfl) ?_
  change AA Ω m_X7_bring (FQ Ω m_X7_bring Q) 0 0 0 [(0, .ref s), (1, .int c), (2, .int v)] [] I S
  refine r_aload_n (pc' := 1) dX7_bring_0 rfl 0 rfl rfl ?_
  refine r_iload_n (pc' := 2) dX7_bring_1 rfl 1 rfl rfl ?_
  refine r_iload_n (pc' := 3) dX7_bring_2 rfl 2 rfl rfl ?_
  refine r_callV2 (pc' := 6) (k' := 0) (n' := 0) dX7_bring_3 mb_X7_addYarn mi_X7_addYarn hs.o (by decide) rfl lk_X7_75 rfl rfl rfl (Nat.le_of_ble_eq_true rfl) rfl (c_X7_addYarn hs (cpV ?_))
  refine r_aload_n (pc' := 7) dX7_bring_6 rfl 0 rfl rfl ?_
  refine r_dup (pc' := 8) dX7_bring_7 rfl rfl ?_
  refine r_getI (pc' := 11) dX7_bring_8 fa_X7_24 hs.o rfl rfl ?_
  refine r_iload_n (pc' := 12) dX7_bring_11 rfl 2 rfl rfl ?_
  refine r_iadd (pc' := 13) dX7_bring_12 rfl ?_
  refine r_putI (pc' := 16) dX7_bring_13 fa_X7_24 hs.o rfl rfl ?_
  exact r_ret dX7_bring_16 rfl (by decide) (by decide) (hQ)
set_option maxHeartbeats 2000000 in
theorem c_X7_oilHarness {Ω : JO} {I : JI} {S : JS} {Q : JQ} {s : Nat} {h : Int32} (hs : Is7 S s) (hQ : Q (.inl none) (x7_oilHarness I s h) S) : Call Ω m_X7_oilHarness [.ref s, .int h] I S Q := by
  refine call_of (by decide +kernel) rfl (Nat.le_of_ble_eq_true rfl) ?_
  change AA Ω m_X7_oilHarness (FQ Ω m_X7_oilHarness Q) 0 0 0 [(0, .ref s), (1, .int h)] [] I S
  refine r_aload_n (pc' := 1) dX7_oilHarness_0 rfl 0 rfl rfl ?_
  refine r_getO (pc' := 4) dX7_oilHarness_1 fa_X7_31 hs.o rfl hs.r6 rfl ?_
  refine r_iload_n (pc' := 5) dX7_oilHarness_4 rfl 1 rfl rfl ?_
  refine r_iconst (pc' := 6) (v := 0) dX7_oilHarness_5 (by decide) rfl ?_
  refine r_callSN3 (pc' := 9) (k' := 0) (n' := 0) dX7_oilHarness_6 mb_X8_put ms_X8_put ln_X7_60 rfl rfl rfl (Nat.le_of_ble_eq_true rfl) rfl (c_X8_put hs.c6 (by decide) (cpV ?_))
  refine r_aload_n (pc' := 10) dX7_oilHarness_9 rfl 0 rfl rfl ?_
  refine r_dup (pc' := 11) dX7_oilHarness_10 rfl rfl ?_
  refine r_getI (pc' := 14) dX7_oilHarness_11 fa_X7_15 hs.o rfl rfl ?_
  refine r_iconst (pc' := 15) (v := 1) dX7_oilHarness_14 (by decide) rfl ?_
  refine r_iload_n (pc' := 16) dX7_oilHarness_15 rfl 1 rfl rfl ?_
  refine r_ishl (pc' := 17) dX7_oilHarness_16 rfl ?_
  refine r_iconst (pc' := 18) (v := -1) dX7_oilHarness_17 (by decide) rfl ?_
  refine r_ixor (pc' := 19) dX7_oilHarness_18 rfl ?_
  refine r_iand (pc' := 20) dX7_oilHarness_19 rfl ?_
  refine r_putI (pc' := 23) dX7_oilHarness_20 fa_X7_15 hs.o rfl rfl ?_
  exact r_ret dX7_oilHarness_23 rfl (by decide) (by decide) (hQ)
set_option maxHeartbeats 2000000 in
theorem c_X7_mendWarp {Ω : JO} {I : JI} {S : JS} {Q : JQ} {s : Nat} {v : Int32} (hs : Is7 S s) (hQ : Q (.inl none) (x7_mendWarp I s v) S) : Call Ω m_X7_mendWarp [.ref s, .int v] I S Q := by
  refine call_of (by decide +kernel) rfl (Nat.le_of_ble_eq_true rfl) ?_
  change AA Ω m_X7_mendWarp (FQ Ω m_X7_mendWarp Q) 0 0 0 [(0, .ref s), (1, .int v)] [] I S
  refine r_aload_n (pc' := 1) dX7_mendWarp_0 rfl 0 rfl rfl ?_
  refine r_dup (pc' := 2) dX7_mendWarp_1 rfl rfl ?_
  refine r_getI (pc' := 5) dX7_mendWarp_2 fa_X7_18 hs.o rfl rfl ?_
  refine r_iconst (pc' := 6) (v := 1) dX7_mendWarp_5 (by decide) rfl ?_
  refine r_iload_n (pc' := 7) dX7_mendWarp_6 rfl 1 rfl rfl ?_
  refine r_ishl (pc' := 8) dX7_mendWarp_7 rfl ?_
  refine r_iconst (pc' := 9) (v := -1) dX7_mendWarp_8 (by decide) rfl ?_
  refine r_ixor (pc' := 10) dX7_mendWarp_9 rfl ?_
  refine r_iand (pc' := 11) dX7_mendWarp_10 rfl ?_
  refine r_putI (pc' := 14) dX7_mendWarp_11 fa_X7_18 hs.o rfl rfl ?_
  exact r_ret dX7_mendWarp_14 rfl (by decide) (by decide) (hQ)
set_option maxHeartbeats 2000000 in
theorem c_X7_addRow {Ω : JO} {I : JI} {S : JS} {Q : JQ} {s : Nat} {a b : Int32} (hs : Is7 S s) (hQ : Q (.inl none) (x7_addRow I s a b) S) : Call Ω m_X7_addRow [.ref s, .int a, .int b] I S Q := by
  refine call_of (by decide +kernel) rfl (Nat.le_of_ble_eq_true rfl) ?_
  change AA Ω m_X7_addRow (FQ Ω m_X7_addRow Q) 0 0 0 [(0, .ref s), (1, .int a), (2, .int b)] [] I S
  refine r_aload_n (pc' := 1) dX7_addRow_0 rfl 0 rfl rfl ?_
  refine r_getO (pc' := 4) dX7_addRow_1 fa_X7_44 hs.o rfl hs.r10 rfl ?_
  refine r_aload_n (pc' := 5) dX7_addRow_4 rfl 0 rfl rfl ?_
  refine r_getI (pc' := 8) dX7_addRow_5 fa_X7_21 hs.o rfl rfl ?_
  refine r_iload_n (pc' := 9) dX7_addRow_8 rfl 1 rfl rfl ?_
  refine r_callSN3 (pc' := 12) (k' := 0) (n' := 0) dX7_addRow_9 mb_X8_put ms_X8_put ln_X7_60 rfl rfl rfl (Nat.le_of_ble_eq_true rfl) rfl (c_X8_put hs.c10 (by decide) (cpV ?_))
  refine r_aload_n (pc' := 13) dX7_addRow_12 rfl 0 rfl rfl ?_
  refine r_getO (pc' := 16) dX7_addRow_13 fa_X7_47 hs.o rfl hs.r11 rfl ?_
  refine r_aload_n (pc' := 17) dX7_addRow_16 rfl 0 rfl rfl ?_
  refine r_getI (pc' := 20) dX7_addRow_17 fa_X7_21 hs.o rfl rfl ?_
  refine r_iload_n (pc' := 21) dX7_addRow_20 rfl 2 rfl rfl ?_
  refine r_callSN3 (pc' := 24) (k' := 0) (n' := 0) dX7_addRow_21 mb_X8_put ms_X8_put ln_X7_60 rfl rfl rfl (Nat.le_of_ble_eq_true rfl) rfl (c_X8_put hs.c11 (by decide) (cpV ?_))
  refine r_aload_n (pc' := 25) dX7_addRow_24 rfl 0 rfl rfl ?_
  refine r_dup (pc' := 26) dX7_addRow_25 rfl rfl ?_
  refine r_getI (pc' := 29) dX7_addRow_26 fa_X7_21 hs.o rfl rfl ?_
  refine r_iconst (pc' := 30) (v := 1) dX7_addRow_29 (by decide) rfl ?_
  refine r_iadd (pc' := 31) dX7_addRow_30 rfl ?_
  refine r_putI (pc' := 34) dX7_addRow_31 fa_X7_21 hs.o rfl rfl ?_
  exact r_ret dX7_addRow_34 rfl (by decide) (by decide) (hQ)
set_option maxHeartbeats 2000000 in
theorem l_X7_yarnOfAllColours {Ω : JO} {I : JI} {S : JS} {Q : JQ} {s : Nat} (hs : Is7 S s) (hQ : Q (.inl (some (.int (ysum (I (s + 2)) 6)))) I S) : ∀ (m j : Nat), j + m = 6 → AA Ω m_X7_yarnOfAllColours (FQ Ω m_X7_yarnOfAllColours Q) 0 0 4 [(2, .int (nI j)), (1, .int (ysum (I (s + 2)) j)), (0, .ref s)] [] I S := by
  intro m
  induction m with
  | zero =>
    intro j hj
    refine r_iload_n (pc' := 5) dX7_yarnOfAllColours_4 rfl 0 rfl rfl ?_
    refine r_bipush (pc' := 7) (v := 6) dX7_yarnOfAllColours_5 (by decide) rfl ?_
    refine r_icmp_ge (tgt := 27) (pc' := 10) dX7_yarnOfAllColours_7 rfl rfl (fun h7 => ?_) (fun h7 => ?_)
    · have e : j = 6 := by omega
      subst e
      refine r_iload_n (pc' := 28) dX7_yarnOfAllColours_27 rfl 1 rfl rfl ?_
      exact r_iret dX7_yarnOfAllColours_28 rfl (by decide) (by decide) (hQ)
    · exact absurd (nI_le (show 6 ≤ j by omega) (by omega)) h7
  | succ m ih =>
    intro j hj
    refine r_iload_n (pc' := 5) dX7_yarnOfAllColours_4 rfl 0 rfl rfl ?_
    refine r_bipush (pc' := 7) (v := 6) dX7_yarnOfAllColours_5 (by decide) rfl ?_
    refine r_icmp_ge (tgt := 27) (pc' := 10) dX7_yarnOfAllColours_7 rfl rfl (fun h7 => ?_) (fun h7 => ?_)
    · exact absurd h7 (nI_ge (show j < 6 by omega) (by decide))
    · refine r_iload_n (pc' := 11) dX7_yarnOfAllColours_10 rfl 1 rfl rfl ?_
      refine r_aload_n (pc' := 12) dX7_yarnOfAllColours_11 rfl 2 rfl rfl ?_
      refine r_getO (pc' := 15) dX7_yarnOfAllColours_12 fa_X7_35 hs.o rfl hs.r7 rfl ?_
      refine r_iload_n (pc' := 16) dX7_yarnOfAllColours_15 rfl 0 rfl rfl ?_
      refine r_callSN2 (pc' := 19) (k' := 0) (n' := 0) dX7_yarnOfAllColours_16 mb_X8_at ms_X8_at ln_X7_64 rfl rfl rfl (Nat.le_of_ble_eq_true rfl) rfl (c_X8_at hs.c7 (by decide) (cpI ?_))
      refine r_iadd (pc' := 20) dX7_yarnOfAllColours_19 rfl ?_
      refine r_istore_n (pc' := 21) (lv' := [(1, _), (2, _), (0, _)]) dX7_yarnOfAllColours_20 rfl (by decide) rfl rfl ?_
      refine r_iinc (pc' := 24) (lv' := [(2, _), (1, _), (0, _)]) dX7_yarnOfAllColours_21 1 rfl rfl (by decide) rfl rfl ?_
      refine r_goto (tgt := 4) dX7_yarnOfAllColours_24 rfl ?_
      exact aa_lv (lv' := [(2, .int (nI (j + 1))), (1, .int (ysum (I (s + 2)) (j + 1))), (0, .ref s)]) (by rw [nI_succ]; rfl) (ih (j + 1) (by omega))
set_option maxHeartbeats 2000000 in
theorem c_X7_yarnOfAllColours {Ω : JO} {I : JI} {S : JS} {Q : JQ} {s : Nat} (hs : Is7 S s) (hQ : Q (.inl (some (.int (ysum (I (s + 2)) 6)))) I S) : Call Ω m_X7_yarnOfAllColours [.ref s] I S Q := by
  refine call_of (by decide +kernel) rfl (Nat.le_of_ble_eq_true rfl) ?_
  change AA Ω m_X7_yarnOfAllColours (FQ Ω m_X7_yarnOfAllColours Q) 0 0 0 [(0, .ref s)] [] I S
  refine r_iconst (pc' := 1) (v := 0) dX7_yarnOfAllColours_0 (by decide) rfl ?_
  refine r_istore_n (pc' := 2) (lv' := [(1, _), (0, _)]) dX7_yarnOfAllColours_1 rfl (by decide) rfl rfl ?_
  refine r_iconst (pc' := 3) (v := 0) dX7_yarnOfAllColours_2 (by decide) rfl ?_
  refine r_istore_n (pc' := 4) (lv' := [(2, _), (1, _), (0, _)]) dX7_yarnOfAllColours_3 rfl (by decide) rfl rfl ?_
  exact l_X7_yarnOfAllColours (Ω := Ω) hs hQ 6 0 (by omega)
