/-! Deck -/
theorem nI_inc (j : Nat) : nI j + Int32.ofInt 1 = nI (j + 1) := (nI_succ j).symm
theorem cl_le2 {B : Int32} {j : Nat} (hj : j < 2 ^ 31) : (B ≤ nI j) ↔ B.toNatClampNeg ≤ j := by
  have hb : B.toInt.toNat = B.toNatClampNeg := rfl
  rw [Int32.le_iff_toInt_le, nI_toInt hj]
  omega
theorem cl_lt2 {B : Int32} {j : Nat} (hj : j + 1 < 2 ^ 31) : (B < nI (j + 1)) ↔ B.toNatClampNeg ≤ j := by
  have hb : B.toInt.toNat = B.toNatClampNeg := rfl
  rw [Int32.lt_iff_toInt_lt, nI_toInt hj]
  omega
theorem pk_m1lt {a : Nat} (h : a < 2 ^ 31) : nI a + (-1) < nI a := by
  rw [Int32.lt_iff_toInt_lt, Int32.toInt_add, nI_toInt h, show (-1 : Int32).toInt = -1 from by decide]
  rw [Int.bmod_eq_of_le (by omega) (by omega)]
  omega
theorem cl_b (B : Int32) : B.toNatClampNeg < 2 ^ 31 := by
  have hb : B.toInt.toNat = B.toNatClampNeg := rfl
  have hB : B.toInt < 2 ^ 31 := Int32.toInt_lt B
  omega
def isOpB (c : Int32) : Bool := decide (c = 101) || decide (c = 102) || decide (200 ≤ c)
def x0_clear (I : JI) (d : Nat) : JI := stI (stI (stI (stI I d 1 0) d 3 0) d 4 0) d 7 0
def x0_start (I : JI) (d : Nat) (b : Int32) : Int32 := if b ≤ 0 then 0 else atF (I (d + 4)) 3 (b - 1)
def x0_addPart (I : JI) (d : Nat) (c : Int32) : JI := stI (ptI I (d + 1) 500 (I d 1) c) d 1 (ptI I (d + 1) 500 (I d 1) c d 1 + 1)
def x0_addPick (I : JI) (d : Nat) (c : Int32) : JI := stI (ptI I (d + 2) 400 (I d 3) c) d 3 (ptI I (d + 2) 400 (I d 3) c d 3 + 1)
def x0_addCardB (I : JI) (d : Nat) : Bool := decide (I d 3 - x0_start I d (I d 7) < 100)
def x0_addCard (I : JI) (d : Nat) (c : Int32) : JI := if x0_addCardB I d = true then stI (x0_addPick (x0_addPart I d c) d c) d 4 (mxF (x0_addPick (x0_addPart I d c) d c d 4) 1) else I
def x0_openPart (I : JI) (d : Nat) (c : Int32) : JI :=
  let I1 := x0_addPart I d c
  let I2 := ptI I1 (d + 3) 3 (I1 d 7) c
  let I3 := ptI I2 (d + 4) 3 (I2 d 7) (I2 d 3)
  let I4 := stI I3 d 7 (I3 d 7 + 1)
  stI I4 d 4 (mxF (I4 d 4) (I4 d 7 + 1))
def x0_pwc (c n : Int32) : Int32 := if c = 101 then 2 * n - 1 else if c = 102 then n else n * (c - 200)
def x0_cfr (I : JI) (d : Nat) (r : Int32) : Int32 := if 0 < I d 3 then atF (I (d + 2)) 400 (r - r / I d 3 * I d 3) else -1
def cpF (f : Nat → Int32) (c : Int32) : Nat → Int32
  | 0 => 0
  | j + 1 => if atF f 400 (nI j) = c then cpF f c j + 1 else cpF f c j
def raF (f : Nat → Int32) (p : Int32) : Nat → Nat → Bool
  | 0, _ => true
  | m + 1, j => if atF f 400 (nI j) = atF f 400 (nI j - p) then raF f p m (j + 1) else false
def lpF (f : Nat → Int32) (l : Int32) : Nat → Nat → Int32
  | 0, _ => 0
  | m + 1, j => if l - l / nI (j + 1) * nI (j + 1) = 0 ∧ raF f (nI (j + 1)) (l.toNatClampNeg - (j + 1)) (j + 1) = true then nI (j + 1) else lpF f l m (j + 1)
def paF (f : Nat → Int32) (l : Int32) : Nat → Nat → Bool
  | 0, _ => true
  | m + 1, j => if atF f 400 (nI j) = atF f 400 (l - 1 - nI j) then paF f l m (j + 1) else false
def mirI (d a : Nat) : Nat → JI → JI
  | 0, I => I
  | t + 1, I => mirI d a t (x0_addPick I d (atF (I (d + 2)) 400 (nI (a + t))))
def repI (d a : Nat) : Nat → Nat → JI → JI
  | 0, _, I => I
  | m + 1, j, I => repI d a m (j + 1) (x0_addPick I d (atF (I (d + 2)) 400 (nI a + nI j)))
def revI (d : Nat) : Nat → Int32 → Int32 → JI → JI
  | 0, _, _, I => I
  | m + 1, i, b, I => if i < b then revI d m (i + 1) (b + (-1)) (ptI (ptI I (d + 2) 400 i (atF (I (d + 2)) 400 b)) (d + 2) 400 b (atF (I (d + 2)) 400 i)) else I
set_option maxHeartbeats 2000000 in
theorem c_X0_clear {Ω : JO} {I : JI} {S : JS} {Q : JQ} {d : Nat}  (hd : Is0 S d) (hQ : Q (.inl none) (x0_clear I d) S) : Call Ω m_X0_clear [.ref d] I S Q := by
  refine call_of (by decide +kernel) rfl (Nat.le_of_ble_eq_true rfl) ?_
  change AA Ω m_X0_clear (FQ Ω m_X0_clear Q) 0 0 0 [(0, .ref d)] [] I S
  refine r_aload_n (pc' := 1) dX0_clear_0 rfl 0 rfl rfl ?_
  refine r_iconst (pc' := 2) (v := 0) dX0_clear_1 (by decide) rfl ?_
  refine r_putI (pc' := 5) dX0_clear_2 fa_X0_15 hd.o rfl rfl ?_
  refine r_aload_n (pc' := 6) dX0_clear_5 rfl 0 rfl rfl ?_
  refine r_iconst (pc' := 7) (v := 0) dX0_clear_6 (by decide) rfl ?_
  refine r_putI (pc' := 10) dX0_clear_7 fa_X0_22 hd.o rfl rfl ?_
  refine r_aload_n (pc' := 11) dX0_clear_10 rfl 0 rfl rfl ?_
  refine r_iconst (pc' := 12) (v := 0) dX0_clear_11 (by decide) rfl ?_
  refine r_putI (pc' := 15) dX0_clear_12 fa_X0_25 hd.o rfl rfl ?_
  refine r_aload_n (pc' := 16) dX0_clear_15 rfl 0 rfl rfl ?_
  refine r_iconst (pc' := 17) (v := 0) dX0_clear_16 (by decide) rfl ?_
  refine r_putI (pc' := 20) dX0_clear_17 fa_X0_34 hd.o rfl rfl ?_
  exact r_ret dX0_clear_20 rfl (by decide) (by decide) (hQ)

set_option maxHeartbeats 2000000 in
theorem c_X0_isNestingFull {Ω : JO} {I : JI} {S : JS} {Q : JQ} {d : Nat}  (hd : Is0 S d) (hQ : Q (.inl (some (.int (zb (decide (3 ≤ I d 7)))))) (I) S) : Call Ω m_X0_isNestingFull [.ref d] I S Q := by
  refine call_of (by decide +kernel) rfl (Nat.le_of_ble_eq_true rfl) ?_
  change AA Ω m_X0_isNestingFull (FQ Ω m_X0_isNestingFull Q) 0 0 0 [(0, .ref d)] [] I S
  refine r_aload_n (pc' := 1) dX0_isNestingFull_0 rfl 0 rfl rfl ?_
  refine r_getI (pc' := 4) dX0_isNestingFull_1 fa_X0_34 hd.o rfl rfl ?_
  refine r_iconst (pc' := 5) (v := 3) dX0_isNestingFull_4 (by decide) rfl ?_
  refine r_icmp_lt (tgt := 12) (pc' := 8) dX0_isNestingFull_5 rfl rfl (fun h5 => ?_) (fun h5 => ?_)
  · refine r_iconst (pc' := 13) (v := 0) dX0_isNestingFull_12 (by decide) rfl ?_
    exact r_zret dX0_isNestingFull_13 rfl (by first | exact zb01 _ | decide) (by decide) (by decide) (by first | (rw [show decide (3 ≤ I d 7) = true by simp_all []] at hQ; exact hQ) | (rw [show decide (3 ≤ I d 7) = false by simp_all []] at hQ; exact hQ))
  · refine r_iconst (pc' := 9) (v := 1) dX0_isNestingFull_8 (by decide) rfl ?_
    refine r_goto (tgt := 13) dX0_isNestingFull_9 rfl ?_
    exact r_zret dX0_isNestingFull_13 rfl (by first | exact zb01 _ | decide) (by decide) (by decide) (by first | (rw [show decide (3 ≤ I d 7) = true by simp_all []] at hQ; exact hQ) | (rw [show decide (3 ≤ I d 7) = false by simp_all []] at hQ; exact hQ))
set_option maxHeartbeats 2000000 in
theorem c_X0_addPart {Ω : JO} {I : JI} {S : JS} {Q : JQ} {d : Nat} {c : Int32} (hd : Is0 S d) (hQ : Q (.inl none) (x0_addPart I d c) S) : Call Ω m_X0_addPart [.ref d, .int c] I S Q := by
  refine call_of (by decide +kernel) rfl (Nat.le_of_ble_eq_true rfl) ?_
  change AA Ω m_X0_addPart (FQ Ω m_X0_addPart Q) 0 0 0 [(0, .ref d), (1, .int c)] [] I S
  refine r_aload_n (pc' := 1) dX0_addPart_0 rfl 0 rfl rfl ?_
  refine r_getO (pc' := 4) dX0_addPart_1 fa_X0_9 hd.o rfl hd.r0 rfl ?_
  refine r_aload_n (pc' := 5) dX0_addPart_4 rfl 0 rfl rfl ?_
  refine r_getI (pc' := 8) dX0_addPart_5 fa_X0_15 hd.o rfl rfl ?_
  refine r_iload_n (pc' := 9) dX0_addPart_8 rfl 1 rfl rfl ?_
  refine r_callSN3 (pc' := 12) (k' := 0) (n' := 0) dX0_addPart_9 mb_X8_put ms_X8_put ln_X0_45 rfl rfl rfl (Nat.le_of_ble_eq_true rfl) rfl (c_X8_put hd.c0 (by decide) (cpV ?_))
  refine r_aload_n (pc' := 13) dX0_addPart_12 rfl 0 rfl rfl ?_
  refine r_dup (pc' := 14) dX0_addPart_13 rfl rfl ?_
  refine r_getI (pc' := 17) dX0_addPart_14 fa_X0_15 hd.o rfl rfl ?_
  refine r_iconst (pc' := 18) (v := 1) dX0_addPart_17 (by decide) rfl ?_
  refine r_iadd (pc' := 19) dX0_addPart_18 rfl ?_
  refine r_putI (pc' := 22) dX0_addPart_19 fa_X0_15 hd.o rfl rfl ?_
  exact r_ret dX0_addPart_22 rfl (by decide) (by decide) (hQ)
set_option maxHeartbeats 2000000 in
theorem c_X0_startOfList {Ω : JO} {I : JI} {S : JS} {Q : JQ} {d : Nat} {b : Int32} (hd : Is0 S d) (hQ : Q (.inl (some (.int (x0_start I d b)))) (I) S) : Call Ω m_X0_startOfList [.ref d, .int b] I S Q := by
  refine call_of (by decide +kernel) rfl (Nat.le_of_ble_eq_true rfl) ?_
  change AA Ω m_X0_startOfList (FQ Ω m_X0_startOfList Q) 0 0 0 [(0, .ref d), (1, .int b)] [] I S
  refine r_iload_n (pc' := 1) dX0_startOfList_0 rfl 1 rfl rfl ?_
  refine r_if_gt (tgt := 8) (pc' := 4) dX0_startOfList_1 rfl rfl (fun h1 => ?_) (fun h1 => ?_)
  · rw [x0_start, if_neg (Int32.not_le.mpr h1)] at hQ
    refine r_aload_n (pc' := 9) dX0_startOfList_8 rfl 0 rfl rfl ?_
    refine r_getO (pc' := 12) dX0_startOfList_9 fa_X0_31 hd.o rfl hd.r6 rfl ?_
    refine r_iload_n (pc' := 13) dX0_startOfList_12 rfl 1 rfl rfl ?_
    refine r_iconst (pc' := 14) (v := 1) dX0_startOfList_13 (by decide) rfl ?_
    refine r_isub (pc' := 15) dX0_startOfList_14 rfl ?_
    refine r_callSN2 (pc' := 18) (k' := 0) (n' := 0) dX0_startOfList_15 mb_X8_at ms_X8_at ln_X0_55 rfl rfl rfl (Nat.le_of_ble_eq_true rfl) rfl (c_X8_at hd.c6 (by decide) (cpI ?_))
    exact r_iret dX0_startOfList_18 rfl (by decide) (by decide) (hQ)
  · rw [x0_start, if_pos (Int32.not_lt.mp h1)] at hQ
    refine r_iconst (pc' := 5) (v := 0) dX0_startOfList_4 (by decide) rfl ?_
    refine r_goto (tgt := 18) dX0_startOfList_5 rfl ?_
    exact r_iret dX0_startOfList_18 rfl (by decide) (by decide) (hQ)
set_option maxHeartbeats 2000000 in
theorem c_X0_picksWhenClosed {Ω : JO} {I : JI} {S : JS} {Q : JQ} {c n : Int32} (hQ : Q (.inl (some (.int (x0_pwc c n)))) (I) S) : Call Ω m_X0_picksWhenClosed [.int c, .int n] I S Q := by
  refine call_of (by decide +kernel) rfl (Nat.le_of_ble_eq_true rfl) ?_
  change AA Ω m_X0_picksWhenClosed (FQ Ω m_X0_picksWhenClosed Q) 0 0 0 [(0, .int c), (1, .int n)] [] I S
  refine r_iload_n (pc' := 1) dX0_picksWhenClosed_0 rfl 0 rfl rfl ?_
  refine r_bipush (pc' := 3) (v := 101) dX0_picksWhenClosed_1 (by decide) rfl ?_
  refine r_icmp_ne (tgt := 12) (pc' := 6) dX0_picksWhenClosed_3 rfl rfl (fun h3 => ?_) (fun h3 => ?_)
  · rw [x0_pwc, if_neg h3] at hQ
    refine r_iload_n (pc' := 13) dX0_picksWhenClosed_12 rfl 0 rfl rfl ?_
    refine r_bipush (pc' := 15) (v := 102) dX0_picksWhenClosed_13 (by decide) rfl ?_
    refine r_icmp_ne (tgt := 22) (pc' := 18) dX0_picksWhenClosed_15 rfl rfl (fun h15 => ?_) (fun h15 => ?_)
    · rw [if_neg h15] at hQ
      refine r_iload_n (pc' := 23) dX0_picksWhenClosed_22 rfl 1 rfl rfl ?_
      refine r_iload_n (pc' := 24) dX0_picksWhenClosed_23 rfl 0 rfl rfl ?_
      refine r_sipush (pc' := 27) (v := 200) dX0_picksWhenClosed_24 (by decide) rfl ?_
      refine r_isub (pc' := 28) dX0_picksWhenClosed_27 rfl ?_
      refine r_imul (pc' := 29) dX0_picksWhenClosed_28 rfl ?_
      exact r_iret dX0_picksWhenClosed_29 rfl (by decide) (by decide) (hQ)
    · rw [if_pos h15] at hQ
      refine r_iload_n (pc' := 19) dX0_picksWhenClosed_18 rfl 1 rfl rfl ?_
      refine r_goto (tgt := 29) dX0_picksWhenClosed_19 rfl ?_
      exact r_iret dX0_picksWhenClosed_29 rfl (by decide) (by decide) (hQ)
  · rw [x0_pwc, if_pos h3] at hQ
    refine r_iconst (pc' := 7) (v := 2) dX0_picksWhenClosed_6 (by decide) rfl ?_
    refine r_iload_n (pc' := 8) dX0_picksWhenClosed_7 rfl 1 rfl rfl ?_
    refine r_imul (pc' := 9) dX0_picksWhenClosed_8 rfl ?_
    refine r_iconst (pc' := 10) (v := 1) dX0_picksWhenClosed_9 (by decide) rfl ?_
    refine r_isub (pc' := 11) dX0_picksWhenClosed_10 rfl ?_
    exact r_iret dX0_picksWhenClosed_11 rfl (by decide) (by decide) (hQ)
set_option maxHeartbeats 2000000 in
theorem c_X0_addCard {Ω : JO} {I : JI} {S : JS} {Q : JQ} {d : Nat} {c : Int32} (hd : Is0 S d) (hQ : Q (.inl (some (.int (zb (x0_addCardB I d))))) (x0_addCard I d c) S) : Call Ω m_X0_addCard [.ref d, .int c] I S Q := by
  refine call_of (by decide +kernel) rfl (Nat.le_of_ble_eq_true rfl) ?_
  change AA Ω m_X0_addCard (FQ Ω m_X0_addCard Q) 0 0 0 [(0, .ref d), (1, .int c)] [] I S
  refine r_aload_n (pc' := 1) dX0_addCard_0 rfl 0 rfl rfl ?_
  refine r_getI (pc' := 4) dX0_addCard_1 fa_X0_22 hd.o rfl rfl ?_
  refine r_aload_n (pc' := 5) dX0_addCard_4 rfl 0 rfl rfl ?_
  refine r_aload_n (pc' := 6) dX0_addCard_5 rfl 0 rfl rfl ?_
  refine r_getI (pc' := 9) dX0_addCard_6 fa_X0_34 hd.o rfl rfl ?_
  refine r_callV1 (pc' := 12) (k' := 0) (n' := 0) dX0_addCard_9 mb_X0_startOfList mi_X0_startOfList hd.o (by decide) rfl lk_X0_37 rfl rfl rfl (Nat.le_of_ble_eq_true rfl) rfl (c_X0_startOfList hd (cpI ?_))
  refine r_isub (pc' := 13) dX0_addCard_12 rfl ?_
  refine r_bipush (pc' := 15) (v := 100) dX0_addCard_13 (by decide) rfl ?_
  refine r_icmp_lt (tgt := 20) (pc' := 18) dX0_addCard_15 rfl rfl (fun h15 => ?_) (fun h15 => ?_)
  · rw [x0_addCard, if_pos (show x0_addCardB I d = true from decide_eq_true h15), show x0_addCardB I d = true from decide_eq_true h15] at hQ
    refine r_aload_n (pc' := 21) dX0_addCard_20 rfl 0 rfl rfl ?_
    refine r_iload_n (pc' := 22) dX0_addCard_21 rfl 1 rfl rfl ?_
    refine r_callV1 (pc' := 25) (k' := 0) (n' := 0) dX0_addCard_22 mb_X0_addPart mi_X0_addPart hd.o (by decide) rfl lk_X0_41 rfl rfl rfl (Nat.le_of_ble_eq_true rfl) rfl (c_X0_addPart hd (cpV ?_))
    refine r_aload_n (pc' := 26) dX0_addCard_25 rfl 0 rfl rfl ?_
    refine r_getO (pc' := 29) dX0_addCard_26 fa_X0_19 hd.o rfl hd.r2 rfl ?_
    refine r_aload_n (pc' := 30) dX0_addCard_29 rfl 0 rfl rfl ?_
    refine r_getI (pc' := 33) dX0_addCard_30 fa_X0_22 hd.o rfl rfl ?_
    refine r_iload_n (pc' := 34) dX0_addCard_33 rfl 1 rfl rfl ?_
    refine r_callSN3 (pc' := 37) (k' := 0) (n' := 0) dX0_addCard_34 mb_X8_put ms_X8_put ln_X0_45 rfl rfl rfl (Nat.le_of_ble_eq_true rfl) rfl (c_X8_put hd.c2 (by decide) (cpV ?_))
    refine r_aload_n (pc' := 38) dX0_addCard_37 rfl 0 rfl rfl ?_
    refine r_dup (pc' := 39) dX0_addCard_38 rfl rfl ?_
    refine r_getI (pc' := 42) dX0_addCard_39 fa_X0_22 hd.o rfl rfl ?_
    refine r_iconst (pc' := 43) (v := 1) dX0_addCard_42 (by decide) rfl ?_
    refine r_iadd (pc' := 44) dX0_addCard_43 rfl ?_
    refine r_putI (pc' := 47) dX0_addCard_44 fa_X0_22 hd.o rfl rfl ?_
    refine r_aload_n (pc' := 48) dX0_addCard_47 rfl 0 rfl rfl ?_
    refine r_aload_n (pc' := 49) dX0_addCard_48 rfl 0 rfl rfl ?_
    refine r_getI (pc' := 52) dX0_addCard_49 fa_X0_25 hd.o rfl rfl ?_
    refine r_iconst (pc' := 53) (v := 1) dX0_addCard_52 (by decide) rfl ?_
    refine r_mmax (pc' := 56) dX0_addCard_53 mw_X0_49 (by decide) (Nat.le_of_ble_eq_true rfl) (by decide) (by decide) rfl ?_
    refine r_putI (pc' := 59) dX0_addCard_56 fa_X0_25 hd.o rfl rfl ?_
    refine r_iconst (pc' := 60) (v := 1) dX0_addCard_59 (by decide) rfl ?_
    exact r_zret dX0_addCard_60 rfl (by first | exact zb01 _ | decide) (by decide) (by decide) (hQ)
  · rw [x0_addCard, if_neg (show ¬ x0_addCardB I d = true from fun q => h15 (of_decide_eq_true q)), show x0_addCardB I d = false from decide_eq_false h15] at hQ
    refine r_iconst (pc' := 19) (v := 0) dX0_addCard_18 (by decide) rfl ?_
    exact r_zret dX0_addCard_19 rfl (by first | exact zb01 _ | decide) (by decide) (by decide) (hQ)
set_option maxHeartbeats 2000000 in
theorem c_X0_openPart {Ω : JO} {I : JI} {S : JS} {Q : JQ} {d : Nat} {c : Int32} (hd : Is0 S d) (hQ : Q (.inl none) (x0_openPart I d c) S) : Call Ω m_X0_openPart [.ref d, .int c] I S Q := by
  refine call_of (by decide +kernel) rfl (Nat.le_of_ble_eq_true rfl) ?_
  change AA Ω m_X0_openPart (FQ Ω m_X0_openPart Q) 0 0 0 [(0, .ref d), (1, .int c)] [] I S
  refine r_aload_n (pc' := 1) dX0_openPart_0 rfl 0 rfl rfl ?_
  refine r_iload_n (pc' := 2) dX0_openPart_1 rfl 1 rfl rfl ?_
  refine r_callV1 (pc' := 5) (k' := 0) (n' := 0) dX0_openPart_2 mb_X0_addPart mi_X0_addPart hd.o (by decide) rfl lk_X0_41 rfl rfl rfl (Nat.le_of_ble_eq_true rfl) rfl (c_X0_addPart hd (cpV ?_))
  refine r_aload_n (pc' := 6) dX0_openPart_5 rfl 0 rfl rfl ?_
  refine r_getO (pc' := 9) dX0_openPart_6 fa_X0_28 hd.o rfl hd.r5 rfl ?_
  refine r_aload_n (pc' := 10) dX0_openPart_9 rfl 0 rfl rfl ?_
  refine r_getI (pc' := 13) dX0_openPart_10 fa_X0_34 hd.o rfl rfl ?_
  refine r_iload_n (pc' := 14) dX0_openPart_13 rfl 1 rfl rfl ?_
  refine r_callSN3 (pc' := 17) (k' := 0) (n' := 0) dX0_openPart_14 mb_X8_put ms_X8_put ln_X0_45 rfl rfl rfl (Nat.le_of_ble_eq_true rfl) rfl (c_X8_put hd.c5 (by decide) (cpV ?_))
  refine r_aload_n (pc' := 18) dX0_openPart_17 rfl 0 rfl rfl ?_
  refine r_getO (pc' := 21) dX0_openPart_18 fa_X0_31 hd.o rfl hd.r6 rfl ?_
  refine r_aload_n (pc' := 22) dX0_openPart_21 rfl 0 rfl rfl ?_
  refine r_getI (pc' := 25) dX0_openPart_22 fa_X0_34 hd.o rfl rfl ?_
  refine r_aload_n (pc' := 26) dX0_openPart_25 rfl 0 rfl rfl ?_
  refine r_getI (pc' := 29) dX0_openPart_26 fa_X0_22 hd.o rfl rfl ?_
  refine r_callSN3 (pc' := 32) (k' := 0) (n' := 0) dX0_openPart_29 mb_X8_put ms_X8_put ln_X0_45 rfl rfl rfl (Nat.le_of_ble_eq_true rfl) rfl (c_X8_put hd.c6 (by decide) (cpV ?_))
  refine r_aload_n (pc' := 33) dX0_openPart_32 rfl 0 rfl rfl ?_
  refine r_dup (pc' := 34) dX0_openPart_33 rfl rfl ?_
  refine r_getI (pc' := 37) dX0_openPart_34 fa_X0_34 hd.o rfl rfl ?_
  refine r_iconst (pc' := 38) (v := 1) dX0_openPart_37 (by decide) rfl ?_
  refine r_iadd (pc' := 39) dX0_openPart_38 rfl ?_
  refine r_putI (pc' := 42) dX0_openPart_39 fa_X0_34 hd.o rfl rfl ?_
  refine r_aload_n (pc' := 43) dX0_openPart_42 rfl 0 rfl rfl ?_
  refine r_aload_n (pc' := 44) dX0_openPart_43 rfl 0 rfl rfl ?_
  refine r_getI (pc' := 47) dX0_openPart_44 fa_X0_25 hd.o rfl rfl ?_
  refine r_aload_n (pc' := 48) dX0_openPart_47 rfl 0 rfl rfl ?_
  refine r_getI (pc' := 51) dX0_openPart_48 fa_X0_34 hd.o rfl rfl ?_
  refine r_iconst (pc' := 52) (v := 1) dX0_openPart_51 (by decide) rfl ?_
  refine r_iadd (pc' := 53) dX0_openPart_52 rfl ?_
  refine r_mmax (pc' := 56) dX0_openPart_53 mw_X0_49 (by decide) (Nat.le_of_ble_eq_true rfl) (by decide) (by decide) rfl ?_
  refine r_putI (pc' := 59) dX0_openPart_56 fa_X0_25 hd.o rfl rfl ?_
  exact r_ret dX0_openPart_59 rfl (by decide) (by decide) (hQ)
set_option maxHeartbeats 2000000 in
theorem c_X0_cardForRow {Ω : JO} {I : JI} {S : JS} {Q : JQ} {d : Nat} {r : Int32} (hd : Is0 S d) (hQ : Q (.inl (some (.int (x0_cfr I d r)))) (I) S) : Call Ω m_X0_cardForRow [.ref d, .int r] I S Q := by
  refine call_of (by decide +kernel) rfl (Nat.le_of_ble_eq_true rfl) ?_
  change AA Ω m_X0_cardForRow (FQ Ω m_X0_cardForRow Q) 0 0 0 [(0, .ref d), (1, .int r)] [] I S
  refine r_aload_n (pc' := 1) dX0_cardForRow_0 rfl 0 rfl rfl ?_
  refine r_getI (pc' := 4) dX0_cardForRow_1 fa_X0_22 hd.o rfl rfl ?_
  refine r_if_gt (tgt := 11) (pc' := 7) dX0_cardForRow_4 rfl rfl (fun h4 => ?_) (fun h4 => ?_)
  · rw [x0_cfr, if_pos h4] at hQ
    refine r_aload_n (pc' := 12) dX0_cardForRow_11 rfl 0 rfl rfl ?_
    refine r_getO (pc' := 15) dX0_cardForRow_12 fa_X0_19 hd.o rfl hd.r2 rfl ?_
    refine r_iload_n (pc' := 16) dX0_cardForRow_15 rfl 1 rfl rfl ?_
    refine r_aload_n (pc' := 17) dX0_cardForRow_16 rfl 0 rfl rfl ?_
    refine r_getI (pc' := 20) dX0_cardForRow_17 fa_X0_22 hd.o rfl rfl ?_
    refine r_irem (pc' := 21) dX0_cardForRow_20 (fun q => by rw [q] at h4; exact absurd h4 (by decide)) rfl ?_
    refine r_callSN2 (pc' := 24) (k' := 0) (n' := 0) dX0_cardForRow_21 mb_X8_at ms_X8_at ln_X0_55 rfl rfl rfl (Nat.le_of_ble_eq_true rfl) rfl (c_X8_at hd.c2 (by decide) (cpI ?_))
    exact r_iret dX0_cardForRow_24 rfl (by decide) (by decide) (hQ)
  · rw [x0_cfr, if_neg h4] at hQ
    refine r_iconst (pc' := 8) (v := -1) dX0_cardForRow_7 (by decide) rfl ?_
    refine r_goto (tgt := 24) dX0_cardForRow_8 rfl ?_
    exact r_iret dX0_cardForRow_24 rfl (by decide) (by decide) (hQ)
set_option maxHeartbeats 2000000 in
theorem l_X0_countPicks {Ω : JO} {I : JI} {S : JS} {Q : JQ} {d : Nat} {c : Int32} (hd : Is0 S d) (hQ : Q (.inl (some (.int (cpF (I (d + 2)) c (I d 3).toNatClampNeg)))) I S) : ∀ (m : Nat) (j : Nat), j + m = (I d 3).toNatClampNeg → AA Ω m_X0_countPicks (FQ Ω m_X0_countPicks Q) 0 0 4 [(3, .int (nI j)), (2, .int (cpF (I (d + 2)) c j)), (0, .ref d), (1, .int c)] [] I S := by
  intro m
  induction m with
  | zero =>
    intro j hj
    refine r_iload_n (pc' := 5) dX0_countPicks_4 rfl 0 rfl rfl ?_
    refine r_aload_n (pc' := 6) dX0_countPicks_5 rfl 2 rfl rfl ?_
    refine r_getI (pc' := 9) dX0_countPicks_6 fa_X0_22 hd.o rfl rfl ?_
    refine r_icmp_ge (tgt := 33) (pc' := 12) dX0_countPicks_9 rfl rfl (fun h9 => ?_) (fun h9 => ?_)
    · have hb := cl_b (I d 3)
      rw [← show j = (I d 3).toNatClampNeg by omega] at hQ
      refine r_iload_n (pc' := 34) dX0_countPicks_33 rfl 1 rfl rfl ?_
      exact r_iret dX0_countPicks_34 rfl (by decide) (by decide) (hQ)
    · exact absurd ((cl_le2 (by have := cl_b (I d 3); omega)).mpr (by omega)) h9
  | succ m ih =>
    intro j hj
    refine r_iload_n (pc' := 5) dX0_countPicks_4 rfl 0 rfl rfl ?_
    refine r_aload_n (pc' := 6) dX0_countPicks_5 rfl 2 rfl rfl ?_
    refine r_getI (pc' := 9) dX0_countPicks_6 fa_X0_22 hd.o rfl rfl ?_
    refine r_icmp_ge (tgt := 33) (pc' := 12) dX0_countPicks_9 rfl rfl (fun h9 => ?_) (fun h9 => ?_)
    · exact absurd ((cl_le2 (by have := cl_b (I d 3); omega)).mp h9) (by omega)
    · refine r_aload_n (pc' := 13) dX0_countPicks_12 rfl 2 rfl rfl ?_
      refine r_getO (pc' := 16) dX0_countPicks_13 fa_X0_19 hd.o rfl hd.r2 rfl ?_
      refine r_iload_n (pc' := 17) dX0_countPicks_16 rfl 0 rfl rfl ?_
      refine r_callSN2 (pc' := 20) (k' := 0) (n' := 0) dX0_countPicks_17 mb_X8_at ms_X8_at ln_X0_55 rfl rfl rfl (Nat.le_of_ble_eq_true rfl) rfl (c_X8_at hd.c2 (by decide) (cpI ?_))
      refine r_iload_n (pc' := 21) dX0_countPicks_20 rfl 3 rfl rfl ?_
      refine r_icmp_ne (tgt := 27) (pc' := 24) dX0_countPicks_21 rfl rfl (fun h21 => ?_) (fun h21 => ?_)
      · refine r_iinc (pc' := 30) (lv' := [(3, _), (2, _), (0, _), (1, _)]) dX0_countPicks_27 0 rfl rfl (by decide) rfl rfl ?_
        refine r_goto (tgt := 4) dX0_countPicks_30 rfl ?_
        exact aa_lv (lv' := [(3, .int (nI (j + 1))), (2, .int (cpF (I (d + 2)) c (j + 1))), (0, .ref d), (1, .int c)]) (by first | simp_all [nI_1, nI_inc, cpF]) (ih (j + 1) (by omega))
      · refine r_iinc (pc' := 27) (lv' := [(2, _), (3, _), (0, _), (1, _)]) dX0_countPicks_24 1 rfl rfl (by decide) rfl rfl ?_
        refine r_iinc (pc' := 30) (lv' := [(3, _), (2, _), (0, _), (1, _)]) dX0_countPicks_27 1 rfl rfl (by decide) rfl rfl ?_
        refine r_goto (tgt := 4) dX0_countPicks_30 rfl ?_
        exact aa_lv (lv' := [(3, .int (nI (j + 1))), (2, .int (cpF (I (d + 2)) c (j + 1))), (0, .ref d), (1, .int c)]) (by first | simp_all [nI_1, nI_inc, cpF]) (ih (j + 1) (by omega))
set_option maxHeartbeats 2000000 in
theorem c_X0_countPicks {Ω : JO} {I : JI} {S : JS} {Q : JQ} {d : Nat} {c : Int32} (hd : Is0 S d) (hQ : Q (.inl (some (.int (cpF (I (d + 2)) c (I d 3).toNatClampNeg)))) I S) : Call Ω m_X0_countPicks [.ref d, .int c] I S Q := by
  refine call_of (by decide +kernel) rfl (Nat.le_of_ble_eq_true rfl) ?_
  change AA Ω m_X0_countPicks (FQ Ω m_X0_countPicks Q) 0 0 0 [(0, .ref d), (1, .int c)] [] I S
  refine r_iconst (pc' := 1) (v := 0) dX0_countPicks_0 (by decide) rfl ?_
  refine r_istore_n (pc' := 2) (lv' := [(2, _), (0, _), (1, _)]) dX0_countPicks_1 rfl (by decide) rfl rfl ?_
  refine r_iconst (pc' := 3) (v := 0) dX0_countPicks_2 (by decide) rfl ?_
  refine r_istore_n (pc' := 4) (lv' := [(3, _), (2, _), (0, _), (1, _)]) dX0_countPicks_3 rfl (by decide) rfl rfl ?_
  exact l_X0_countPicks (Ω := Ω) hd hQ _ 0 (Nat.zero_add _)






set_option maxHeartbeats 2000000 in
theorem l_X0_mirrorPicks {Ω : JO} {S : JS} {Q : JQ} {d a : Nat} {z : Int32} (hd : Is0 S d) : ∀ (m : Nat) (I : JI), a + m < 2 ^ 31 → Q (.inl none) (mirI d a m I) S → AA Ω m_X0_mirrorPicks (FQ Ω m_X0_mirrorPicks Q) 0 0 2 [(3, .int (nI (a + m) + (-1))), (0, .ref d), (1, .int (nI a)), (2, .int z)] [] I S := by
  intro m
  induction m with
  | zero =>
    intro I hb hQ
    refine r_iload_n (pc' := 3) dX0_mirrorPicks_2 rfl 0 rfl rfl ?_
    refine r_iload_n (pc' := 4) dX0_mirrorPicks_3 rfl 2 rfl rfl ?_
    refine r_icmp_lt (tgt := 42) (pc' := 7) dX0_mirrorPicks_4 rfl rfl (fun h4 => ?_) (fun h4 => ?_)
    · exact r_ret dX0_mirrorPicks_42 rfl (by decide) (by decide) (hQ)
    · exact absurd (show nI (a + 0) + (-1) < nI a from pk_m1lt (by omega)) h4
  | succ m ih =>
    intro I hb hQ
    refine r_iload_n (pc' := 3) dX0_mirrorPicks_2 rfl 0 rfl rfl ?_
    refine r_iload_n (pc' := 4) dX0_mirrorPicks_3 rfl 2 rfl rfl ?_
    refine r_icmp_lt (tgt := 42) (pc' := 7) dX0_mirrorPicks_4 rfl rfl (fun h4 => ?_) (fun h4 => ?_)
    · exact absurd h4 (by rw [← Nat.add_assoc, pk_m1]; exact nI_nlt (Nat.le_add_right a m) (by omega))
    · rw [← Nat.add_assoc, pk_m1]
      refine r_aload_n (pc' := 8) dX0_mirrorPicks_7 rfl 1 rfl rfl ?_
      refine r_getO (pc' := 11) dX0_mirrorPicks_8 fa_X0_19 hd.o rfl hd.r2 rfl ?_
      refine r_aload_n (pc' := 12) dX0_mirrorPicks_11 rfl 1 rfl rfl ?_
      refine r_getI (pc' := 15) dX0_mirrorPicks_12 fa_X0_22 hd.o rfl rfl ?_
      refine r_aload_n (pc' := 16) dX0_mirrorPicks_15 rfl 1 rfl rfl ?_
      refine r_getO (pc' := 19) dX0_mirrorPicks_16 fa_X0_19 hd.o rfl hd.r2 rfl ?_
      refine r_iload_n (pc' := 20) dX0_mirrorPicks_19 rfl 0 rfl rfl ?_
      refine r_callSN2 (pc' := 23) (k' := 0) (n' := 0) dX0_mirrorPicks_20 mb_X8_at ms_X8_at ln_X0_55 rfl rfl rfl (Nat.le_of_ble_eq_true rfl) rfl (c_X8_at hd.c2 (by decide) (cpI ?_))
      refine r_callSN3 (pc' := 26) (k' := 0) (n' := 0) dX0_mirrorPicks_23 mb_X8_put ms_X8_put ln_X0_45 rfl rfl rfl (Nat.le_of_ble_eq_true rfl) rfl (c_X8_put hd.c2 (by decide) (cpV ?_))
      refine r_aload_n (pc' := 27) dX0_mirrorPicks_26 rfl 1 rfl rfl ?_
      refine r_dup (pc' := 28) dX0_mirrorPicks_27 rfl rfl ?_
      refine r_getI (pc' := 31) dX0_mirrorPicks_28 fa_X0_22 hd.o rfl rfl ?_
      refine r_iconst (pc' := 32) (v := 1) dX0_mirrorPicks_31 (by decide) rfl ?_
      refine r_iadd (pc' := 33) dX0_mirrorPicks_32 rfl ?_
      refine r_putI (pc' := 36) dX0_mirrorPicks_33 fa_X0_22 hd.o rfl rfl ?_
      refine r_iinc (pc' := 39) (lv' := [(3, _), (0, _), (1, _), (2, _)]) dX0_mirrorPicks_36 0 rfl rfl (by decide) rfl rfl ?_
      refine r_goto (tgt := 2) dX0_mirrorPicks_39 rfl ?_
      exact aa_lv (lv' := [(3, .int (nI (a + m) + (-1))), (0, .ref d), (1, .int (nI a)), (2, .int z)]) rfl (ih _ (by omega) hQ)
set_option maxHeartbeats 2000000 in
theorem c_X0_mirrorPicks {Ω : JO} {I : JI} {S : JS} {Q : JQ} {d a t : Nat} {z : Int32} (hd : Is0 S d) (hb : a + t < 2 ^ 31) (hz : z = nI (a + t) + (-1)) (hQ : Q (.inl none) (mirI d a t I) S) : Call Ω m_X0_mirrorPicks [.ref d, .int (nI a), .int z] I S Q := by
  refine call_of (by decide +kernel) rfl (Nat.le_of_ble_eq_true rfl) ?_
  change AA Ω m_X0_mirrorPicks (FQ Ω m_X0_mirrorPicks Q) 0 0 0 [(0, .ref d), (1, .int (nI a)), (2, .int z)] [] I S
  refine r_iload_n (pc' := 1) dX0_mirrorPicks_0 rfl 2 rfl rfl ?_
  refine r_istore_n (pc' := 2) (lv' := [(3, _), (0, _), (1, _), (2, _)]) dX0_mirrorPicks_1 rfl (by decide) rfl rfl ?_
  subst hz
  exact l_X0_mirrorPicks (Ω := Ω) hd t I hb hQ
set_option maxHeartbeats 2000000 in
theorem l_X0_repeatPicks {Ω : JO} {S : JS} {Q : JQ} {d a : Nat} {z : Int32} (hd : Is0 S d) : ∀ (m : Nat) (j : Nat) (I : JI), j + m = z.toNatClampNeg → Q (.inl none) (repI d a m j I) S → AA Ω m_X0_repeatPicks (FQ Ω m_X0_repeatPicks Q) 0 0 2 [(3, .int (nI j)), (0, .ref d), (1, .int (nI a)), (2, .int z)] [] I S := by
  intro m
  induction m with
  | zero =>
    intro j I hj hQ
    refine r_iload_n (pc' := 3) dX0_repeatPicks_2 rfl 0 rfl rfl ?_
    refine r_iload_n (pc' := 4) dX0_repeatPicks_3 rfl 3 rfl rfl ?_
    refine r_icmp_ge (tgt := 44) (pc' := 7) dX0_repeatPicks_4 rfl rfl (fun h4 => ?_) (fun h4 => ?_)
    · exact r_ret dX0_repeatPicks_44 rfl (by decide) (by decide) (hQ)
    · exact absurd ((cl_le2 (by have := cl_b z; omega)).mpr (by omega)) h4
  | succ m ih =>
    intro j I hj hQ
    refine r_iload_n (pc' := 3) dX0_repeatPicks_2 rfl 0 rfl rfl ?_
    refine r_iload_n (pc' := 4) dX0_repeatPicks_3 rfl 3 rfl rfl ?_
    refine r_icmp_ge (tgt := 44) (pc' := 7) dX0_repeatPicks_4 rfl rfl (fun h4 => ?_) (fun h4 => ?_)
    · exact absurd ((cl_le2 (by have := cl_b z; omega)).mp h4) (by omega)
    · refine r_aload_n (pc' := 8) dX0_repeatPicks_7 rfl 1 rfl rfl ?_
      refine r_getO (pc' := 11) dX0_repeatPicks_8 fa_X0_19 hd.o rfl hd.r2 rfl ?_
      refine r_aload_n (pc' := 12) dX0_repeatPicks_11 rfl 1 rfl rfl ?_
      refine r_getI (pc' := 15) dX0_repeatPicks_12 fa_X0_22 hd.o rfl rfl ?_
      refine r_aload_n (pc' := 16) dX0_repeatPicks_15 rfl 1 rfl rfl ?_
      refine r_getO (pc' := 19) dX0_repeatPicks_16 fa_X0_19 hd.o rfl hd.r2 rfl ?_
      refine r_iload_n (pc' := 20) dX0_repeatPicks_19 rfl 2 rfl rfl ?_
      refine r_iload_n (pc' := 21) dX0_repeatPicks_20 rfl 0 rfl rfl ?_
      refine r_iadd (pc' := 22) dX0_repeatPicks_21 rfl ?_
      refine r_callSN2 (pc' := 25) (k' := 0) (n' := 0) dX0_repeatPicks_22 mb_X8_at ms_X8_at ln_X0_55 rfl rfl rfl (Nat.le_of_ble_eq_true rfl) rfl (c_X8_at hd.c2 (by decide) (cpI ?_))
      refine r_callSN3 (pc' := 28) (k' := 0) (n' := 0) dX0_repeatPicks_25 mb_X8_put ms_X8_put ln_X0_45 rfl rfl rfl (Nat.le_of_ble_eq_true rfl) rfl (c_X8_put hd.c2 (by decide) (cpV ?_))
      refine r_aload_n (pc' := 29) dX0_repeatPicks_28 rfl 1 rfl rfl ?_
      refine r_dup (pc' := 30) dX0_repeatPicks_29 rfl rfl ?_
      refine r_getI (pc' := 33) dX0_repeatPicks_30 fa_X0_22 hd.o rfl rfl ?_
      refine r_iconst (pc' := 34) (v := 1) dX0_repeatPicks_33 (by decide) rfl ?_
      refine r_iadd (pc' := 35) dX0_repeatPicks_34 rfl ?_
      refine r_putI (pc' := 38) dX0_repeatPicks_35 fa_X0_22 hd.o rfl rfl ?_
      refine r_iinc (pc' := 41) (lv' := [(3, _), (0, _), (1, _), (2, _)]) dX0_repeatPicks_38 0 rfl rfl (by decide) rfl rfl ?_
      refine r_goto (tgt := 2) dX0_repeatPicks_41 rfl ?_
      exact aa_lv (lv' := [(3, .int (nI (j + 1))), (0, .ref d), (1, .int (nI a)), (2, .int z)]) (by rw [nI_inc]) (ih (j + 1) _ (by omega) hQ)
set_option maxHeartbeats 2000000 in
theorem c_X0_repeatPicks {Ω : JO} {I : JI} {S : JS} {Q : JQ} {d a : Nat} {z : Int32} (hd : Is0 S d) (hQ : Q (.inl none) (repI d a z.toNatClampNeg 0 I) S) : Call Ω m_X0_repeatPicks [.ref d, .int (nI a), .int z] I S Q := by
  refine call_of (by decide +kernel) rfl (Nat.le_of_ble_eq_true rfl) ?_
  change AA Ω m_X0_repeatPicks (FQ Ω m_X0_repeatPicks Q) 0 0 0 [(0, .ref d), (1, .int (nI a)), (2, .int z)] [] I S
  refine r_iconst (pc' := 1) (v := 0) dX0_repeatPicks_0 (by decide) rfl ?_
  refine r_istore_n (pc' := 2) (lv' := [(3, _), (0, _), (1, _), (2, _)]) dX0_repeatPicks_1 rfl (by decide) rfl rfl ?_
  exact l_X0_repeatPicks (Ω := Ω) hd _ 0 I (Nat.zero_add _) hQ
theorem revI_stop (d : Nat) : ∀ (m : Nat) (i b : Int32) (I : JI), ¬ i < b → revI d m i b I = I := by
  intro m i b I h
  cases m with
  | zero => rfl
  | succ m => rw [revI, if_neg h]
set_option maxHeartbeats 2000000 in
theorem l_X0_reversePicks {Ω : JO} {S : JS} {Q : JQ} {d a : Nat} {z x5 : Int32} (hd : Is0 S d) : ∀ (m : Nat) (i b : Int32) (I : JI), b.toInt - i.toInt ≤ 2 * m → (0 ≤ i.toInt ∧ i.toInt ≤ 2 ^ 30) → (-1 ≤ b.toInt ∧ b.toInt < 2 ^ 30) → Q (.inl none) (revI d m i b I) S → AA Ω m_X0_reversePicks (FQ Ω m_X0_reversePicks Q) 0 0 5 [(4, .int i), (3, .int b), (0, .ref d), (1, .int (nI a)), (2, .int z)] [] I S := by
  intro m
  induction m with
  | zero =>
    intro i b I hm hi hb hQ
    refine r_iload (pc' := 7) dX0_reversePicks_5 0 rfl rfl ?_
    refine r_iload_n (pc' := 8) dX0_reversePicks_7 rfl 1 rfl rfl ?_
    refine r_icmp_ge (tgt := 58) (pc' := 11) dX0_reversePicks_8 rfl rfl (fun h8 => ?_) (fun h8 => ?_)
    · exact r_ret dX0_reversePicks_58 rfl (by decide) (by decide) (hQ)
    · exact absurd (show b ≤ i from Int32.le_iff_toInt_le.mpr (by omega)) h8
  | succ m ih =>
    intro i b I hm hi hb hQ
    refine r_iload (pc' := 7) dX0_reversePicks_5 0 rfl rfl ?_
    refine r_iload_n (pc' := 8) dX0_reversePicks_7 rfl 1 rfl rfl ?_
    refine r_icmp_ge (tgt := 58) (pc' := 11) dX0_reversePicks_8 rfl rfl (fun h8 => ?_) (fun h8 => ?_)
    · rw [revI_stop _ _ _ _ _ (Int32.not_lt.mpr h8)] at hQ
      exact r_ret dX0_reversePicks_58 rfl (by decide) (by decide) (hQ)
    · have h9 : i < b := Int32.not_le.mp h8
      rw [revI, if_pos h9] at hQ
      rw [Int32.lt_iff_toInt_lt] at h9
      refine r_aload_n (pc' := 12) dX0_reversePicks_11 rfl 2 rfl rfl ?_
      refine r_getO (pc' := 15) dX0_reversePicks_12 fa_X0_19 hd.o rfl hd.r2 rfl ?_
      refine r_iload (pc' := 17) dX0_reversePicks_15 0 rfl rfl ?_
      refine r_callSN2 (pc' := 20) (k' := 0) (n' := 0) dX0_reversePicks_17 mb_X8_at ms_X8_at ln_X0_55 rfl rfl rfl (Nat.le_of_ble_eq_true rfl) rfl (c_X8_at hd.c2 (by decide) (cpI ?_))
      refine r_istore (pc' := 22) (lv' := [(5, _), (4, _), (3, _), (0, _), (1, _), (2, _)]) dX0_reversePicks_20 (by decide) rfl rfl ?_
      refine r_aload_n (pc' := 23) dX0_reversePicks_22 rfl 3 rfl rfl ?_
      refine r_getO (pc' := 26) dX0_reversePicks_23 fa_X0_19 hd.o rfl hd.r2 rfl ?_
      refine r_iload (pc' := 28) dX0_reversePicks_26 1 rfl rfl ?_
      refine r_aload_n (pc' := 29) dX0_reversePicks_28 rfl 3 rfl rfl ?_
      refine r_getO (pc' := 32) dX0_reversePicks_29 fa_X0_19 hd.o rfl hd.r2 rfl ?_
      refine r_iload_n (pc' := 33) dX0_reversePicks_32 rfl 2 rfl rfl ?_
      refine r_callSN2 (pc' := 36) (k' := 0) (n' := 0) dX0_reversePicks_33 mb_X8_at ms_X8_at ln_X0_55 rfl rfl rfl (Nat.le_of_ble_eq_true rfl) rfl (c_X8_at hd.c2 (by decide) (cpI ?_))
      refine r_callSN3 (pc' := 39) (k' := 0) (n' := 0) dX0_reversePicks_36 mb_X8_put ms_X8_put ln_X0_45 rfl rfl rfl (Nat.le_of_ble_eq_true rfl) rfl (c_X8_put hd.c2 (by decide) (cpV ?_))
      refine r_aload_n (pc' := 40) dX0_reversePicks_39 rfl 3 rfl rfl ?_
      refine r_getO (pc' := 43) dX0_reversePicks_40 fa_X0_19 hd.o rfl hd.r2 rfl ?_
      refine r_iload_n (pc' := 44) dX0_reversePicks_43 rfl 2 rfl rfl ?_
      refine r_iload (pc' := 46) dX0_reversePicks_44 0 rfl rfl ?_
      refine r_callSN3 (pc' := 49) (k' := 0) (n' := 0) dX0_reversePicks_46 mb_X8_put ms_X8_put ln_X0_45 rfl rfl rfl (Nat.le_of_ble_eq_true rfl) rfl (c_X8_put hd.c2 (by decide) (cpV ?_))
      refine r_iinc (pc' := 52) (lv' := [(3, _), (5, _), (4, _), (0, _), (1, _), (2, _)]) dX0_reversePicks_49 2 rfl rfl (by decide) rfl rfl ?_
      refine r_iinc (pc' := 55) (lv' := [(4, _), (3, _), (5, _), (0, _), (1, _), (2, _)]) dX0_reversePicks_52 2 rfl rfl (by decide) rfl rfl ?_
      refine r_goto (tgt := 5) dX0_reversePicks_55 rfl ?_
      refine aa_locs (ks := [0, 1, 3, 4, 5]) (lv' := [(4, _), (3, _), (0, _), (1, _), (2, _)]) rfl ?_
      refine aa_lv (lv' := [(4, .int (i + 1)), (3, .int (b + (-1))), (0, .ref d), (1, .int (nI a)), (2, .int z)]) rfl (ih (i + 1) (b + (-1)) _ ?_ ?_ ?_ hQ)
      · rw [Int32.toInt_add, Int32.toInt_add, show (-1 : Int32).toInt = -1 from by decide, show (1 : Int32).toInt = 1 from by decide, Int.bmod_eq_of_le (by omega) (by omega), Int.bmod_eq_of_le (by omega) (by omega)]; omega
      · rw [Int32.toInt_add, show (1 : Int32).toInt = 1 from by decide, Int.bmod_eq_of_le (by omega) (by omega)]; omega
      · rw [Int32.toInt_add, show (-1 : Int32).toInt = -1 from by decide, Int.bmod_eq_of_le (by omega) (by omega)]; omega
set_option maxHeartbeats 2000000 in
theorem c_X0_reversePicks {Ω : JO} {I : JI} {S : JS} {Q : JQ} {d a m : Nat} {z : Int32} (hd : Is0 S d) (ha : a < 2 ^ 30) (hz : -1 ≤ z.toInt ∧ z.toInt < 2 ^ 30) (hm : z.toInt - a ≤ 2 * m) (hQ : Q (.inl none) (revI d m (nI a) z I) S) : Call Ω m_X0_reversePicks [.ref d, .int (nI a), .int z] I S Q := by
  refine call_of (by decide +kernel) rfl (Nat.le_of_ble_eq_true rfl) ?_
  change AA Ω m_X0_reversePicks (FQ Ω m_X0_reversePicks Q) 0 0 0 [(0, .ref d), (1, .int (nI a)), (2, .int z)] [] I S
  refine r_iload_n (pc' := 1) dX0_reversePicks_0 rfl 2 rfl rfl ?_
  refine r_istore_n (pc' := 2) (lv' := [(3, _), (0, _), (1, _), (2, _)]) dX0_reversePicks_1 rfl (by decide) rfl rfl ?_
  refine r_iload_n (pc' := 3) dX0_reversePicks_2 rfl 2 rfl rfl ?_
  refine r_istore (pc' := 5) (lv' := [(4, _), (3, _), (0, _), (1, _), (2, _)]) dX0_reversePicks_3 (by decide) rfl rfl ?_
  exact l_X0_reversePicks (Ω := Ω) (x5 := 0) hd m (nI a) z I (by rw [nI_toInt (by omega)]; omega) (by rw [nI_toInt (by omega)]; omega) hz hQ
theorem nI_m2 (n : Nat) : nI (n + 1) - 2 = nI n + (-1) := by
  rw [nI_succ, Int32.sub_eq_add_neg, Int32.add_assoc]
  rfl
def x0_closeB (I : JI) (d : Nat) : Bool := decide ((x0_start I d (I d 7) - x0_start I d (I d 7 - 1)) + x0_pwc (atF (I (d + 3)) 3 (I d 7 - 1)) (I d 3 - x0_start I d (I d 7)) ≤ 100)
def x0_closeI (I : JI) (d a t : Nat) (c : Int32) : JI := if c = 101 then mirI d a t I else if c = 102 then revI d 400 (nI a) (nI (a + t)) I else repI d a ((nI (a + t + 1) - nI a) * (c - 200 - 1)).toNatClampNeg 0 I
def x0_close (I : JI) (d a t : Nat) : JI := if x0_closeB I d = true then stI (x0_addPart (x0_closeI I d a t (atF (I (d + 3)) 3 (I d 7 - 1))) d 100) d 7 (x0_addPart (x0_closeI I d a t (atF (I (d + 3)) 3 (I d 7 - 1))) d 100 d 7 - 1) else I
set_option maxHeartbeats 2000000 in
theorem c_X0_closePart {Ω : JO} {I : JI} {S : JS} {Q : JQ} {d a t : Nat} (hd : Is0 S d) (hs : x0_start I d (I d 7) = nI a) (hl : I d 3 = nI (a + t + 1)) (hb : a + t + 1 ≤ 400) (hQ : Q (.inl (some (.int (zb (x0_closeB I d))))) (x0_close I d a t) S) : Call Ω m_X0_closePart [.ref d] I S Q := by
  refine call_of (by decide +kernel) rfl (Nat.le_of_ble_eq_true rfl) ?_
  change AA Ω m_X0_closePart (FQ Ω m_X0_closePart Q) 0 0 0 [(0, .ref d)] [] I S
  refine r_aload_n (pc' := 1) dX0_closePart_0 rfl 0 rfl rfl ?_
  refine r_aload_n (pc' := 2) dX0_closePart_1 rfl 0 rfl rfl ?_
  refine r_getI (pc' := 5) dX0_closePart_2 fa_X0_34 hd.o rfl rfl ?_
  refine r_callV1 (pc' := 8) (k' := 0) (n' := 0) dX0_closePart_5 mb_X0_startOfList mi_X0_startOfList hd.o (by decide) rfl lk_X0_37 rfl rfl rfl (Nat.le_of_ble_eq_true rfl) rfl (c_X0_startOfList hd (cpI ?_))
  refine r_istore_n (pc' := 9) (lv' := [(1, _), (0, _)]) dX0_closePart_8 rfl (by decide) rfl rfl ?_
  refine r_aload_n (pc' := 10) dX0_closePart_9 rfl 1 rfl rfl ?_
  refine r_getO (pc' := 13) dX0_closePart_10 fa_X0_28 hd.o rfl hd.r5 rfl ?_
  refine r_aload_n (pc' := 14) dX0_closePart_13 rfl 1 rfl rfl ?_
  refine r_getI (pc' := 17) dX0_closePart_14 fa_X0_34 hd.o rfl rfl ?_
  refine r_iconst (pc' := 18) (v := 1) dX0_closePart_17 (by decide) rfl ?_
  refine r_isub (pc' := 19) dX0_closePart_18 rfl ?_
  refine r_callSN2 (pc' := 22) (k' := 0) (n' := 0) dX0_closePart_19 mb_X8_at ms_X8_at ln_X0_55 rfl rfl rfl (Nat.le_of_ble_eq_true rfl) rfl (c_X8_at hd.c5 (by decide) (cpI ?_))
  refine r_istore_n (pc' := 23) (lv' := [(2, _), (1, _), (0, _)]) dX0_closePart_22 rfl (by decide) rfl rfl ?_
  refine r_iload_n (pc' := 24) dX0_closePart_23 rfl 1 rfl rfl ?_
  refine r_aload_n (pc' := 25) dX0_closePart_24 rfl 2 rfl rfl ?_
  refine r_aload_n (pc' := 26) dX0_closePart_25 rfl 2 rfl rfl ?_
  refine r_getI (pc' := 29) dX0_closePart_26 fa_X0_34 hd.o rfl rfl ?_
  refine r_iconst (pc' := 30) (v := 1) dX0_closePart_29 (by decide) rfl ?_
  refine r_isub (pc' := 31) dX0_closePart_30 rfl ?_
  refine r_callV1 (pc' := 34) (k' := 0) (n' := 0) dX0_closePart_31 mb_X0_startOfList mi_X0_startOfList hd.o (by decide) rfl lk_X0_37 rfl rfl rfl (Nat.le_of_ble_eq_true rfl) rfl (c_X0_startOfList hd (cpI ?_))
  refine r_isub (pc' := 35) dX0_closePart_34 rfl ?_
  refine r_istore_n (pc' := 36) (lv' := [(3, _), (2, _), (1, _), (0, _)]) dX0_closePart_35 rfl (by decide) rfl rfl ?_
  refine r_iload_n (pc' := 37) dX0_closePart_36 rfl 0 rfl rfl ?_
  refine r_iload_n (pc' := 38) dX0_closePart_37 rfl 1 rfl rfl ?_
  refine r_aload_n (pc' := 39) dX0_closePart_38 rfl 3 rfl rfl ?_
  refine r_getI (pc' := 42) dX0_closePart_39 fa_X0_22 hd.o rfl rfl ?_
  refine r_iload_n (pc' := 43) dX0_closePart_42 rfl 2 rfl rfl ?_
  refine r_isub (pc' := 44) dX0_closePart_43 rfl ?_
  refine r_callS2 (pc' := 47) (k' := 0) (n' := 0) dX0_closePart_44 mb_X0_picksWhenClosed ms_X0_picksWhenClosed lk_X0_59 rfl rfl rfl (Nat.le_of_ble_eq_true rfl) rfl (c_X0_picksWhenClosed (cpI ?_))
  refine r_iadd (pc' := 48) dX0_closePart_47 rfl ?_
  refine r_bipush (pc' := 50) (v := 100) dX0_closePart_48 (by decide) rfl ?_
  refine r_icmp_le (tgt := 55) (pc' := 53) dX0_closePart_50 rfl rfl (fun h50 => ?_) (fun h50 => ?_)
  · have hB : x0_closeB I d = true := decide_eq_true h50
    rw [x0_close, if_pos hB, hB] at hQ
    unfold x0_closeI at hQ
    rw [hs]
    refine r_iload_n (pc' := 56) dX0_closePart_55 rfl 1 rfl rfl ?_
    refine r_bipush (pc' := 58) (v := 101) dX0_closePart_56 (by decide) rfl ?_
    refine r_icmp_ne (tgt := 75) (pc' := 61) dX0_closePart_58 rfl rfl (fun h58 => ?_) (fun h58 => ?_)
    · rw [if_neg h58] at hQ
      refine r_iload_n (pc' := 76) dX0_closePart_75 rfl 1 rfl rfl ?_
      refine r_bipush (pc' := 78) (v := 102) dX0_closePart_76 (by decide) rfl ?_
      refine r_icmp_ne (tgt := 95) (pc' := 81) dX0_closePart_78 rfl rfl (fun h78 => ?_) (fun h78 => ?_)
      · rw [if_neg h78] at hQ
        refine r_aload_n (pc' := 96) dX0_closePart_95 rfl 3 rfl rfl ?_
        refine r_iload_n (pc' := 97) dX0_closePart_96 rfl 2 rfl rfl ?_
        refine r_aload_n (pc' := 98) dX0_closePart_97 rfl 3 rfl rfl ?_
        refine r_getI (pc' := 101) dX0_closePart_98 fa_X0_22 hd.o rfl rfl ?_
        refine r_iload_n (pc' := 102) dX0_closePart_101 rfl 2 rfl rfl ?_
        refine r_isub (pc' := 103) dX0_closePart_102 rfl ?_
        refine r_iload_n (pc' := 104) dX0_closePart_103 rfl 1 rfl rfl ?_
        refine r_sipush (pc' := 107) (v := 200) dX0_closePart_104 (by decide) rfl ?_
        refine r_isub (pc' := 108) dX0_closePart_107 rfl ?_
        refine r_iconst (pc' := 109) (v := 1) dX0_closePart_108 (by decide) rfl ?_
        refine r_isub (pc' := 110) dX0_closePart_109 rfl ?_
        refine r_imul (pc' := 111) dX0_closePart_110 rfl ?_
        rw [hl]
        refine r_callV2 (pc' := 114) (k' := 0) (n' := 0) dX0_closePart_111 mb_X0_repeatPicks mi_X0_repeatPicks hd.o (by decide) rfl lk_X0_69 rfl rfl rfl (Nat.le_of_ble_eq_true rfl) rfl (c_X0_repeatPicks hd (cpV ?_))
        refine r_aload_n (pc' := 115) dX0_closePart_114 rfl 3 rfl rfl ?_
        refine r_bipush (pc' := 117) (v := 100) dX0_closePart_115 (by decide) rfl ?_
        refine r_callV1 (pc' := 120) (k' := 0) (n' := 0) dX0_closePart_117 mb_X0_addPart mi_X0_addPart hd.o (by decide) rfl lk_X0_41 rfl rfl rfl (Nat.le_of_ble_eq_true rfl) rfl (c_X0_addPart hd (cpV ?_))
        refine r_aload_n (pc' := 121) dX0_closePart_120 rfl 3 rfl rfl ?_
        refine r_dup (pc' := 122) dX0_closePart_121 rfl rfl ?_
        refine r_getI (pc' := 125) dX0_closePart_122 fa_X0_34 hd.o rfl rfl ?_
        refine r_iconst (pc' := 126) (v := 1) dX0_closePart_125 (by decide) rfl ?_
        refine r_isub (pc' := 127) dX0_closePart_126 rfl ?_
        refine r_putI (pc' := 130) dX0_closePart_127 fa_X0_34 hd.o rfl rfl ?_
        refine r_iconst (pc' := 131) (v := 1) dX0_closePart_130 (by decide) rfl ?_
        exact r_zret dX0_closePart_131 rfl (by first | exact zb01 _ | decide) (by decide) (by decide) (hQ)
      · rw [if_pos h78] at hQ
        refine r_aload_n (pc' := 82) dX0_closePart_81 rfl 3 rfl rfl ?_
        refine r_iload_n (pc' := 83) dX0_closePart_82 rfl 2 rfl rfl ?_
        refine r_aload_n (pc' := 84) dX0_closePart_83 rfl 3 rfl rfl ?_
        refine r_getI (pc' := 87) dX0_closePart_84 fa_X0_22 hd.o rfl rfl ?_
        refine r_iconst (pc' := 88) (v := 1) dX0_closePart_87 (by decide) rfl ?_
        refine r_isub (pc' := 89) dX0_closePart_88 rfl ?_
        rw [hl, show nI (a + t + 1) - 1 = nI (a + t) from nI_pred _]
        refine r_callV2 (pc' := 92) (k' := 0) (n' := 0) dX0_closePart_89 mb_X0_reversePicks mi_X0_reversePicks hd.o (by decide) rfl lk_X0_66 rfl rfl rfl (Nat.le_of_ble_eq_true rfl) rfl (c_X0_reversePicks hd (m := 400) (by omega) (by rw [nI_toInt (by omega)]; omega) (by rw [nI_toInt (by omega)]; omega) (cpV ?_))
        refine r_goto (tgt := 114) dX0_closePart_92 rfl ?_
        refine r_aload_n (pc' := 115) dX0_closePart_114 rfl 3 rfl rfl ?_
        refine r_bipush (pc' := 117) (v := 100) dX0_closePart_115 (by decide) rfl ?_
        refine r_callV1 (pc' := 120) (k' := 0) (n' := 0) dX0_closePart_117 mb_X0_addPart mi_X0_addPart hd.o (by decide) rfl lk_X0_41 rfl rfl rfl (Nat.le_of_ble_eq_true rfl) rfl (c_X0_addPart hd (cpV ?_))
        refine r_aload_n (pc' := 121) dX0_closePart_120 rfl 3 rfl rfl ?_
        refine r_dup (pc' := 122) dX0_closePart_121 rfl rfl ?_
        refine r_getI (pc' := 125) dX0_closePart_122 fa_X0_34 hd.o rfl rfl ?_
        refine r_iconst (pc' := 126) (v := 1) dX0_closePart_125 (by decide) rfl ?_
        refine r_isub (pc' := 127) dX0_closePart_126 rfl ?_
        refine r_putI (pc' := 130) dX0_closePart_127 fa_X0_34 hd.o rfl rfl ?_
        refine r_iconst (pc' := 131) (v := 1) dX0_closePart_130 (by decide) rfl ?_
        exact r_zret dX0_closePart_131 rfl (by first | exact zb01 _ | decide) (by decide) (by decide) (hQ)
    · rw [if_pos h58] at hQ
      refine r_aload_n (pc' := 62) dX0_closePart_61 rfl 3 rfl rfl ?_
      refine r_iload_n (pc' := 63) dX0_closePart_62 rfl 2 rfl rfl ?_
      refine r_aload_n (pc' := 64) dX0_closePart_63 rfl 3 rfl rfl ?_
      refine r_getI (pc' := 67) dX0_closePart_64 fa_X0_22 hd.o rfl rfl ?_
      refine r_iconst (pc' := 68) (v := 2) dX0_closePart_67 (by decide) rfl ?_
      refine r_isub (pc' := 69) dX0_closePart_68 rfl ?_
      rw [hl]
      refine r_callV2 (pc' := 72) (k' := 0) (n' := 0) dX0_closePart_69 mb_X0_mirrorPicks mi_X0_mirrorPicks hd.o (by decide) rfl lk_X0_62 rfl rfl rfl (Nat.le_of_ble_eq_true rfl) rfl (c_X0_mirrorPicks hd (a := a) (t := t) (by omega) (nI_m2 _) (cpV ?_))
      refine r_goto (tgt := 114) dX0_closePart_72 rfl ?_
      refine r_aload_n (pc' := 115) dX0_closePart_114 rfl 3 rfl rfl ?_
      refine r_bipush (pc' := 117) (v := 100) dX0_closePart_115 (by decide) rfl ?_
      refine r_callV1 (pc' := 120) (k' := 0) (n' := 0) dX0_closePart_117 mb_X0_addPart mi_X0_addPart hd.o (by decide) rfl lk_X0_41 rfl rfl rfl (Nat.le_of_ble_eq_true rfl) rfl (c_X0_addPart hd (cpV ?_))
      refine r_aload_n (pc' := 121) dX0_closePart_120 rfl 3 rfl rfl ?_
      refine r_dup (pc' := 122) dX0_closePart_121 rfl rfl ?_
      refine r_getI (pc' := 125) dX0_closePart_122 fa_X0_34 hd.o rfl rfl ?_
      refine r_iconst (pc' := 126) (v := 1) dX0_closePart_125 (by decide) rfl ?_
      refine r_isub (pc' := 127) dX0_closePart_126 rfl ?_
      refine r_putI (pc' := 130) dX0_closePart_127 fa_X0_34 hd.o rfl rfl ?_
      refine r_iconst (pc' := 131) (v := 1) dX0_closePart_130 (by decide) rfl ?_
      exact r_zret dX0_closePart_131 rfl (by first | exact zb01 _ | decide) (by decide) (by decide) (hQ)
  · have hB : x0_closeB I d = false := decide_eq_false h50
    rw [x0_close, if_neg (by rw [hB]; decide), hB] at hQ
    refine r_iconst (pc' := 54) (v := 0) dX0_closePart_53 (by decide) rfl ?_
    exact r_zret dX0_closePart_54 rfl (by first | exact zb01 _ | decide) (by decide) (by decide) (hQ)
