/-! Loom: the object at L, its deck at L + 5, its state at L + 10, the one ahead at L + 17 -/
theorem stI_ne {I : JI} {a b k : Nat} {v : Int32} (h : b ≠ a) : stI I a k v b = I b := by funext j; simp [stI, h]
theorem ptI_ne {I : JI} {a b N : Nat} {i v : Int32} (h : b ≠ a) : ptI I a N i v b = I b := by
  by_cases q : i < 0 ∨ N ≤ i.toNatClampNeg
  · rw [ptI, if_pos q]
  · rw [ptI, if_neg q]; exact stI_ne h
def x3_clear (I : JI) (L : Nat) : JI := x7_clear (x0_clear (stI (stI (stI (stI (stI (stI I L 0 0) L 1 0) L 2 0) L 3 24) L 4 0) L 7 0) (L + 5)) (L + 10)
def x3_addWarpB (I : JI) (L : Nat) : Bool := decide (I L 4 < 24)
def x3_addWarp (I : JI) (L : Nat) (h c : Int32) : JI :=
  if x3_addWarpB I L = true then
    stI (ptI (ptI I (L + 1) 24 (I L 4) h) (L + 2) 24 (ptI I (L + 1) 24 (I L 4) h L 4) c) L 4 (ptI (ptI I (L + 1) 24 (I L 4) h) (L + 2) 24 (ptI I (L + 1) 24 (I L 4) h L 4) c L 4 + 1)
  else I
def x3_addCard (I : JI) (L : Nat) (l c : Int32) : JI :=
  let I1 := ptI I (L + 3) 12 (I L 7) l
  let I2 := ptI I1 (L + 4) 12 (I1 L 7) c
  let I3 := ptI I2 (L + 10 + 3) 12 (I2 L 7) l
  let I4 := ptI I3 (L + 10 + 4) 12 (I3 L 7) c
  stI I4 L 7 (I4 L 7 + 1)
def x3_other (I : JI) (L : Nat) (s : Int32) : Int32 := ((1 : Int32) <<< (I L 0 &&& 31)) - 1 &&& (s ^^^ (-1))
def wmF (hw : Nat → Int32) (set : Int32) : Nat → Int32
  | 0 => 0
  | j + 1 => if hasB set (atF hw 24 (nI j)) = true then wmF hw set j ||| ((1 : Int32) <<< (nI j &&& 31)) else wmF hw set j
def x3_mask (I : JI) (L : Nat) (set : Int32) : Int32 := wmF (I (L + 1)) set (I L 4).toNatClampNeg
def x3_obst (I : JI) (L s : Nat) : Int32 :=
  if I (L + 5) 3 = 0 then 1 else if 60 ≤ I s 3 then 2
  else if atF (I (s + 2)) 6 (atF (I (s + 4)) 12 (x0_cfr I (L + 5) (I s 3))) < I L 4 then 3
  else if I L 3 < bcF (x3_mask I L (atF (I (s + 3)) 12 (x0_cfr I (L + 5) (I s 3)))) then 4 else 0
def mvB (I : JI) (L s : Nat) (mv : Int32) (j : Nat) : JI :=
  if hasB mv (nI j) = true then
    let I1 := ptI I (s + 1) 8 (nI j) (atF (I (s + 1)) 8 (nI j) + 1)
    if atF (I (s + 1)) 8 (nI j) + 1 = I1 L 1 then stI (stI I1 s 1 (I1 s 1 ||| ((1 : Int32) <<< (nI j &&& 31)))) s 5 1 else I1
  else I
def mvI (L s : Nat) (mv : Int32) : Nat → Nat → JI → JI
  | 0, _, I => I
  | m + 1, j, I => mvI L s mv m (j + 1) (mvB I L s mv j)
def x3_moving (I : JI) (s : Nat) (l : Int32) : Int32 := (I s 0 ^^^ l) &&& (I s 1 ^^^ (-1))
def x3_move (I : JI) (L s : Nat) (l : Int32) : JI := mvI L s (x3_moving I s l) (I L 0).toNatClampNeg 0 (stI I s 0 (I s 0 ^^^ x3_moving I s l))
def brA (f : Nat → Int32) (z : Int32) (a : Nat) : Nat → Int32
  | 0 => z
  | j + 1 => brA f z a j &&& atF f 60 (nI (a + j))
def x3_strained (I : JI) (L s : Nat) : Int32 := brA (I (s + 5)) (atF (I (s + 5)) 60 (I s 3 - 1)) ((I s 3).toNatClampNeg - (I L 2).toNatClampNeg) (I L 2).toNatClampNeg
def x3_break (I : JI) (L s : Nat) : JI := if I L 2 = 0 ∨ I s 3 < I L 2 then I else if x3_strained I L s = 0 then I else stI (stI I s 2 (I s 2 ||| x3_strained I L s)) s 5 1
def x3_weaveNext (I : JI) (L s : Nat) : JI :=
  let card := x0_cfr I (L + 5) (I s 3)
  let weft := atF (I (s + 4)) 12 card
  let I1 := x7_addYarn I s weft (-(I L 4))
  let I2 := x3_move I1 L s (atF (I1 (s + 3)) 12 card)
  let I3 := x7_addRow I2 s (x3_mask I2 L (I2 s 0) &&& (I2 s 2 ^^^ (-1))) weft
  x3_break I3 L s
def wuI (L s : Nat) : Nat → JI → JI
  | 0, I => I
  | m + 1, I => if x3_obst I L s = 0 then wuI L s m (x3_weaveNext I L s) else I
def wuN (L s : Nat) : Nat → JI → Nat
  | 0, _ => 0
  | m + 1, I => if x3_obst I L s = 0 then wuN L s m (x3_weaveNext I L s) + 1 else 0
def rmB (I : JI) (L : Nat) : JI :=
  let I1 := stI I (L + 10) 3 (I (L + 10) 3 - 1)
  x7_addYarn I1 (L + 10) (atF (I1 (L + 10 + 6)) 60 (I1 (L + 10) 3)) (I1 L 4)
def rmI (L : Nat) : Nat → JI → JI
  | 0, I => I
  | m + 1, I => if 0 < I (L + 10) 3 then rmI L m (rmB I L) else I
def x3_cell (I : JI) (L : Nat) (r w : Int32) : Int32 := if hasB (atF (I (L + 10 + 5)) 60 r) w = true then atF (I (L + 2)) 24 w else atF (I (L + 10 + 6)) 60 r
def shF (f : Nat → Int32) : Nat → Int32
  | 0 => 0
  | j + 1 => shF f j + bcF (atF f 60 (nI j))
def ccW (I : JI) (L : Nat) (c r z : Int32) : Nat → Int32
  | 0 => z
  | j + 1 => if x3_cell I L r (nI j) = c then ccW I L c r z j + 1 else ccW I L c r z j
def ccR (I : JI) (L : Nat) (c : Int32) : Nat → Int32
  | 0 => 0
  | j + 1 => ccW I L c (nI j) (ccR I L c j) (I L 4).toNatClampNeg
def lrF (p : Nat → Bool) : Nat → Int32 × Int32
  | 0 => (0, 0)
  | j + 1 => (mxF (lrF p j).1 (if p j = true then (lrF p j).2 + 1 else 0), if p j = true then (lrF p j).2 + 1 else 0)
def crW (I : JI) (L : Nat) (r p : Int32) : Nat → Nat → Bool
  | 0, _ => true
  | m + 1, j => if x3_cell I L r (nI j) = x3_cell I L (r - p) (nI j) then crW I L r p m (j + 1) else false
def crR (I : JI) (L : Nat) (p : Int32) : Nat → Nat → Bool
  | 0, _ => true
  | m + 1, j => if crW I L (nI j) p (I L 4).toNatClampNeg 0 = true then crR I L p m (j + 1) else false
def lrdF (I : JI) (L : Nat) : Nat → Nat → Int32
  | 0, _ => I (L + 10) 3
  | m + 1, j => if crR I L (nI j) ((I (L + 10) 3).toNatClampNeg - j) j = true then nI j else lrdF I L m (j + 1)
def eqD (I : JI) (L : Nat) (r c : Int32) : Bool := decide (atF (I (L + 10 + 5)) 60 r = x3_mask I L (atF (I (L + 3)) 12 c)) && (decide (bcF (atF (I (L + 10 + 5)) 60 r) = I L 4) || decide (atF (I (L + 10 + 6)) 60 r = atF (I (L + 4)) 12 c))
def dfD (I : JI) (L : Nat) (r : Int32) : Bool := !eqD I L r (x0_cfr I (L + 5) r)
def cwF (I : JI) (L : Nat) : Nat → Int32
  | 0 => 0
  | j + 1 => if dfD I L (nI j) = true then cwF I L j + 1 else cwF I L j
def fwF (I : JI) (L : Nat) : Nat → Nat → Int32
  | 0, _ => -1
  | m + 1, j => if dfD I L (nI j) = true then nI j else fwF I L m (j + 1)
def exC (c a b : Int32) : Int32 := if c = a then b else if c = b then a else c
def exF (I : JI) (L : Nat) (a b : Int32) : Nat → Nat → Bool
  | 0, _ => true
  | m + 1, j => if eqD I L (nI j) (exC (x0_cfr I (L + 5) (nI j)) a b) = true then exF I L a b m (j + 1) else false
def exB (I : JI) (L : Nat) (a b : Int32) : Bool := exF I L a b (I (L + 10) 3).toNatClampNeg 0
def spI (I : JI) (L a : Nat) : Nat → Nat → Option Int32
  | 0, _ => none
  | m + 1, j => if exB I L (nI a) (nI j) = true then some (nI a * 12 + nI j) else spI I L a m (j + 1)
def spO (I : JI) (L : Nat) : Nat → Nat → Int32
  | 0, _ => -1
  | m + 1, j => match spI I L j ((I L 7).toNatClampNeg - (j + 1)) (j + 1) with
    | some v => v
    | none => spO I L m (j + 1)
def x3_pair (I : JI) (L : Nat) : Int32 := if fwF I L (I (L + 10) 3).toNatClampNeg 0 = -1 then -1 else spO I L (I L 7).toNatClampNeg 0
def ynF (I : JI) (L : Nat) (c : Int32) (a : Nat) : Nat → Int32
  | 0 => 0
  | j + 1 => if atF (I (L + 10 + 4)) 12 (atF (I (L + 5 + 2)) 400 (nI (a + j))) = c then ynF I L c a j + I L 4 else ynF I L c a j
set_option maxHeartbeats 2000000 in
theorem c_X3_clear {Ω : JO} {I : JI} {S : JS} {Q : JQ} {L : Nat} (hL : Is3 S L) (hQ : Q (.inl none) (x3_clear I L) S) : Call Ω m_X3_clear [.ref L] I S Q := by
  refine call_of (by decide +kernel) rfl (Nat.le_of_ble_eq_true rfl) ?_
  change AA Ω m_X3_clear (FQ Ω m_X3_clear Q) 0 0 0 [(0, .ref L)] [] I S
  refine r_aload_n (pc' := 1) dX3_clear_0 rfl 0 rfl rfl ?_
  refine r_iconst (pc' := 2) (v := 0) dX3_clear_1 (by decide) rfl ?_
  refine r_putI (pc' := 5) dX3_clear_2 fa_X3_9 hL.o rfl rfl ?_
  refine r_aload_n (pc' := 6) dX3_clear_5 rfl 0 rfl rfl ?_
  refine r_iconst (pc' := 7) (v := 0) dX3_clear_6 (by decide) rfl ?_
  refine r_putI (pc' := 10) dX3_clear_7 fa_X3_15 hL.o rfl rfl ?_
  refine r_aload_n (pc' := 11) dX3_clear_10 rfl 0 rfl rfl ?_
  refine r_iconst (pc' := 12) (v := 0) dX3_clear_11 (by decide) rfl ?_
  refine r_putI (pc' := 15) dX3_clear_12 fa_X3_18 hL.o rfl rfl ?_
  refine r_aload_n (pc' := 16) dX3_clear_15 rfl 0 rfl rfl ?_
  refine r_bipush (pc' := 18) (v := 24) dX3_clear_16 (by decide) rfl ?_
  refine r_putI (pc' := 21) dX3_clear_18 fa_X3_21 hL.o rfl rfl ?_
  refine r_aload_n (pc' := 22) dX3_clear_21 rfl 0 rfl rfl ?_
  refine r_iconst (pc' := 23) (v := 0) dX3_clear_22 (by decide) rfl ?_
  refine r_putI (pc' := 26) dX3_clear_23 fa_X3_24 hL.o rfl rfl ?_
  refine r_aload_n (pc' := 27) dX3_clear_26 rfl 0 rfl rfl ?_
  refine r_iconst (pc' := 28) (v := 0) dX3_clear_27 (by decide) rfl ?_
  refine r_putI (pc' := 31) dX3_clear_28 fa_X3_34 hL.o rfl rfl ?_
  refine r_aload_n (pc' := 32) dX3_clear_31 rfl 0 rfl rfl ?_
  refine r_getO (pc' := 35) dX3_clear_32 fa_X3_46 hL.o rfl hL.r10 rfl ?_
  refine r_callV0 (pc' := 38) (k' := 0) (n' := 0) dX3_clear_35 mb_X0_clear mi_X0_clear hL.c10.o (by decide) rfl lk_X3_60 rfl rfl rfl (Nat.le_of_ble_eq_true rfl) rfl (c_X0_clear hL.c10 (cpV ?_))
  refine r_aload_n (pc' := 39) dX3_clear_38 rfl 0 rfl rfl ?_
  refine r_getO (pc' := 42) dX3_clear_39 fa_X3_53 hL.o rfl hL.r11 rfl ?_
  refine r_callV0 (pc' := 45) (k' := 0) (n' := 0) dX3_clear_42 mb_X7_clear mi_X7_clear hL.c11.o (by decide) rfl lk_X3_63 rfl rfl rfl (Nat.le_of_ble_eq_true rfl) rfl (c_X7_clear hL.c11 (cpV ?_))
  exact r_ret dX3_clear_45 rfl (by decide) (by decide) (hQ)
set_option maxHeartbeats 2000000 in
theorem c_X3_addWarp {Ω : JO} {I : JI} {S : JS} {Q : JQ} {L : Nat} {h c : Int32} (hL : Is3 S L) (hQ : Q (.inl (some (.int (zb (x3_addWarpB I L))))) (x3_addWarp I L h c) S) : Call Ω m_X3_addWarp [.ref L, .int h, .int c] I S Q := by
  refine call_of (by decide +kernel) rfl (Nat.le_of_ble_eq_true rfl) ?_
  change AA Ω m_X3_addWarp (FQ Ω m_X3_addWarp Q) 0 0 0 [(0, .ref L), (1, .int h), (2, .int c)] [] I S
  refine r_aload_n (pc' := 1) dX3_addWarp_0 rfl 0 rfl rfl ?_
  refine r_getI (pc' := 4) dX3_addWarp_1 fa_X3_24 hL.o rfl rfl ?_
  refine r_bipush (pc' := 6) (v := 24) dX3_addWarp_4 (by decide) rfl ?_
  refine r_icmp_lt (tgt := 11) (pc' := 9) dX3_addWarp_6 rfl rfl (fun h6 => ?_) (fun h6 => ?_)
  · have hB : x3_addWarpB I L = true := decide_eq_true h6
    rw [x3_addWarp, if_pos hB, hB] at hQ
    refine r_aload_n (pc' := 12) dX3_addWarp_11 rfl 0 rfl rfl ?_
    refine r_getO (pc' := 15) dX3_addWarp_12 fa_X3_27 hL.o rfl hL.r5 rfl ?_
    refine r_aload_n (pc' := 16) dX3_addWarp_15 rfl 0 rfl rfl ?_
    refine r_getI (pc' := 19) dX3_addWarp_16 fa_X3_24 hL.o rfl rfl ?_
    refine r_iload_n (pc' := 20) dX3_addWarp_19 rfl 1 rfl rfl ?_
    refine r_callSN3 (pc' := 23) (k' := 0) (n' := 0) dX3_addWarp_20 mb_X8_put ms_X8_put ln_X3_64 rfl rfl rfl (Nat.le_of_ble_eq_true rfl) rfl (c_X8_put hL.c5 (by decide) (cpV ?_))
    refine r_aload_n (pc' := 24) dX3_addWarp_23 rfl 0 rfl rfl ?_
    refine r_getO (pc' := 27) dX3_addWarp_24 fa_X3_31 hL.o rfl hL.r6 rfl ?_
    refine r_aload_n (pc' := 28) dX3_addWarp_27 rfl 0 rfl rfl ?_
    refine r_getI (pc' := 31) dX3_addWarp_28 fa_X3_24 hL.o rfl rfl ?_
    refine r_iload_n (pc' := 32) dX3_addWarp_31 rfl 2 rfl rfl ?_
    refine r_callSN3 (pc' := 35) (k' := 0) (n' := 0) dX3_addWarp_32 mb_X8_put ms_X8_put ln_X3_64 rfl rfl rfl (Nat.le_of_ble_eq_true rfl) rfl (c_X8_put hL.c6 (by decide) (cpV ?_))
    refine r_aload_n (pc' := 36) dX3_addWarp_35 rfl 0 rfl rfl ?_
    refine r_dup (pc' := 37) dX3_addWarp_36 rfl rfl ?_
    refine r_getI (pc' := 40) dX3_addWarp_37 fa_X3_24 hL.o rfl rfl ?_
    refine r_iconst (pc' := 41) (v := 1) dX3_addWarp_40 (by decide) rfl ?_
    refine r_iadd (pc' := 42) dX3_addWarp_41 rfl ?_
    refine r_putI (pc' := 45) dX3_addWarp_42 fa_X3_24 hL.o rfl rfl ?_
    refine r_iconst (pc' := 46) (v := 1) dX3_addWarp_45 (by decide) rfl ?_
    exact r_zret dX3_addWarp_46 rfl (by first | exact zb01 _ | decide) (by decide) (by decide) (hQ)
  · have hB : x3_addWarpB I L = false := decide_eq_false h6
    rw [x3_addWarp, if_neg (by rw [hB]; decide), hB] at hQ
    refine r_iconst (pc' := 10) (v := 0) dX3_addWarp_9 (by decide) rfl ?_
    exact r_zret dX3_addWarp_10 rfl (by first | exact zb01 _ | decide) (by decide) (by decide) (hQ)
set_option maxHeartbeats 2000000 in
theorem c_X3_addCard {Ω : JO} {I : JI} {S : JS} {Q : JQ} {L : Nat} {l c : Int32} (hL : Is3 S L) (hQ : Q (.inl none) (x3_addCard I L l c) S) : Call Ω m_X3_addCard [.ref L, .int l, .int c] I S Q := by
  refine call_of (by decide +kernel) rfl (Nat.le_of_ble_eq_true rfl) ?_
  change AA Ω m_X3_addCard (FQ Ω m_X3_addCard Q) 0 0 0 [(0, .ref L), (1, .int l), (2, .int c)] [] I S
  refine r_aload_n (pc' := 1) dX3_addCard_0 rfl 0 rfl rfl ?_
  refine r_getO (pc' := 4) dX3_addCard_1 fa_X3_37 hL.o rfl hL.r8 rfl ?_
  refine r_aload_n (pc' := 5) dX3_addCard_4 rfl 0 rfl rfl ?_
  refine r_getI (pc' := 8) dX3_addCard_5 fa_X3_34 hL.o rfl rfl ?_
  refine r_iload_n (pc' := 9) dX3_addCard_8 rfl 1 rfl rfl ?_
  refine r_callSN3 (pc' := 12) (k' := 0) (n' := 0) dX3_addCard_9 mb_X8_put ms_X8_put ln_X3_64 rfl rfl rfl (Nat.le_of_ble_eq_true rfl) rfl (c_X8_put hL.c8 (by decide) (cpV ?_))
  refine r_aload_n (pc' := 13) dX3_addCard_12 rfl 0 rfl rfl ?_
  refine r_getO (pc' := 16) dX3_addCard_13 fa_X3_40 hL.o rfl hL.r9 rfl ?_
  refine r_aload_n (pc' := 17) dX3_addCard_16 rfl 0 rfl rfl ?_
  refine r_getI (pc' := 20) dX3_addCard_17 fa_X3_34 hL.o rfl rfl ?_
  refine r_iload_n (pc' := 21) dX3_addCard_20 rfl 2 rfl rfl ?_
  refine r_callSN3 (pc' := 24) (k' := 0) (n' := 0) dX3_addCard_21 mb_X8_put ms_X8_put ln_X3_64 rfl rfl rfl (Nat.le_of_ble_eq_true rfl) rfl (c_X8_put hL.c9 (by decide) (cpV ?_))
  refine r_aload_n (pc' := 25) dX3_addCard_24 rfl 0 rfl rfl ?_
  refine r_getO (pc' := 28) dX3_addCard_25 fa_X3_53 hL.o rfl hL.r11 rfl ?_
  refine r_getO (pc' := 31) dX3_addCard_28 fa_X3_68 hL.c11.o rfl hL.c11.r8 rfl ?_
  refine r_aload_n (pc' := 32) dX3_addCard_31 rfl 0 rfl rfl ?_
  refine r_getI (pc' := 35) dX3_addCard_32 fa_X3_34 hL.o rfl rfl ?_
  refine r_iload_n (pc' := 36) dX3_addCard_35 rfl 1 rfl rfl ?_
  refine r_callSN3 (pc' := 39) (k' := 0) (n' := 0) dX3_addCard_36 mb_X8_put ms_X8_put ln_X3_64 rfl rfl rfl (Nat.le_of_ble_eq_true rfl) rfl (c_X8_put hL.c11.c8 (by decide) (cpV ?_))
  refine r_aload_n (pc' := 40) dX3_addCard_39 rfl 0 rfl rfl ?_
  refine r_getO (pc' := 43) dX3_addCard_40 fa_X3_53 hL.o rfl hL.r11 rfl ?_
  refine r_getO (pc' := 46) dX3_addCard_43 fa_X3_71 hL.c11.o rfl hL.c11.r9 rfl ?_
  refine r_aload_n (pc' := 47) dX3_addCard_46 rfl 0 rfl rfl ?_
  refine r_getI (pc' := 50) dX3_addCard_47 fa_X3_34 hL.o rfl rfl ?_
  refine r_iload_n (pc' := 51) dX3_addCard_50 rfl 2 rfl rfl ?_
  refine r_callSN3 (pc' := 54) (k' := 0) (n' := 0) dX3_addCard_51 mb_X8_put ms_X8_put ln_X3_64 rfl rfl rfl (Nat.le_of_ble_eq_true rfl) rfl (c_X8_put hL.c11.c9 (by decide) (cpV ?_))
  refine r_aload_n (pc' := 55) dX3_addCard_54 rfl 0 rfl rfl ?_
  refine r_dup (pc' := 56) dX3_addCard_55 rfl rfl ?_
  refine r_getI (pc' := 59) dX3_addCard_56 fa_X3_34 hL.o rfl rfl ?_
  refine r_iconst (pc' := 60) (v := 1) dX3_addCard_59 (by decide) rfl ?_
  refine r_iadd (pc' := 61) dX3_addCard_60 rfl ?_
  refine r_putI (pc' := 64) dX3_addCard_61 fa_X3_34 hL.o rfl rfl ?_
  exact r_ret dX3_addCard_64 rfl (by decide) (by decide) (hQ)
set_option maxHeartbeats 2000000 in
theorem c_X3_otherHarnesses {Ω : JO} {I : JI} {S : JS} {Q : JQ} {L : Nat} {s : Int32} (hL : Is3 S L) (hQ : Q (.inl (some (.int (x3_other I L s)))) (I) S) : Call Ω m_X3_otherHarnesses [.ref L, .int s] I S Q := by
  refine call_of (by decide +kernel) rfl (Nat.le_of_ble_eq_true rfl) ?_
  change AA Ω m_X3_otherHarnesses (FQ Ω m_X3_otherHarnesses Q) 0 0 0 [(0, .ref L), (1, .int s)] [] I S
  refine r_iconst (pc' := 1) (v := 1) dX3_otherHarnesses_0 (by decide) rfl ?_
  refine r_aload_n (pc' := 2) dX3_otherHarnesses_1 rfl 0 rfl rfl ?_
  refine r_getI (pc' := 5) dX3_otherHarnesses_2 fa_X3_9 hL.o rfl rfl ?_
  refine r_ishl (pc' := 6) dX3_otherHarnesses_5 rfl ?_
  refine r_iconst (pc' := 7) (v := 1) dX3_otherHarnesses_6 (by decide) rfl ?_
  refine r_isub (pc' := 8) dX3_otherHarnesses_7 rfl ?_
  refine r_iload_n (pc' := 9) dX3_otherHarnesses_8 rfl 1 rfl rfl ?_
  refine r_iconst (pc' := 10) (v := -1) dX3_otherHarnesses_9 (by decide) rfl ?_
  refine r_ixor (pc' := 11) dX3_otherHarnesses_10 rfl ?_
  refine r_iand (pc' := 12) dX3_otherHarnesses_11 rfl ?_
  exact r_iret dX3_otherHarnesses_12 rfl (by decide) (by decide) (hQ)
set_option maxHeartbeats 2000000 in
theorem l_X3_warpsOf {Ω : JO} {I : JI} {S : JS} {Q : JQ} {L : Nat} {set : Int32} (hL : Is3 S L) (hQ : Q (.inl (some (.int (wmF (I (L + 1)) set (I L 4).toNatClampNeg)))) I S) : ∀ (m : Nat) (j : Nat), j + m = (I L 4).toNatClampNeg → AA Ω m_X3_warpsOfHarnesses (FQ Ω m_X3_warpsOfHarnesses Q) 0 0 4 [(3, .int (nI j)), (2, .int (wmF (I (L + 1)) set j)), (0, .ref L), (1, .int set)] [] I S := by
  intro m
  induction m with
  | zero =>
    intro j hj
    refine r_iload_n (pc' := 5) dX3_warpsOfHarnesses_4 rfl 0 rfl rfl ?_
    refine r_aload_n (pc' := 6) dX3_warpsOfHarnesses_5 rfl 2 rfl rfl ?_
    refine r_getI (pc' := 9) dX3_warpsOfHarnesses_6 fa_X3_24 hL.o rfl rfl ?_
    refine r_icmp_ge (tgt := 39) (pc' := 12) dX3_warpsOfHarnesses_9 rfl rfl (fun h9 => ?_) (fun h9 => ?_)
    · have e : j = (I L 4).toNatClampNeg := by omega
      rw [← e] at hQ
      refine r_iload_n (pc' := 40) dX3_warpsOfHarnesses_39 rfl 1 rfl rfl ?_
      exact r_iret dX3_warpsOfHarnesses_40 rfl (by decide) (by decide) (hQ)
    · exact absurd ((cl_le2 (by have := cl_b (I L 4); omega)).mpr (by omega)) h9
  | succ m ih =>
    intro j hj
    refine r_iload_n (pc' := 5) dX3_warpsOfHarnesses_4 rfl 0 rfl rfl ?_
    refine r_aload_n (pc' := 6) dX3_warpsOfHarnesses_5 rfl 2 rfl rfl ?_
    refine r_getI (pc' := 9) dX3_warpsOfHarnesses_6 fa_X3_24 hL.o rfl rfl ?_
    refine r_icmp_ge (tgt := 39) (pc' := 12) dX3_warpsOfHarnesses_9 rfl rfl (fun h9 => ?_) (fun h9 => ?_)
    · exact absurd ((cl_le2 (by have := cl_b (I L 4); omega)).mp h9) (by omega)
    · refine r_iload_n (pc' := 13) dX3_warpsOfHarnesses_12 rfl 3 rfl rfl ?_
      refine r_aload_n (pc' := 14) dX3_warpsOfHarnesses_13 rfl 2 rfl rfl ?_
      refine r_getO (pc' := 17) dX3_warpsOfHarnesses_14 fa_X3_27 hL.o rfl hL.r5 rfl ?_
      refine r_iload_n (pc' := 18) dX3_warpsOfHarnesses_17 rfl 0 rfl rfl ?_
      refine r_callSN2 (pc' := 21) (k' := 0) (n' := 0) dX3_warpsOfHarnesses_18 mb_X8_at ms_X8_at ln_X3_74 rfl rfl rfl (Nat.le_of_ble_eq_true rfl) rfl (c_X8_at hL.c5 (by decide) (cpI ?_))
      refine r_callSN2 (pc' := 24) (k' := 0) (n' := 0) dX3_warpsOfHarnesses_21 mb_X8_has ms_X8_has ln_X3_78 rfl rfl rfl (Nat.le_of_ble_eq_true rfl) rfl (c_X8_has (cpI ?_))
      refine r_if_eq (tgt := 33) (pc' := 27) dX3_warpsOfHarnesses_24 rfl rfl (fun h24 => ?_) (fun h24 => ?_)
      · refine r_iinc (pc' := 36) (lv' := [(3, _), (2, _), (0, _), (1, _)]) dX3_warpsOfHarnesses_33 0 rfl rfl (by decide) rfl rfl ?_
        refine r_goto (tgt := 4) dX3_warpsOfHarnesses_36 rfl ?_
        exact aa_lv (lv' := [(3, .int (nI (j + 1))), (2, .int (wmF (I (L + 1)) set (j + 1))), (0, .ref L), (1, .int set)]) (by first | simp [nI_1, nI_inc, wmF, zb0 h24] | simp [nI_1, nI_inc, wmF, zb1 h24] | simp_all [nI_1, nI_inc, wmF]) (ih (j + 1) (by omega))
      · refine r_iload_n (pc' := 28) dX3_warpsOfHarnesses_27 rfl 1 rfl rfl ?_
        refine r_iconst (pc' := 29) (v := 1) dX3_warpsOfHarnesses_28 (by decide) rfl ?_
        refine r_iload_n (pc' := 30) dX3_warpsOfHarnesses_29 rfl 0 rfl rfl ?_
        refine r_ishl (pc' := 31) dX3_warpsOfHarnesses_30 rfl ?_
        refine r_ior (pc' := 32) dX3_warpsOfHarnesses_31 rfl ?_
        refine r_istore_n (pc' := 33) (lv' := [(2, _), (3, _), (0, _), (1, _)]) dX3_warpsOfHarnesses_32 rfl (by decide) rfl rfl ?_
        refine r_iinc (pc' := 36) (lv' := [(3, _), (2, _), (0, _), (1, _)]) dX3_warpsOfHarnesses_33 1 rfl rfl (by decide) rfl rfl ?_
        refine r_goto (tgt := 4) dX3_warpsOfHarnesses_36 rfl ?_
        exact aa_lv (lv' := [(3, .int (nI (j + 1))), (2, .int (wmF (I (L + 1)) set (j + 1))), (0, .ref L), (1, .int set)]) (by first | simp [nI_1, nI_inc, wmF, zb0 h24] | simp [nI_1, nI_inc, wmF, zb1 h24] | simp_all [nI_1, nI_inc, wmF]) (ih (j + 1) (by omega))
set_option maxHeartbeats 2000000 in
theorem c_X3_warpsOfHarnesses {Ω : JO} {I : JI} {S : JS} {Q : JQ} {L : Nat} {set : Int32} (hL : Is3 S L) (hQ : Q (.inl (some (.int (x3_mask I L set)))) (I) S) : Call Ω m_X3_warpsOfHarnesses [.ref L, .int set] I S Q := by
  refine call_of (by decide +kernel) rfl (Nat.le_of_ble_eq_true rfl) ?_
  change AA Ω m_X3_warpsOfHarnesses (FQ Ω m_X3_warpsOfHarnesses Q) 0 0 0 [(0, .ref L), (1, .int set)] [] I S
  refine r_iconst (pc' := 1) (v := 0) dX3_warpsOfHarnesses_0 (by decide) rfl ?_
  refine r_istore_n (pc' := 2) (lv' := [(2, _), (0, _), (1, _)]) dX3_warpsOfHarnesses_1 rfl (by decide) rfl rfl ?_
  refine r_iconst (pc' := 3) (v := 0) dX3_warpsOfHarnesses_2 (by decide) rfl ?_
  refine r_istore_n (pc' := 4) (lv' := [(3, _), (2, _), (0, _), (1, _)]) dX3_warpsOfHarnesses_3 rfl (by decide) rfl rfl ?_
  exact l_X3_warpsOf (Ω := Ω) hL hQ _ 0 (Nat.zero_add _)
set_option maxHeartbeats 2000000 in
theorem c_X3_obstacle {Ω : JO} {I : JI} {S : JS} {Q : JQ} {L : Nat} {s : Nat} (hL : Is3 S L) (hs : Is7 S s) (hQ : Q (.inl (some (.int (x3_obst I L s)))) (I) S) : Call Ω m_X3_obstacle [.ref L, .ref s] I S Q := by
  refine call_of (by decide +kernel) rfl (Nat.le_of_ble_eq_true rfl) ?_
  change AA Ω m_X3_obstacle (FQ Ω m_X3_obstacle Q) 0 0 0 [(0, .ref L), (1, .ref s)] [] I S
  refine r_aload_n (pc' := 1) dX3_obstacle_0 rfl 0 rfl rfl ?_
  refine r_getO (pc' := 4) dX3_obstacle_1 fa_X3_46 hL.o rfl hL.r10 rfl ?_
  refine r_getI (pc' := 7) dX3_obstacle_4 fa_X3_82 hL.c10.o rfl rfl ?_
  refine r_if_ne (tgt := 12) (pc' := 10) dX3_obstacle_7 rfl rfl (fun h7 => ?_) (fun h7 => ?_)
  · rw [x3_obst, if_neg h7] at hQ
    refine r_aload_n (pc' := 13) dX3_obstacle_12 rfl 1 rfl rfl ?_
    refine r_getI (pc' := 16) dX3_obstacle_13 fa_X3_85 hs.o rfl rfl ?_
    refine r_bipush (pc' := 18) (v := 60) dX3_obstacle_16 (by decide) rfl ?_
    refine r_icmp_lt (tgt := 23) (pc' := 21) dX3_obstacle_18 rfl rfl (fun h18 => ?_) (fun h18 => ?_)
    · rw [if_neg (Int32.not_le.mpr h18)] at hQ
      refine r_aload_n (pc' := 24) dX3_obstacle_23 rfl 0 rfl rfl ?_
      refine r_getO (pc' := 27) dX3_obstacle_24 fa_X3_46 hL.o rfl hL.r10 rfl ?_
      refine r_aload_n (pc' := 28) dX3_obstacle_27 rfl 1 rfl rfl ?_
      refine r_getI (pc' := 31) dX3_obstacle_28 fa_X3_85 hs.o rfl rfl ?_
      refine r_callV1 (pc' := 34) (k' := 0) (n' := 0) dX3_obstacle_31 mb_X0_cardForRow mi_X0_cardForRow hL.c10.o (by decide) rfl lk_X3_88 rfl rfl rfl (Nat.le_of_ble_eq_true rfl) rfl (c_X0_cardForRow hL.c10 (cpI ?_))
      refine r_istore_n (pc' := 35) (lv' := [(2, _), (0, _), (1, _)]) dX3_obstacle_34 rfl (by decide) rfl rfl ?_
      refine r_aload_n (pc' := 36) dX3_obstacle_35 rfl 2 rfl rfl ?_
      refine r_getO (pc' := 39) dX3_obstacle_36 fa_X3_92 hs.o rfl hs.r7 rfl ?_
      refine r_aload_n (pc' := 40) dX3_obstacle_39 rfl 2 rfl rfl ?_
      refine r_getO (pc' := 43) dX3_obstacle_40 fa_X3_71 hs.o rfl hs.r9 rfl ?_
      refine r_iload_n (pc' := 44) dX3_obstacle_43 rfl 0 rfl rfl ?_
      refine r_callSN2 (pc' := 47) (k' := 0) (n' := 0) dX3_obstacle_44 mb_X8_at ms_X8_at ln_X3_74 rfl rfl rfl (Nat.le_of_ble_eq_true rfl) rfl (c_X8_at hs.c9 (by decide) (cpI ?_))
      refine r_callSN2 (pc' := 50) (k' := 0) (n' := 0) dX3_obstacle_47 mb_X8_at ms_X8_at ln_X3_74 rfl rfl rfl (Nat.le_of_ble_eq_true rfl) rfl (c_X8_at hs.c7 (by decide) (cpI ?_))
      refine r_aload_n (pc' := 51) dX3_obstacle_50 rfl 1 rfl rfl ?_
      refine r_getI (pc' := 54) dX3_obstacle_51 fa_X3_24 hL.o rfl rfl ?_
      refine r_icmp_ge (tgt := 59) (pc' := 57) dX3_obstacle_54 rfl rfl (fun h54 => ?_) (fun h54 => ?_)
      · rw [if_neg (Int32.not_lt.mpr h54)] at hQ
        refine r_aload_n (pc' := 60) dX3_obstacle_59 rfl 1 rfl rfl ?_
        refine r_aload_n (pc' := 61) dX3_obstacle_60 rfl 2 rfl rfl ?_
        refine r_getO (pc' := 64) dX3_obstacle_61 fa_X3_68 hs.o rfl hs.r8 rfl ?_
        refine r_iload_n (pc' := 65) dX3_obstacle_64 rfl 0 rfl rfl ?_
        refine r_callSN2 (pc' := 68) (k' := 0) (n' := 0) dX3_obstacle_65 mb_X8_at ms_X8_at ln_X3_74 rfl rfl rfl (Nat.le_of_ble_eq_true rfl) rfl (c_X8_at hs.c8 (by decide) (cpI ?_))
        refine r_callV1 (pc' := 71) (k' := 0) (n' := 0) dX3_obstacle_68 mb_X3_warpsOfHarnesses mi_X3_warpsOfHarnesses hL.o (by decide) rfl lk_X3_95 rfl rfl rfl (Nat.le_of_ble_eq_true rfl) rfl (c_X3_warpsOfHarnesses hL (cpI ?_))
        refine r_callS1 (pc' := 74) (k' := 0) (n' := 0) dX3_obstacle_71 mb_J6_bitCount_0f7a4 ms_J6_bitCount_0f7a4 lk_X3_98 rfl rfl rfl (Nat.le_of_ble_eq_true rfl) rfl (c_J6_bitCount_0f7a4 (cpI ?_))
        refine r_istore_n (pc' := 75) (lv' := [(3, _), (2, _), (0, _), (1, _)]) dX3_obstacle_74 rfl (by decide) rfl rfl ?_
        refine r_iload_n (pc' := 76) dX3_obstacle_75 rfl 0 rfl rfl ?_
        refine r_aload_n (pc' := 77) dX3_obstacle_76 rfl 2 rfl rfl ?_
        refine r_getI (pc' := 80) dX3_obstacle_77 fa_X3_21 hL.o rfl rfl ?_
        refine r_icmp_le (tgt := 87) (pc' := 83) dX3_obstacle_80 rfl rfl (fun h80 => ?_) (fun h80 => ?_)
        · rw [if_neg (Int32.not_lt.mpr h80)] at hQ
          refine r_iconst (pc' := 88) (v := 0) dX3_obstacle_87 (by decide) rfl ?_
          exact r_iret dX3_obstacle_88 rfl (by decide) (by decide) (hQ)
        · rw [if_pos (Int32.not_le.mp h80)] at hQ
          refine r_iconst (pc' := 84) (v := 4) dX3_obstacle_83 (by decide) rfl ?_
          refine r_goto (tgt := 88) dX3_obstacle_84 rfl ?_
          exact r_iret dX3_obstacle_88 rfl (by decide) (by decide) (hQ)
      · rw [if_pos (Int32.not_le.mp h54)] at hQ
        refine r_iconst (pc' := 58) (v := 3) dX3_obstacle_57 (by decide) rfl ?_
        exact r_iret dX3_obstacle_58 rfl (by decide) (by decide) (hQ)
    · rw [if_pos (Int32.not_lt.mp h18)] at hQ
      refine r_iconst (pc' := 22) (v := 2) dX3_obstacle_21 (by decide) rfl ?_
      exact r_iret dX3_obstacle_22 rfl (by decide) (by decide) (hQ)
  · rw [x3_obst, if_pos h7] at hQ
    refine r_iconst (pc' := 11) (v := 1) dX3_obstacle_10 (by decide) rfl ?_
    exact r_iret dX3_obstacle_11 rfl (by decide) (by decide) (hQ)
set_option maxHeartbeats 2000000 in
theorem l_X3_move {Ω : JO} {S : JS} {Q : JQ} {L s : Nat} {l mv : Int32} {N : Nat} (hL : Is3 S L) (hs : Is7 S s) (hN : N < 2 ^ 31) (hLs : L < s) : ∀ (m : Nat) (j : Nat) (I : JI), j + m = N → I L 0 = nI N → Q (.inl none) (mvI L s mv m j I) S → AA Ω m_X3_moveHarnesses (FQ Ω m_X3_moveHarnesses Q) 0 0 27 [(4, .int (nI j)), (3, .int mv), (0, .ref L), (1, .ref s), (2, .int l)] [] I S := by
  intro m
  induction m with
  | zero =>
    intro j I hj hh hQ
    refine r_iload (pc' := 29) dX3_moveHarnesses_27 0 rfl rfl ?_
    refine r_aload_n (pc' := 30) dX3_moveHarnesses_29 rfl 2 rfl rfl ?_
    refine r_getI (pc' := 33) dX3_moveHarnesses_30 fa_X3_9 hL.o rfl rfl ?_
    refine r_icmp_ge (tgt := 102) (pc' := 36) dX3_moveHarnesses_33 rfl rfl (fun h33 => ?_) (fun h33 => ?_)
    · exact r_ret dX3_moveHarnesses_102 rfl (by decide) (by decide) (hQ)
    · rw [hh] at h33
      exact absurd (nI_le (show N ≤ j by omega) (by omega)) h33
  | succ m ih =>
    intro j I hj hh hQ
    refine r_iload (pc' := 29) dX3_moveHarnesses_27 0 rfl rfl ?_
    refine r_aload_n (pc' := 30) dX3_moveHarnesses_29 rfl 2 rfl rfl ?_
    refine r_getI (pc' := 33) dX3_moveHarnesses_30 fa_X3_9 hL.o rfl rfl ?_
    refine r_icmp_ge (tgt := 102) (pc' := 36) dX3_moveHarnesses_33 rfl rfl (fun h33 => ?_) (fun h33 => ?_)
    · rw [hh] at h33
      exact absurd h33 (nI_ge (show j < N by omega) hN)
    · refine r_iload_n (pc' := 37) dX3_moveHarnesses_36 rfl 1 rfl rfl ?_
      refine r_iload (pc' := 39) dX3_moveHarnesses_37 0 rfl rfl ?_
      refine r_callSN2 (pc' := 42) (k' := 0) (n' := 0) dX3_moveHarnesses_39 mb_X8_has ms_X8_has ln_X3_78 rfl rfl rfl (Nat.le_of_ble_eq_true rfl) rfl (c_X8_has (cpI ?_))
      refine r_if_eq (tgt := 96) (pc' := 45) dX3_moveHarnesses_42 rfl rfl (fun h42 => ?_) (fun h42 => ?_)
      · rw [mvI, mvB, if_neg (by rw [zb0 h42]; decide)] at hQ
        refine r_iinc (pc' := 99) (lv' := [(4, _), (3, _), (0, _), (1, _), (2, _)]) dX3_moveHarnesses_96 0 rfl rfl (by decide) rfl rfl ?_
        refine r_goto (tgt := 27) dX3_moveHarnesses_99 rfl ?_
        exact aa_lv (lv' := [(4, .int (nI (j + 1))), (3, .int mv), (0, .ref L), (1, .ref s), (2, .int l)]) (by rw [nI_inc]) (ih (j + 1) _ (by omega) (by first | exact hh | (rw [ptI_ne (by omega)]; exact hh) | (rw [stI_ne (by omega), stI_ne (by omega), ptI_ne (by omega)]; exact hh)) hQ)
      · rw [mvI, mvB, if_pos (zb1 h42)] at hQ
        dsimp only at hQ
        refine r_aload_n (pc' := 46) dX3_moveHarnesses_45 rfl 3 rfl rfl ?_
        refine r_getO (pc' := 49) dX3_moveHarnesses_46 fa_X3_134 hs.o rfl hs.r6 rfl ?_
        refine r_iload (pc' := 51) dX3_moveHarnesses_49 0 rfl rfl ?_
        refine r_callSN2 (pc' := 54) (k' := 0) (n' := 0) dX3_moveHarnesses_51 mb_X8_at ms_X8_at ln_X3_74 rfl rfl rfl (Nat.le_of_ble_eq_true rfl) rfl (c_X8_at hs.c6 (by decide) (cpI ?_))
        refine r_iconst (pc' := 55) (v := 1) dX3_moveHarnesses_54 (by decide) rfl ?_
        refine r_iadd (pc' := 56) dX3_moveHarnesses_55 rfl ?_
        refine r_istore (pc' := 58) (lv' := [(5, _), (4, _), (3, _), (0, _), (1, _), (2, _)]) dX3_moveHarnesses_56 (by decide) rfl rfl ?_
        refine r_aload_n (pc' := 59) dX3_moveHarnesses_58 rfl 4 rfl rfl ?_
        refine r_getO (pc' := 62) dX3_moveHarnesses_59 fa_X3_134 hs.o rfl hs.r6 rfl ?_
        refine r_iload (pc' := 64) dX3_moveHarnesses_62 1 rfl rfl ?_
        refine r_iload (pc' := 66) dX3_moveHarnesses_64 0 rfl rfl ?_
        refine r_callSN3 (pc' := 69) (k' := 0) (n' := 0) dX3_moveHarnesses_66 mb_X8_put ms_X8_put ln_X3_64 rfl rfl rfl (Nat.le_of_ble_eq_true rfl) rfl (c_X8_put hs.c6 (by decide) (cpV ?_))
        refine r_iload (pc' := 71) dX3_moveHarnesses_69 0 rfl rfl ?_
        refine r_aload_n (pc' := 72) dX3_moveHarnesses_71 rfl 3 rfl rfl ?_
        refine r_getI (pc' := 75) dX3_moveHarnesses_72 fa_X3_15 hL.o rfl rfl ?_
        refine r_icmp_ne (tgt := 96) (pc' := 78) dX3_moveHarnesses_75 rfl rfl (fun h75 => ?_) (fun h75 => ?_)
        · rw [if_neg h75] at hQ
          refine r_iinc (pc' := 99) (lv' := [(4, _), (5, _), (3, _), (0, _), (1, _), (2, _)]) dX3_moveHarnesses_96 1 rfl rfl (by decide) rfl rfl ?_
          refine r_goto (tgt := 27) dX3_moveHarnesses_99 rfl ?_
          refine aa_locs (ks := [0, 2, 3, 4, 5]) (lv' := [(4, _), (3, _), (0, _), (1, _), (2, _)]) rfl ?_
          exact aa_lv (lv' := [(4, .int (nI (j + 1))), (3, .int mv), (0, .ref L), (1, .ref s), (2, .int l)]) (by rw [nI_inc]) (ih (j + 1) _ (by omega) (by first | exact hh | (rw [ptI_ne (by omega)]; exact hh) | (rw [stI_ne (by omega), stI_ne (by omega), ptI_ne (by omega)]; exact hh)) hQ)
        · rw [if_pos h75] at hQ
          refine r_aload_n (pc' := 79) dX3_moveHarnesses_78 rfl 4 rfl rfl ?_
          refine r_dup (pc' := 80) dX3_moveHarnesses_79 rfl rfl ?_
          refine r_getI (pc' := 83) dX3_moveHarnesses_80 fa_X3_131 hs.o rfl rfl ?_
          refine r_iconst (pc' := 84) (v := 1) dX3_moveHarnesses_83 (by decide) rfl ?_
          refine r_iload (pc' := 86) dX3_moveHarnesses_84 1 rfl rfl ?_
          refine r_ishl (pc' := 87) dX3_moveHarnesses_86 rfl ?_
          refine r_ior (pc' := 88) dX3_moveHarnesses_87 rfl ?_
          refine r_putI (pc' := 91) dX3_moveHarnesses_88 fa_X3_131 hs.o rfl rfl ?_
          refine r_aload_n (pc' := 92) dX3_moveHarnesses_91 rfl 4 rfl rfl ?_
          refine r_iconst (pc' := 93) (v := 1) dX3_moveHarnesses_92 (by decide) rfl ?_
          refine r_putZ (pc' := 96) dX3_moveHarnesses_93 fa_X3_137 hs.o rfl (by decide) rfl ?_
          refine r_iinc (pc' := 99) (lv' := [(4, _), (5, _), (3, _), (0, _), (1, _), (2, _)]) dX3_moveHarnesses_96 1 rfl rfl (by decide) rfl rfl ?_
          refine r_goto (tgt := 27) dX3_moveHarnesses_99 rfl ?_
          refine aa_locs (ks := [0, 2, 3, 4, 5]) (lv' := [(4, _), (3, _), (0, _), (1, _), (2, _)]) rfl ?_
          exact aa_lv (lv' := [(4, .int (nI (j + 1))), (3, .int mv), (0, .ref L), (1, .ref s), (2, .int l)]) (by rw [nI_inc]) (ih (j + 1) _ (by omega) (by first | exact hh | (rw [ptI_ne (by omega)]; exact hh) | (rw [stI_ne (by omega), stI_ne (by omega), ptI_ne (by omega)]; exact hh)) hQ)
set_option maxHeartbeats 2000000 in
theorem c_X3_moveHarnesses {Ω : JO} {I : JI} {S : JS} {Q : JQ} {L : Nat} {s : Nat} {l : Int32} (hL : Is3 S L) (hs : Is7 S s) (hLs : L < s) (hN : 0 ≤ I L 0) (hQ : Q (.inl none) (x3_move I L s l) S) : Call Ω m_X3_moveHarnesses [.ref L, .ref s, .int l] I S Q := by
  refine call_of (by decide +kernel) rfl (Nat.le_of_ble_eq_true rfl) ?_
  change AA Ω m_X3_moveHarnesses (FQ Ω m_X3_moveHarnesses Q) 0 0 0 [(0, .ref L), (1, .ref s), (2, .int l)] [] I S
  refine r_aload_n (pc' := 1) dX3_moveHarnesses_0 rfl 1 rfl rfl ?_
  refine r_getI (pc' := 4) dX3_moveHarnesses_1 fa_X3_119 hs.o rfl rfl ?_
  refine r_iload_n (pc' := 5) dX3_moveHarnesses_4 rfl 2 rfl rfl ?_
  refine r_ixor (pc' := 6) dX3_moveHarnesses_5 rfl ?_
  refine r_aload_n (pc' := 7) dX3_moveHarnesses_6 rfl 1 rfl rfl ?_
  refine r_getI (pc' := 10) dX3_moveHarnesses_7 fa_X3_131 hs.o rfl rfl ?_
  refine r_iconst (pc' := 11) (v := -1) dX3_moveHarnesses_10 (by decide) rfl ?_
  refine r_ixor (pc' := 12) dX3_moveHarnesses_11 rfl ?_
  refine r_iand (pc' := 13) dX3_moveHarnesses_12 rfl ?_
  refine r_istore_n (pc' := 14) (lv' := [(3, _), (0, _), (1, _), (2, _)]) dX3_moveHarnesses_13 rfl (by decide) rfl rfl ?_
  refine r_aload_n (pc' := 15) dX3_moveHarnesses_14 rfl 2 rfl rfl ?_
  refine r_dup (pc' := 16) dX3_moveHarnesses_15 rfl rfl ?_
  refine r_getI (pc' := 19) dX3_moveHarnesses_16 fa_X3_119 hs.o rfl rfl ?_
  refine r_iload_n (pc' := 20) dX3_moveHarnesses_19 rfl 0 rfl rfl ?_
  refine r_ixor (pc' := 21) dX3_moveHarnesses_20 rfl ?_
  refine r_putI (pc' := 24) dX3_moveHarnesses_21 fa_X3_119 hs.o rfl rfl ?_
  refine r_iconst (pc' := 25) (v := 0) dX3_moveHarnesses_24 (by decide) rfl ?_
  refine r_istore (pc' := 27) (lv' := [(4, _), (3, _), (0, _), (1, _), (2, _)]) dX3_moveHarnesses_25 (by decide) rfl rfl ?_
  have hc := cl_b (I L 0)
  have he : I L 0 = nI (I L 0).toNatClampNeg := by
    obtain ⟨q, h1, h2⟩ := nI_of (Int32.not_lt.mpr hN)
    rw [h2, nI_clamp h1]
  exact l_X3_move (Ω := Ω) hL hs hc hLs _ 0 _ (Nat.zero_add _) (by rw [← he, stI_ne (by omega)]) hQ
