/-! floats; the ring's place -/
section FPS
variable {Ω : JO} {Y : JM} {F : JF} {k n pc pc' : Nat} {lv : List (Nat × Value)} {st : List Value} {I : JI} {S : JS}
theorem r_fconst0 (hd : decode Y.2.1 pc = .ok (.fconst 0, 1)) (hp : pc + 1 = pc') (h : AA Ω Y F k n pc' lv (.float FP.fconst0 :: st) I S) : AA Ω Y F k n pc lv st I S := by
  subst hp
  exact fun p e s m args below meth c H locs ls C w hS hl => lv_fconst0 C.1 C.2.1 hd (h p e s m args below meth c H locs ls C w hS hl)
theorem r_dconst0 (hd : decode Y.2.1 pc = .ok (.dconst 0, 1)) (hp : pc + 1 = pc') (h : AA Ω Y F k n pc' lv (.double FP.dconst0 :: st) I S) : AA Ω Y F k n pc lv st I S := by
  subst hp
  exact fun p e s m args below meth c H locs ls C w hS hl => lv_dconst0 C.1 C.2.1 hd (h p e s m args below meth c H locs ls C w hS hl)
theorem r_i2f {x : Int32} (hd : decode Y.2.1 pc = .ok (.i2f, 1)) (hp : pc + 1 = pc') (h : AA Ω Y F k n pc' lv (.float (FP.i2f x) :: st) I S) : AA Ω Y F k n pc lv (.int x :: st) I S := by
  subst hp
  exact fun p e s m args below meth c H locs ls C w hS hl => lv_i2f C.1 C.2.1 hd (h p e s m args below meth c H locs ls C w hS hl)
theorem r_i2d {x : Int32} (hd : decode Y.2.1 pc = .ok (.i2d, 1)) (hp : pc + 1 = pc') (h : AA Ω Y F k n pc' lv (.double (FP.i2d x) :: st) I S) : AA Ω Y F k n pc lv (.int x :: st) I S := by
  subst hp
  exact fun p e s m args below meth c H locs ls C w hS hl => lv_i2d C.1 C.2.1 hd (h p e s m args below meth c H locs ls C w hS hl)
theorem r_fdiv {x y : UInt32} (hd : decode Y.2.1 pc = .ok (.fdiv, 1)) (hne : vf_n32 (FP.fdiv x y)) (hp : pc + 1 = pc') (h : AA Ω Y F k n pc' lv (.float (FP.fdiv x y) :: st) I S) : AA Ω Y F k n pc lv (.float y :: .float x :: st) I S := by
  subst hp
  exact fun p e s m args below meth c H locs ls C w hS hl => lv_fdiv C.1 C.2.1 hd hne (h p e s m args below meth c H locs ls C w hS hl)
theorem r_ddiv {x y : UInt64} (hd : decode Y.2.1 pc = .ok (.ddiv, 1)) (hne : vf_n64 (FP.ddiv x y)) (hp : pc + 1 = pc') (h : AA Ω Y F k n pc' lv (.double (FP.ddiv x y) :: st) I S) : AA Ω Y F k n pc lv (.double y :: .double x :: st) I S := by
  subst hp
  exact fun p e s m args below meth c H locs ls C w hS hl => lv_ddiv C.1 C.2.1 hd hne (h p e s m args below meth c H locs ls C w hS hl)
end FPS
set_option maxHeartbeats 2000000 in
theorem c_X1_stateAt {Ω : JO} {I : JI} {S : JS} {Q : JQ} {h : Nat} {i : Int32} (hh : Is1 S h) (hi : vp_in i 8) (hQ : Q (.inl (some (.ref (h + 2 + 7 * i.toNatClampNeg)))) I S) : Call Ω m_X1_stateAt [.ref h, .int i] I S Q := by
  refine call_of (by decide +kernel) rfl (Nat.le_of_ble_eq_true rfl) ?_
  change AA Ω m_X1_stateAt (FQ Ω m_X1_stateAt Q) 0 0 0 [(0, .ref h), (1, .int i)] [] I S
  refine r_iload_n (pc' := 1) dX1_stateAt_0 rfl 1 rfl rfl ?_
  refine r_if_lt (tgt := 22) (pc' := 4) dX1_stateAt_1 rfl rfl (fun h1 => absurd (Or.inl h1) hi) (fun h1 => ?_)
  refine r_iload_n (pc' := 5) dX1_stateAt_4 rfl 1 rfl rfl ?_
  refine r_aload_n (pc' := 6) dX1_stateAt_5 rfl 0 rfl rfl ?_
  refine r_getO (pc' := 9) dX1_stateAt_6 fa_X1_11 hh.o rfl hh.r0 rfl ?_
  refine r_alen (pc' := 10) dX1_stateAt_9 hh.c0 (by decide) rfl rfl ?_
  refine r_icmp_ge (tgt := 22) (pc' := 13) dX1_stateAt_10 rfl rfl (fun h2 => absurd (in_lti hi (by decide)) (Int32.not_lt.mpr h2)) (fun h2 => ?_)
  refine r_aload_n (pc' := 14) dX1_stateAt_13 rfl 0 rfl rfl ?_
  refine r_getO (pc' := 17) dX1_stateAt_14 fa_X1_11 hh.o rfl hh.r0 rfl ?_
  refine r_iload_n (pc' := 18) dX1_stateAt_17 rfl 1 rfl rfl ?_
  refine r_aaloadO (pc' := 19) dX1_stateAt_18 hh.c0 hi (hh.at (in_lt hi)).1 rfl ?_
  refine r_goto (tgt := 23) dX1_stateAt_19 rfl ?_
  exact r_aret dX1_stateAt_23 rfl (Or.inl ⟨_, rfl⟩) (Or.inr ⟨_, rfl⟩) (by decide) (by decide) hQ
/-! what the hand-written functions leave alone -/
theorem if_e {α : Type} {c : Prop} [Decidable c] {a b y : α} (h : ite c a b = y) : a = y ∨ b = y := by
  by_cases hc : c
  · rw [if_pos hc] at h; exact Or.inl h
  · rw [if_neg hc] at h; exact Or.inr h
theorem fr_stI {I : JI} {a k : Nat} {v : Int32} {z : Nat} (h : z ≠ a) : stI I a k v z = I z := stI_ne h
theorem ff_stI {I : JI} {a k j : Nat} {v : Int32} (h : k ≠ j) : stI I a j v a k = I a k := by
  simp [stI, h]
theorem fr_ptI {I : JI} {a N : Nat} {i v : Int32} {z : Nat} (h : z ≠ a) : ptI I a N i v z = I z := by
  unfold ptI
  split
  · rfl
  · exact stI_ne h
theorem fr_cpA {I : JI} {a b n z : Nat} (h : z ≠ b) : cpA I a b n z = I z := by
  funext j; unfold cpA; rw [if_neg h]
theorem fr_flI {I : JI} {a n z : Nat} {v : Int32} (h : z ≠ a) : flI I a n v z = I z := by
  funext j; unfold flI; rw [if_neg h]
theorem fr_cf1 {I : JI} {s o j z : Nat} (h : z ≠ s) : cf1 I s o j z = I z := stI_ne h
theorem fr_x7_clear {I : JI} {s : Nat} {z : Nat} (h : z < s ∨ s + 7 ≤ z) : x7_clear I s z = I z := by
  unfold x7_clear
  try dsimp only
  simp (disch := omega) only [fr_stI, fr_ptI, fr_cpA, fr_flI, fr_cf1]
theorem fr_x7_copyFrom {I : JI} {s o : Nat} {z : Nat} (h : z < s ∨ s + 7 ≤ z) : x7_copyFrom I s o z = I z := by
  unfold x7_copyFrom
  try dsimp only
  simp (disch := omega) only [fr_stI, fr_ptI, fr_cpA, fr_flI, fr_cf1]
theorem fr_x7_changeLifts {I : JI} {s : Nat} {c v : Int32} {z : Nat} (h : z < s ∨ s + 7 ≤ z) : x7_changeLifts I s c v z = I z := by
  unfold x7_changeLifts
  try dsimp only
  simp (disch := omega) only [fr_stI, fr_ptI, fr_cpA, fr_flI, fr_cf1]
theorem fr_x7_punchCard {I : JI} {s : Nat} {c v : Int32} {z : Nat} (h : z < s ∨ s + 7 ≤ z) : x7_punchCard I s c v z = I z := by
  unfold x7_punchCard
  exact fr_x7_changeLifts h
theorem fr_x7_changeColour {I : JI} {s : Nat} {c v : Int32} {z : Nat} (h : z < s ∨ s + 7 ≤ z) : x7_changeColour I s c v z = I z := by
  unfold x7_changeColour
  try dsimp only
  simp (disch := omega) only [fr_stI, fr_ptI, fr_cpA, fr_flI, fr_cf1]
theorem fr_x7_exchangeCards {I : JI} {s : Nat} {c v : Int32} {z : Nat} (h : z < s ∨ s + 7 ≤ z) : x7_exchangeCards I s c v z = I z := by
  unfold x7_exchangeCards
  try dsimp only
  simp (disch := omega) only [fr_stI, fr_ptI, fr_cpA, fr_flI, fr_cf1, fr_x7_changeLifts, fr_x7_changeColour]
theorem fr_x7_addYarn {I : JI} {s : Nat} {c v : Int32} {z : Nat} (h : z < s ∨ s + 7 ≤ z) : x7_addYarn I s c v z = I z := by
  unfold x7_addYarn
  try dsimp only
  simp (disch := omega) only [fr_stI, fr_ptI, fr_cpA, fr_flI, fr_cf1]
theorem fr_x7_bring {I : JI} {s : Nat} {c v : Int32} {z : Nat} (h : z < s ∨ s + 7 ≤ z) : x7_bring I s c v z = I z := by
  unfold x7_bring
  try dsimp only
  simp (disch := omega) only [fr_stI, fr_ptI, fr_cpA, fr_flI, fr_cf1, fr_x7_addYarn]
theorem fr_x7_oilHarness {I : JI} {s : Nat} {c : Int32} {z : Nat} (h : z < s ∨ s + 7 ≤ z) : x7_oilHarness I s c z = I z := by
  unfold x7_oilHarness
  try dsimp only
  simp (disch := omega) only [fr_stI, fr_ptI, fr_cpA, fr_flI, fr_cf1]
theorem fr_x7_mendWarp {I : JI} {s : Nat} {c : Int32} {z : Nat} (h : z < s ∨ s + 7 ≤ z) : x7_mendWarp I s c z = I z := by
  unfold x7_mendWarp
  try dsimp only
  simp (disch := omega) only [fr_stI, fr_ptI, fr_cpA, fr_flI, fr_cf1]
theorem fr_x7_addRow {I : JI} {s : Nat} {c v : Int32} {z : Nat} (h : z < s ∨ s + 7 ≤ z) : x7_addRow I s c v z = I z := by
  unfold x7_addRow
  try dsimp only
  simp (disch := omega) only [fr_stI, fr_ptI, fr_cpA, fr_flI, fr_cf1]
theorem fr_x0_clear {I : JI} {d : Nat} {z : Nat} (h : z < d ∨ d + 5 ≤ z) : x0_clear I d z = I z := by
  unfold x0_clear
  try dsimp only
  simp (disch := omega) only [fr_stI, fr_ptI, fr_cpA, fr_flI, fr_cf1]
theorem fr_x0_addPart {I : JI} {d : Nat} {c : Int32} {z : Nat} (h : z < d ∨ d + 5 ≤ z) : x0_addPart I d c z = I z := by
  unfold x0_addPart
  try dsimp only
  simp (disch := omega) only [fr_stI, fr_ptI, fr_cpA, fr_flI, fr_cf1]
theorem fr_x0_addPick {I : JI} {d : Nat} {c : Int32} {z : Nat} (h : z < d ∨ d + 5 ≤ z) : x0_addPick I d c z = I z := by
  unfold x0_addPick
  try dsimp only
  simp (disch := omega) only [fr_stI, fr_ptI, fr_cpA, fr_flI, fr_cf1]
theorem fr_x0_addCard {I : JI} {d : Nat} {c : Int32} {z : Nat} (h : z < d ∨ d + 5 ≤ z) : x0_addCard I d c z = I z := by
  unfold x0_addCard
  split
  · simp (disch := omega) only [fr_stI, fr_x0_addPart, fr_x0_addPick]
  · rfl
theorem fr_x0_openPart {I : JI} {d : Nat} {c : Int32} {z : Nat} (h : z < d ∨ d + 5 ≤ z) : x0_openPart I d c z = I z := by
  unfold x0_openPart
  try dsimp only
  simp (disch := omega) only [fr_stI, fr_ptI, fr_cpA, fr_flI, fr_cf1, fr_x0_addPart]
theorem fr_mirI {d a : Nat} {z : Nat} (h : z < d ∨ d + 5 ≤ z) : ∀ (t : Nat) (I : JI), mirI d a t I z = I z
  | 0, I => rfl
  | t + 1, I => (fr_mirI h t _).trans (fr_x0_addPick h)
theorem fr_repI {d a : Nat} {z : Nat} (h : z < d ∨ d + 5 ≤ z) : ∀ (t j : Nat) (I : JI), repI d a t j I z = I z
  | 0, j, I => rfl
  | t + 1, j, I => (fr_repI h t _ _).trans (fr_x0_addPick h)
theorem fr_revI {d : Nat} {z : Nat} (h : z < d ∨ d + 5 ≤ z) : ∀ (t : Nat) (i b : Int32) (I : JI), revI d t i b I z = I z
  | 0, i, b, I => rfl
  | t + 1, i, b, I => by
    unfold revI
    split
    · exact (fr_revI h t _ _ _).trans ((fr_ptI (by omega)).trans (fr_ptI (by omega)))
    · rfl
theorem fr_x0_closeI {I : JI} {d a t : Nat} {c : Int32} {z : Nat} (h : z < d ∨ d + 5 ≤ z) : x0_closeI I d a t c z = I z := by
  unfold x0_closeI
  split
  · exact fr_mirI h _ _
  · split
    · exact fr_revI h _ _ _ _
    · exact fr_repI h _ _ _
theorem fr_x0_close {I : JI} {d a t : Nat} {z : Nat} (h : z < d ∨ d + 5 ≤ z) : x0_close I d a t z = I z := by
  unfold x0_close
  split
  · simp (disch := omega) only [fr_stI, fr_x0_addPart, fr_x0_closeI]
  · rfl
theorem fr_x3_clear {I : JI} {L : Nat} {z : Nat} (h : z < L ∨ L + 24 ≤ z) : x3_clear I L z = I z := by
  unfold x3_clear
  try dsimp only
  simp (disch := omega) only [fr_stI, fr_ptI, fr_cpA, fr_flI, fr_cf1, fr_x7_clear, fr_x0_clear]
theorem fr_x3_addWarp {I : JI} {L : Nat} {c v : Int32} {z : Nat} (h : z < L ∨ L + 24 ≤ z) : x3_addWarp I L c v z = I z := by
  unfold x3_addWarp
  split
  · simp (disch := omega) only [fr_stI, fr_ptI]
  · rfl
theorem fr_x3_addCard {I : JI} {L : Nat} {c v : Int32} {z : Nat} (h : z < L ∨ L + 24 ≤ z) : x3_addCard I L c v z = I z := by
  unfold x3_addCard
  try dsimp only
  simp (disch := omega) only [fr_stI, fr_ptI, fr_cpA, fr_flI, fr_cf1]
theorem fr_mvB {I : JI} {L s : Nat} {mv : Int32} {j z : Nat} (h : z < s ∨ s + 7 ≤ z) : mvB I L s mv j z = I z := by
  unfold mvB
  split
  · try dsimp only
    split
    · simp (disch := omega) only [fr_stI, fr_ptI]
    · simp (disch := omega) only [fr_ptI]
  · rfl
theorem fr_mvI {L s : Nat} {mv : Int32} {z : Nat} (h : z < s ∨ s + 7 ≤ z) : ∀ (t j : Nat) (I : JI), mvI L s mv t j I z = I z
  | 0, j, I => rfl
  | t + 1, j, I => (fr_mvI h t _ _).trans (fr_mvB h)
theorem fr_x3_move {I : JI} {L s : Nat} {l : Int32} {z : Nat} (h : z < s ∨ s + 7 ≤ z) : x3_move I L s l z = I z :=
  (fr_mvI h _ _ _).trans (fr_stI (by omega))
theorem fr_x3_break {I : JI} {L s : Nat} {z : Nat} (h : z < s ∨ s + 7 ≤ z) : x3_break I L s z = I z := by
  unfold x3_break
  split
  · rfl
  · split
    · rfl
    · simp (disch := omega) only [fr_stI]
theorem fr_x3_weaveNext {I : JI} {L s : Nat} {z : Nat} (h : z < s ∨ s + 7 ≤ z) : x3_weaveNext I L s z = I z := by
  unfold x3_weaveNext
  try dsimp only
  simp (disch := omega) only [fr_x3_break, fr_x7_addRow, fr_x3_move, fr_x7_addYarn]
theorem fr_wuI {L s : Nat} {z : Nat} (h : z < s ∨ s + 7 ≤ z) : ∀ {t : Nat} {I : JI}, wuI L s t I z = I z := by
  intro t
  induction t with
  | zero => intro I; rfl
  | succ t ih =>
    intro I
    unfold wuI
    split
    · exact ih.trans (fr_x3_weaveNext h)
    · rfl
theorem fr_rmB {I : JI} {L : Nat} {z : Nat} (h : z < L ∨ L + 24 ≤ z) : rmB I L z = I z := by
  unfold rmB
  try dsimp only
  simp (disch := omega) only [fr_x7_addYarn, fr_stI]
theorem fr_rmI {L : Nat} {z : Nat} (h : z < L ∨ L + 24 ≤ z) : ∀ {t : Nat} {I : JI}, rmI L t I z = I z := by
  intro t
  induction t with
  | zero => intro I; rfl
  | succ t ih =>
    intro I
    unfold rmI
    split
    · exact ih.trans (fr_rmB h)
    · rfl
