/-! weaving, both ways -/
theorem loopM {B : Type} (F : Nat → JI → Int32 → Option B) (Inv : Nat → JI → Prop) (out : JI → B) (a N : Nat)
    (hend : ∀ f J, Inv N J → F (f + 1) J (nI N) = some (out J)) (hstep : ∀ f j J, a ≤ j → j < N → Inv j J → ∃ J', Inv (j + 1) J' ∧ F (f + 1) J (nI j) = F f J' (nI (j + 1))) :
    ∀ f j J, a ≤ j → j ≤ N → N - j < f → Inv j J → ∃ J', Inv N J' ∧ F f J (nI j) = some (out J') := by
  intro f
  induction f with
  | zero => intro j J _ _ h; omega
  | succ f ih =>
    intro j J ha hj hf hi
    by_cases q : j = N
    · subst q; exact ⟨J, hi, hend f J hi⟩
    · obtain ⟨J', h1, h2⟩ := hstep f j J ha (by omega) hi
      rw [h2]
      exact ih (j + 1) J' (by omega) (by omega) (by omega) h1
theorem stI_comm {I : JI} {a k b j : Nat} {v w : Int32} (h : a ≠ b ∨ k ≠ j) : stI (stI I a k v) b j w = stI (stI I b j w) a k v := by
  funext x y
  unfold stI
  by_cases h1 : x = b
  · subst h1
    by_cases h2 : x = a
    · subst h2
      by_cases h3 : y = j
      · subst h3
        have : ¬ y = k := fun e => by rcases h with h | h <;> simp_all
        simp [this]
      · simp [h3]
    · simp [h2]
  · simp [h1]
theorem stI_same {I : JI} {a k : Nat} {v w : Int32} : stI (stI I a k v) a k w = stI I a k w := by
  funext x y
  unfold stI
  by_cases h1 : x = a
  · by_cases h2 : y = k
    · simp [h1, h2]
    · simp [h1, h2]
  · simp [h1]
theorem stI_id {I : JI} {a k : Nat} : stI I a k (I a k) = I := by
  funext x y
  unfold stI
  by_cases h1 : x = a
  · by_cases h2 : y = k
    · simp [h1, h2]
    · simp [h1, h2]
  · simp [h1]
/-- one harness moved -/
def mv1 (K : JI) (L s k : Nat) (b : Bool) : JI :=
  if bt (K s 1) k = true ∨ bt (K s 0) k = b then K
  else if K (s + 1) k + 1 = K L 1 then stI (stI (stI (stI K s 0 (K s 0 ^^^ ((1 : Int32) <<< (nI k &&& 31)))) (s + 1) k (K (s + 1) k + 1)) s 1 (K s 1 ||| ((1 : Int32) <<< (nI k &&& 31)))) s 5 1
  else stI (stI K s 0 (K s 0 ^^^ ((1 : Int32) <<< (nI k &&& 31)))) (s + 1) k (K (s + 1) k + 1)
def mvs (I : JI) (L s : Nat) (l : Int32) : Nat → JI
  | 0 => I
  | k + 1 => mv1 (mvs I L s l k) L s k (bt l k)
def mvA (I : JI) (L s : Nat) (mv : Int32) : Nat → JI
  | 0 => I
  | k + 1 => mvB (mvA I L s mv k) L s mv k
theorem mvI_A {I : JI} {L s : Nat} {mv : Int32} : ∀ n j, mvI L s mv n j (mvA I L s mv j) = mvA I L s mv (j + n) := by
  intro n
  induction n with
  | zero => intro j; rfl
  | succ n ih =>
    intro j
    show mvI L s mv n (j + 1) (mvB (mvA I L s mv j) L s mv j) = _
    rw [show mvB (mvA I L s mv j) L s mv j = mvA I L s mv (j + 1) from rfl, ih, show j + 1 + n = j + (n + 1) by omega]
theorem mvB_st0 {I : JI} {L s j : Nat} {mv x : Int32} (hs : L + 10 ≤ s) (hj : j < 8) : mvB (stI I s 0 x) L s mv j = stI (mvB I L s mv j) s 0 x := by
  unfold mvB
  by_cases q : hasB mv (nI j) = true
  · rw [if_pos q, if_pos q, atF_nI (by omega) (by omega), atF_nI (by omega) (by omega)]
    dsimp only
    rw [ptI_nI (by omega) (by omega), ptI_nI (by omega) (by omega), stI_o (show s + 1 ≠ s by omega), stI_o (show L ≠ s + 1 by omega), stI_o (show L ≠ s by omega), stI_o (show L ≠ s + 1 by omega), stI_o (show s ≠ s + 1 by omega), stI_o (show s ≠ s + 1 by omega), stI_aj (show 1 ≠ 0 by decide)]
    by_cases q2 : I (s + 1) j + 1 = I L 1
    · rw [if_pos q2, if_pos q2, stI_comm (show s ≠ s + 1 ∨ 0 ≠ j by omega), stI_comm (show s ≠ s ∨ 0 ≠ 1 by omega), stI_comm (show s ≠ s ∨ 0 ≠ 5 by omega)]
    · rw [if_neg q2, if_neg q2, stI_comm (show s ≠ s + 1 ∨ 0 ≠ j by omega)]
  · rw [if_neg q, if_neg q]
theorem mvA_st0 {I : JI} {L s : Nat} {mv x : Int32} (hs : L + 10 ≤ s) : ∀ n, n ≤ 8 → mvA (stI I s 0 x) L s mv n = stI (mvA I L s mv n) s 0 x := by
  intro n
  induction n with
  | zero => intro _; rfl
  | succ n ih =>
    intro hn
    show mvB (mvA (stI I s 0 x) L s mv n) L s mv n = stI (mvB (mvA I L s mv n) L s mv n) s 0 x
    rw [ih (by omega), mvB_st0 hs (by omega)]
def mvX (x mv : Int32) : Nat → Int32
  | 0 => x
  | k + 1 => if bt mv k = true then mvX x mv k ^^^ ((1 : Int32) <<< (nI k &&& 31)) else mvX x mv k
theorem mvX_bt {x mv : Int32} : ∀ n, n ≤ 32 → ∀ k, k < 32 → bt (mvX x mv n) k = (bt x k ^^ (decide (k < n) && bt mv k)) := by
  intro n
  induction n with
  | zero => intro _ k hk; show bt x k = _; simp
  | succ n ih =>
    intro hn k hk
    unfold mvX
    have e : decide (k < n + 1) = (decide (k < n) || decide (k = n)) := by
      by_cases h1 : k < n
      · simp [h1]; omega
      · by_cases h2 : k = n
        · simp [h2]
        · simp [h1, h2]; omega
    by_cases q : bt mv n = true
    · rw [if_pos q, bt_xor, ih (by omega) k hk, bt_shl (by omega) hk, e]
      by_cases h2 : k = n
      · subst h2; simp [q]
      · simp [h2]
    · rw [if_neg q, ih (by omega) k hk, e]
      by_cases h2 : k = n
      · subst h2; simp at q; simp [q]
      · simp [h2]
theorem mvA_facts {I : JI} {L s : Nat} {mv : Int32} (hs : L + 10 ≤ s) : ∀ n, n ≤ 8 → (∀ k, n ≤ k → k < 32 → bt (mvA I L s mv n s 1) k = bt (I s 1) k) ∧ mvA I L s mv n L 1 = I L 1 := by
  intro n
  induction n with
  | zero => intro _; exact ⟨fun k _ _ => rfl, rfl⟩
  | succ n ih =>
    intro hn
    obtain ⟨h1, h2⟩ := ih (by omega)
    show (∀ k, n + 1 ≤ k → k < 32 → bt (mvB (mvA I L s mv n) L s mv n s 1) k = bt (I s 1) k) ∧ mvB (mvA I L s mv n) L s mv n L 1 = I L 1
    unfold mvB
    by_cases q : hasB mv (nI n) = true
    · rw [if_pos q]
      rw [ptI_nI (by omega) (by omega)]
      split
      · refine ⟨fun k h3 h4 => ?_, by rw [stI_o (by omega), stI_o (by omega), stI_o (by omega)]; exact h2⟩
        rw [stI_aj (by decide), stI_at, stI_o (by omega), bt_or, bt_shl (by omega) h4, decide_eq_false (by omega), Bool.or_false]
        exact h1 k (by omega) h4
      · refine ⟨fun k h3 h4 => ?_, by rw [stI_o (by omega)]; exact h2⟩
        rw [stI_o (by omega)]
        exact h1 k (by omega) h4
    · rw [if_neg q]
      exact ⟨fun k h3 h4 => h1 k (by omega) h4, h2⟩
/-- the class moves its harnesses one after the other -/
theorem mvs_eq {I : JI} {L s : Nat} {l : Int32} (hs : L + 10 ≤ s) : ∀ n, n ≤ 8 → mvs I L s l n = stI (mvA I L s (x3_moving I s l) n) s 0 (mvX (I s 0) (x3_moving I s l) n) := by
  intro n
  induction n with
  | zero => intro _; exact stI_id.symm
  | succ n ih =>
    intro hn
    have hmv : bt (x3_moving I s l) n = ((bt (I s 0) n ^^ bt l n) && !bt (I s 1) n) := by
      unfold x3_moving
      rw [bt_and, bt_xor, bt_not (by omega)]
    obtain ⟨f1, f2⟩ := mvA_facts (I := I) (mv := x3_moving I s l) hs n (by omega)
    have f3 := mvX_bt (x := I s 0) (mv := x3_moving I s l) n (by omega) n (by omega)
    rw [decide_eq_false (Nat.lt_irrefl n), Bool.false_and, Bool.xor_false] at f3
    show mv1 (mvs I L s l n) L s n (bt l n) = stI (mvB (mvA I L s (x3_moving I s l) n) L s (x3_moving I s l) n) s 0 (if bt (x3_moving I s l) n = true then mvX (I s 0) (x3_moving I s l) n ^^^ ((1 : Int32) <<< (nI n &&& 31)) else mvX (I s 0) (x3_moving I s l) n)
    rw [ih (by omega)]
    generalize mvA I L s (x3_moving I s l) n = A at f1 f2
    generalize mvX (I s 0) (x3_moving I s l) n = X at f3
    unfold mv1 mvB
    rw [stI_aj (show 1 ≠ 0 by decide), stI_at, f3, f1 n (Nat.le_refl n) (by omega), stI_o (show s + 1 ≠ s by omega), stI_o (show L ≠ s by omega), hasB_bt (by omega), hmv]
    by_cases q1 : bt (I s 1) n = true
    · rw [if_pos (Or.inl q1), q1, if_neg (by simp), if_neg (by simp)]
    · by_cases q2 : bt (I s 0) n = bt l n
      · rw [if_pos (Or.inr q2), q2, if_neg (by simp), if_neg (by simp)]
      · have e1 : ((bt (I s 0) n ^^ bt l n) && !bt (I s 1) n) = true := by
          simp at q1
          rw [q1]
          cases h1 : bt (I s 0) n <;> cases h2 : bt l n <;> simp_all
        rw [if_neg (by rintro (h | h); exact q1 h; exact q2 h), if_pos e1, if_pos e1, atF_nI (by omega) (by omega)]
        dsimp only
        rw [ptI_nI (by omega) (by omega), stI_o (show L ≠ s + 1 by omega), stI_o (show s ≠ s + 1 by omega), stI_same]
        by_cases q3 : A (s + 1) n + 1 = A L 1
        · rw [if_pos q3, if_pos q3, stI_comm (show s ≠ s + 1 ∨ 0 ≠ n by omega), stI_comm (show s ≠ s ∨ 0 ≠ 1 by omega), stI_comm (show s ≠ s ∨ 0 ≠ 5 by omega)]
        · rw [if_neg q3, if_neg q3, stI_comm (show s ≠ s + 1 ∨ 0 ≠ n by omega)]
theorem move_mvs {I : JI} {L s H : Nat} {l : Int32} (hs : L + 10 ≤ s) (hH : H ≤ 8) (h0 : I L 0 = nI H) (h1 : LB H (I s 0)) (h2 : LB H l) : x3_move I L s l = mvs I L s l H := by
  rw [mvs_eq hs H hH]
  unfold x3_move
  rw [h0, cl_nI (by omega)]
  have e : mvX (I s 0) (x3_moving I s l) H = I s 0 ^^^ x3_moving I s l := by
    apply bt_ext
    intro k hk
    rw [mvX_bt H (by omega) k hk, bt_xor]
    by_cases q : k < H
    · simp [q]
    · have : bt (x3_moving I s l) k = false := by
        unfold x3_moving
        rw [bt_and, bt_xor, h1 k (by omega), h2 k (by omega)]; rfl
      simp [q, this]
  rw [← e]
  have := mvI_A (I := stI I s 0 (mvX (I s 0) (x3_moving I s l) H)) (L := L) (s := s) (mv := x3_moving I s l) H 0
  rw [show mvA (stI I s 0 (mvX (I s 0) (x3_moving I s l) H)) L s (x3_moving I s l) 0 = stI I s 0 (mvX (I s 0) (x3_moving I s l) H) from rfl, Nat.zero_add, mvA_st0 hs H hH] at this
  exact this
section WV
variable {I J : JI} {L s m H W C P R : Nat}
theorem one_bt {x : Int32} {j k : Nat} (hj : j < 32) (hk : k < 32) : bt (x ^^^ ((1 : Int32) <<< (nI k &&& 31))) j = (bt x j ^^ decide (j = k)) := by rw [bt_xor, bt_shl hk hj]
theorem or_bt {x : Int32} {j k : Nat} (hj : j < 32) (hk : k < 32) : bt (x ||| ((1 : Int32) <<< (nI k &&& 31))) j = (bt x j || decide (j = k)) := by rw [bt_or, bt_shl hk hj]
theorem e_moves (h : KR I L s (J (m + 1)) H W C P R) (hs : L + 10 ≤ s) {k : Nat} (hk : k < H) (b : Bool) : ∃ J', s_X9_moves J m (nI k) b = some J' ∧ KR (mv1 I L s k b) L s (J' (m + 1)) H W C P R := by
  obtain ⟨⟨g0, g2, g3, g4, g5⟩, b1, b2, b3, b4, b5, b6⟩ := h.g
  obtain ⟨k1, k2, k3⟩ := h.har hk
  obtain ⟨s1, s2, s3, s4, s5, s6⟩ := h.sets
  obtain ⟨-, -, hlim, -⟩ := h.set
  unfold s_X9_moves mv1
  rw [a_ofH2 (by omega), bd_some, k3]
  by_cases q1 : bt (I s 1) k = true
  · rw [q1, if_pos zbt, if_pos (Or.inl rfl)]
    exact ⟨J, rfl, h⟩
  · simp only [Bool.not_eq_true] at q1
    rw [q1, if_neg (by decide), a_ofH0 (by omega), bd_some, k1]
    have tail : ∀ (hb : ¬ bt (I s 0) k = b), ∃ J', (bd (s_X9_putsHarness J m (nI k) 0 (s_X9_one b)) fun I6 => bd (s_X9_ofHarness I6 m (nI k) 1) fun v7 => bd (s_X9_putsHarness I6 m (nI k) 1 (v7 + 1)) fun I8 => bd (s_X9_ofHarness I8 m (nI k) 1) fun v9 => gd (vp_in 1 2030) <| if v9 = (I8 (m + 1) (Int32.toNatClampNeg 1)) then (bd (s_X9_putsHarness I8 m (nI k) 2 1) fun I12 => gd (vp_in 9 2030) <| lx (stI I12 (m + 1) (Int32.toNatClampNeg 9) 1) fun I14 => some I14) else (some I8)) = some J' ∧ KR (if I (s + 1) k + 1 = I L 1 then stI (stI (stI (stI I s 0 (I s 0 ^^^ ((1 : Int32) <<< (nI k &&& 31)))) (s + 1) k (I (s + 1) k + 1)) s 1 (I s 1 ||| ((1 : Int32) <<< (nI k &&& 31)))) s 5 1 else stI (stI I s 0 (I s 0 ^^^ ((1 : Int32) <<< (nI k &&& 31)))) (s + 1) k (I (s + 1) k + 1)) L s (J' (m + 1)) H W C P R := by
      intro hb
      have eb : bt (I s 0 ^^^ ((1 : Int32) <<< (nI k &&& 31))) k = b := by
        rw [one_bt (by omega) (by omega)]
        cases h1 : bt (I s 0) k <;> cases b <;> simp_all
      rw [show (s_X9_putsHarness J m (nI k) 0 (s_X9_one b)) = some (stI J (m + 1) (14 + 3 * k) (zb b)) from a_putsHarness (k := 0) (by omega) (by omega), bd_some, a_ofH1 (by omega), bd_some, stI_aj (show 15 + 3 * k ≠ 14 + 3 * k by omega), k2]
      rw [show (s_X9_putsHarness (stI J (m + 1) (14 + 3 * k) (zb b)) m (nI k) 1 (I (s + 1) k + 1)) = some (stI (stI J (m + 1) (14 + 3 * k) (zb b)) (m + 1) (14 + 3 * k + 1) (I (s + 1) k + 1)) from a_putsHarness (k := 1) (by omega) (by omega), bd_some, show 14 + 3 * k + 1 = 15 + 3 * k by omega, a_ofH1 (by omega), bd_some, stI_at, gl1, cl1, stI_aj (show 1 ≠ 15 + 3 * k by omega), stI_aj (show 1 ≠ 14 + 3 * k by omega), hlim]
      by_cases q3 : I (s + 1) k + 1 = I L 1
      · rw [if_pos q3, if_pos q3]
        rw [show (s_X9_putsHarness (stI (stI J (m + 1) (14 + 3 * k) (zb b)) (m + 1) (15 + 3 * k) (I (s + 1) k + 1)) m (nI k) 2 1) = some (stI (stI (stI J (m + 1) (14 + 3 * k) (zb b)) (m + 1) (15 + 3 * k) (I (s + 1) k + 1)) (m + 1) (14 + 3 * k + 2) 1) from a_putsHarness (k := 2) (by omega) (by omega), bd_some, gl9, cl9, lx_s]
        refine ⟨_, rfl, ?_⟩
        rw [stI_up, stI_up, stI_up, stI_up, show 14 + 3 * k + 2 = 16 + 3 * k by omega]
        refine KR_har h hs hk (x := I s 0 ^^^ ((1 : Int32) <<< (nI k &&& 31))) (y := I s 1 ||| ((1 : Int32) <<< (nI k &&& 31))) (v := I (s + 1) k + 1) (s1.xor (LB.shl hk (by omega))) (s2.or (LB.shl hk (by omega))) (fun j hj hjk => ?_) (fun j hj hjk => ?_) ?_ ?_ (fun j hj hj5 => ?_) (Or.inr stI_at) (fun j => ?_) (fun z h1 h2 => ?_) ?_ ?_ ?_ ?_ (fun j j1 j2 j3 j4 => ?_)
        · rw [one_bt (by omega) (by omega), decide_eq_false hjk, Bool.xor_false]
        · rw [or_bt (by omega) (by omega), decide_eq_false hjk, Bool.or_false]
        · rw [stI_aj (by decide), stI_aj (by decide), stI_o (by omega), stI_at]
        · rw [stI_aj (by decide), stI_at]
        · rw [stI_aj hj5, stI_aj (by omega), stI_o (by omega), stI_aj (by omega)]
        · rw [stI_o (by omega), stI_o (by omega)]
          by_cases e : j = k
          · subst e; rw [if_pos rfl, stI_at]
          · rw [if_neg e, stI_aj e, stI_o (by omega)]
        · rw [stI_ne h1, stI_ne h1, stI_ne h2, stI_ne h1]
        · rw [up_ne (by omega), up_ne (by omega), up_ne (by omega), up_eq, eb]
        · rw [up_ne (by omega), up_ne (by omega), up_eq]
        · rw [up_ne (by omega), up_eq, or_bt (by omega) (by omega), decide_eq_true rfl, Bool.or_true]; rfl
        · rw [stI_at]
          refine ⟨fun e => absurd e (by decide), fun e => ?_⟩
          have := e.2.1
          rw [up_eq] at this
          exact absurd this (by decide)
        · rw [up_ne j4, up_ne j3, up_ne j2, up_ne j1]
      · rw [if_neg q3, if_neg q3]
        refine ⟨_, rfl, ?_⟩
        rw [stI_up, stI_up]
        refine KR_har h hs hk (x := I s 0 ^^^ ((1 : Int32) <<< (nI k &&& 31))) (y := I s 1) (v := I (s + 1) k + 1) (s1.xor (LB.shl hk (by omega))) s2 (fun j hj hjk => ?_) (fun j hj hjk => rfl) ?_ ?_ (fun j hj hj5 => ?_) ?_ (fun j => ?_) (fun z h1 h2 => ?_) ?_ ?_ ?_ ?_ (fun j j1 j2 j3 j4 => ?_)
        · rw [one_bt (by omega) (by omega), decide_eq_false hjk, Bool.xor_false]
        · rw [stI_o (by omega), stI_at]
        · rw [stI_o (by omega), stI_aj (by decide)]
        · rw [stI_o (by omega), stI_aj (by omega)]
        · rw [stI_o (by omega), stI_aj (by decide)]; exact s4
        · by_cases e : j = k
          · subst e; rw [if_pos rfl, stI_at]
          · rw [if_neg e, stI_aj e, stI_o (by omega)]
        · rw [stI_ne h2, stI_ne h1]
        · rw [up_ne (by omega), up_eq, eb]
        · rw [up_eq]
        · rw [up_ne (by omega), up_ne (by omega), k3, q1]
        · rw [stI_o (by omega), stI_aj (by decide), up_ne (by omega), up_ne (by omega), up_ne (by omega), up_ne (by omega), up_ne (by omega), up_ne (by omega)]; exact s6
        · rw [up_ne j2, up_ne j1]
    by_cases q2 : bt (I s 0) k = true
    · rw [q2, if_pos zbt]
      cases b
      · rw [if_neg (by decide), if_neg (by simp)]
        exact tail (by rw [q2]; decide)
      · rw [if_pos zbt.symm, if_pos (Or.inr rfl)]
        exact ⟨J, rfl, h⟩
    · simp only [Bool.not_eq_true] at q2
      rw [q2, if_neg (by decide)]
      cases b
      · rw [if_pos zbf.symm, if_pos (Or.inr rfl)]
        exact ⟨J, rfl, h⟩
      · rw [if_neg (by decide), if_neg (by simp)]
        exact tail (by rw [q2]; decide)
end WV
