/-! numbers and bits -/
theorem nI_lit (n : Nat) : (OfNat.ofNat n : Int32) = nI n := rfl
theorem nI_mul (a b : Nat) : nI a * nI b = nI (a * b) := (Int32.ofNat_mul a b).symm
theorem nI_sub {a b : Nat} (h : b ≤ a) : nI a - nI b = nI (a - b) := by
  have h1 : nI (a - b) + nI b = nI a := by rw [nI_add]; congr 1; omega
  rw [← h1, Int32.add_sub_cancel]
theorem cl_nI {n : Nat} (h : n < 2 ^ 31) : Int32.toNatClampNeg (nI n) = n := nI_clamp h
theorem gd_in {α : Type} {n N : Nat} {x : Option α} (h : n < N) (hN : n < 2 ^ 31) : gd (vp_in (nI n) N) x = x := by
  apply gd_i
  rintro (q | q)
  · exact absurd q (nI_pos hN)
  · rw [nI_clamp hN] at q; omega
theorem vp_nI {n N : Nat} (h : n < N) (hN : n < 2 ^ 31) : vp_in (nI n) N := by
  rintro (q | q)
  · exact absurd q (nI_pos hN)
  · rw [nI_clamp hN] at q; omega
theorem gd_ne {α : Type} {n : Nat} {x : Option α} (h : 0 < n) (hN : n < 2 ^ 31) : gd (¬ nI n = nI 0) x = x := gd_i (nI_ne0 h hN)
theorem gd_zb {α : Type} {b : Bool} {x : Option α} : gd (zb b = nI 0 ∨ zb b = nI 1) x = x := gd_i (zb01 b)
theorem nz_zb (b : Bool) : nz (zb b) = b := by cases b <;> rfl
theorem zb_eq1 (b : Bool) : (zb b = nI 1) ↔ b = true := by cases b <;> decide
theorem zb_eq0 (b : Bool) : (zb b = nI 0) ↔ b = false := by cases b <;> decide
theorem bd_some {α β : Type} (a : α) (k : α → Option β) : bd (some a) k = k a := rfl
theorem bd2_some {α γ β : Type} (a : α) (c : γ) (k : α → γ → Option β) : bd2 (some (a, c)) k = k a c := rfl
theorem lx_s {α β : Type} (x : α) (k : α → β) : lx x k = k x := rfl
theorem bl_inl {R E : Type} (r : R) (k : E → Option R) : bl (some (.inl r)) k = some r := rfl
theorem bl_inr {R E : Type} (s : E) (k : E → Option R) : bl (some (.inr s : R ⊕ E)) k = k s := rfl
theorem bll_inl {R E E' : Type} (r : R) (k : E → Option (R ⊕ E')) : bll (some (.inl r)) k = some (.inl r) := rfl
theorem bll_inr {R E E' : Type} (s : E) (k : E → Option (R ⊕ E')) : bll (some (.inr s : R ⊕ E)) k = k s := rfl
theorem atF_nI {f : Nat → Int32} {N j : Nat} (h : j < N) (hj : j < 2 ^ 31) : atF f N (nI j) = f j := by
  unfold atF
  rw [if_neg (vp_nI h hj), nI_clamp hj]
theorem ptI_nI {I : JI} {a N j : Nat} {v : Int32} (h : j < N) (hj : j < 2 ^ 31) : ptI I a N (nI j) v = stI I a j v := by
  unfold ptI
  rw [if_neg (vp_nI h hj), nI_clamp hj]
theorem ptI_nI_ge {I : JI} {a N j : Nat} {v : Int32} (h : N ≤ j) (hj : j < 2 ^ 31) : ptI I a N (nI j) v = I := by
  unfold ptI
  rw [if_pos (Or.inr (by rw [nI_clamp hj]; exact h))]
theorem stI_at {I : JI} {a k : Nat} {v : Int32} : stI I a k v a k = v := by simp [stI]
theorem stI_aj {I : JI} {a k j : Nat} {v : Int32} (h : j ≠ k) : stI I a k v a j = I a j := by simp [stI, h]
theorem stI_o {I : JI} {a b k j : Nat} {v : Int32} (h : b ≠ a) : stI I a k v b j = I b j := by simp [stI, h]
theorem nI_divt {a b : Nat} (ha : a < 2 ^ 31) (hb0 : 0 < b) (hb : b < 2 ^ 31) : nI a / nI b = nI (a / b) := by
  apply Int32.toInt_inj.mp
  have h1 : (nI a).toInt = (a : Int) := nI_toInt ha
  have h2 : (nI b).toInt = (b : Int) := nI_toInt hb
  have h3 : (nI (a / b)).toInt = ((a / b : Nat) : Int) := nI_toInt (Nat.lt_of_le_of_lt (Nat.div_le_self a b) ha)
  rw [Int32.toInt_div_of_ne_right, h1, h2, h3]
  · rw [Int.tdiv_eq_ediv_of_nonneg (by omega)]; rfl
  · intro q
    have : (nI b).toInt = (-1 : Int32).toInt := by rw [q]
    rw [h2] at this
    have h5 : (-1 : Int32).toInt = -1 := by decide
    omega
theorem nI_modt {a b : Nat} (ha : a < 2 ^ 31) (hb0 : 0 < b) (hb : b < 2 ^ 31) : nI a - nI a / nI b * nI b = nI (a % b) := by
  rw [nI_divt ha hb0 hb, nI_mul, nI_sub (Nat.div_mul_le_self a b)]
  congr 1
  have := Nat.div_add_mod a b
  rw [Nat.mul_comm] at this
  omega
/-- the bit k of a set -/
def bt (x : Int32) (k : Nat) : Bool := x.toBitVec.getLsbD k
theorem bt_or (x y : Int32) (k : Nat) : bt (x ||| y) k = (bt x k || bt y k) := by unfold bt; rw [Int32.toBitVec_or, BitVec.getLsbD_or]
theorem bt_and (x y : Int32) (k : Nat) : bt (x &&& y) k = (bt x k && bt y k) := by unfold bt; rw [Int32.toBitVec_and, BitVec.getLsbD_and]
theorem bt_xor (x y : Int32) (k : Nat) : bt (x ^^^ y) k = (bt x k ^^ bt y k) := by unfold bt; rw [Int32.toBitVec_xor, BitVec.getLsbD_xor]
theorem bt_m1 {k : Nat} (h : k < 32) : bt (-1) k = true := by
  have : ∀ k : Fin 32, bt (-1) k = true := by decide +kernel
  exact this ⟨k, h⟩
theorem bt_ge {x : Int32} {k : Nat} (h : 32 ≤ k) : bt x k = false := BitVec.getLsbD_of_ge _ _ h
theorem bt_zero (k : Nat) : bt 0 k = false := by unfold bt; exact BitVec.getLsbD_zero
theorem bt_not {x : Int32} {k : Nat} (h : k < 32) : bt (x ^^^ (-1)) k = !bt x k := by rw [bt_xor, bt_m1 h]; simp
theorem bt_shl {j k : Nat} (hj : j < 32) (hk : k < 32) : bt ((1 : Int32) <<< (nI j &&& 31)) k = decide (k = j) := by
  have : ∀ j k : Fin 32, bt ((1 : Int32) <<< (nI j &&& 31)) k = decide (k.val = j.val) := by decide +kernel
  exact this ⟨j, hj⟩ ⟨k, hk⟩
theorem bt_nI {v k : Nat} (hk : k < 32) : bt (nI v) k = v.testBit k := by
  unfold bt nI
  rw [show (Int32.ofNat v).toBitVec = BitVec.ofNat 32 v from rfl, BitVec.getLsbD_ofNat]
  simp [hk]
theorem bt_ext {x y : Int32} (h : ∀ k, k < 32 → bt x k = bt y k) : x = y := by
  apply Int32.toBitVec_inj.mp
  apply BitVec.eq_of_getLsbD_eq
  intro i hi
  exact h i hi
theorem hasB_bt {x : Int32} {k : Nat} (hk : k < 32) : hasB x (nI k) = bt x k := by
  have h1 : ∀ k : Fin 32, (nI k &&& 31) = nI k ∧ (nI k).toBitVec.smod 32 = BitVec.ofNat 32 k.val ∧ (BitVec.ofNat 32 k.val).toNat = k.val := by decide +kernel
  have h2 := h1 ⟨k, hk⟩
  unfold hasB bt
  have e : x >>> (nI k &&& 31) &&& 1 = 0 ↔ x.toBitVec.getLsbD k = false := by
    rw [h2.1, ← Int32.toBitVec_inj, Int32.toBitVec_and, Int32.toBitVec_shiftRight]
    rw [show (nI k).toBitVec.smod 32 = BitVec.ofNat 32 k from h2.2.1]
    rw [BitVec.sshiftRight', show (BitVec.ofNat 32 k).toNat = k from h2.2.2]
    have h0 : (x.toBitVec.sshiftRight k).getLsbD 0 = x.toBitVec.getLsbD k := by
      rw [BitVec.getLsbD_sshiftRight, Nat.add_zero, if_pos hk]
      rfl
    constructor
    · intro q
      have := congrArg (fun z => BitVec.getLsbD z 0) q
      simp only [BitVec.getLsbD_and] at this
      rw [h0, show (Int32.toBitVec 1).getLsbD 0 = true from rfl, Bool.and_true] at this
      exact this
    · intro q
      apply BitVec.eq_of_getLsbD_eq
      intro i hi
      rw [BitVec.getLsbD_and]
      by_cases h0' : i = 0
      · rw [h0', h0, q]; rfl
      · rw [show (Int32.toBitVec 1).getLsbD i = false from ?_]
        · simp
        · have : ∀ i : Fin 32, i.val ≠ 0 → (Int32.toBitVec 1).getLsbD i.val = false := by decide +kernel
          exact this ⟨i, hi⟩ h0'
  by_cases hb : x.toBitVec.getLsbD k = false
  · rw [decide_eq_false (by rw [e]; simp [hb]), hb]
  · rw [decide_eq_true (by rw [e]; exact hb)]
    simp at hb; exact hb.symm
/-- no bits from n on -/
def LB (n : Nat) (x : Int32) : Prop := ∀ k, n ≤ k → bt x k = false
theorem LB.mono {n m : Nat} {x : Int32} (h : LB n x) (hm : n ≤ m) : LB m x := fun k hk => h k (Nat.le_trans hm hk)
theorem LB.eq {n : Nat} {x y : Int32} (hx : LB n x) (hy : LB n y) (h : ∀ k, k < n → bt x k = bt y k) : x = y := by
  apply bt_ext
  intro k hk
  by_cases q : k < n
  · exact h k q
  · rw [hx k (by omega), hy k (by omega)]
theorem LB.or {n : Nat} {x y : Int32} (hx : LB n x) (hy : LB n y) : LB n (x ||| y) := fun k hk => by rw [bt_or, hx k hk, hy k hk]; rfl
theorem LB.xor {n : Nat} {x y : Int32} (hx : LB n x) (hy : LB n y) : LB n (x ^^^ y) := fun k hk => by rw [bt_xor, hx k hk, hy k hk]; rfl
theorem LB.andl {n : Nat} {x y : Int32} (hx : LB n x) : LB n (x &&& y) := fun k hk => by rw [bt_and, hx k hk]; rfl
theorem LB.zero (n : Nat) : LB n 0 := fun k _ => bt_zero k
theorem LB.shl {j n : Nat} (hj : j < n) (hn : n ≤ 32) : LB n ((1 : Int32) <<< (nI j &&& 31)) := by
  intro k hk
  by_cases q : k < 32
  · rw [bt_shl (by omega) q]; exact decide_eq_false (by omega)
  · exact bt_ge (by omega)
theorem LB.nat {n : Nat} {x : Int32} (h : LB n x) (hn : n ≤ 31) : ∃ v : Nat, v < 2 ^ n ∧ x = nI v := by
  refine ⟨x.toBitVec.toNat, ?_, ?_⟩
  · apply Nat.lt_of_not_le
    intro q
    have hz : x.toBitVec.toNat < 2 ^ 32 := x.toBitVec.isLt
    have : x.toBitVec.toNat = x.toBitVec.toNat % 2 ^ n := by
      apply Nat.eq_of_testBit_eq
      intro i
      rw [Nat.testBit_mod_two_pow]
      by_cases hi : i < n
      · simp [hi]
      · have := h i (by omega)
        unfold bt at this
        rw [BitVec.getLsbD] at this
        simp [hi, this]
    have h2 := Nat.mod_lt x.toBitVec.toNat (Nat.two_pow_pos n)
    omega
  · apply Int32.toBitVec_inj.mp
    show x.toBitVec = BitVec.ofNat 32 x.toBitVec.toNat
    simp
/-- how many of the first n bits are set -/
def cntB (p : Nat → Bool) : Nat → Nat
  | 0 => 0
  | n + 1 => cntB p n + (if p n = true then 1 else 0)
theorem cntB_le (p : Nat → Bool) (n : Nat) : cntB p n ≤ n := by
  induction n with
  | zero => exact Nat.le_refl 0
  | succ n ih => unfold cntB; split <;> omega
theorem cntB_congr {p q : Nat → Bool} {n : Nat} (h : ∀ k, k < n → p k = q k) : cntB p n = cntB q n := by
  induction n with
  | zero => rfl
  | succ n ih => unfold cntB; rw [ih fun k hk => h k (by omega), h n (by omega)]
theorem cntB_false {p : Nat → Bool} {n : Nat} (h : ∀ k, k < n → p k = false) : cntB p n = 0 := by
  induction n with
  | zero => rfl
  | succ n ih => unfold cntB; rw [ih fun k hk => h k (by omega), h n (by omega)]; rfl
theorem cntB_cut {p : Nat → Bool} {n m : Nat} (h : ∀ k, n ≤ k → p k = false) (hm : n ≤ m) : cntB p m = cntB p n := by
  induction m with
  | zero => have : n = 0 := by omega
            subst this; rfl
  | succ m ih =>
    by_cases q : n = m + 1
    · subst q; rfl
    · show cntB p m + (if p m = true then 1 else 0) = cntB p n
      rw [ih (by omega), h m (by omega)]; rfl
theorem land_split {a m y M : Nat} (ha : a < 256) (hm : m < 256) : (a + 256 * y) &&& (m + 256 * M) = (a &&& m) + 256 * (y &&& M) := by
  apply Nat.eq_of_testBit_eq
  intro i
  have e1 := Nat.testBit_two_pow_mul_add y (show a < 2 ^ 8 by omega) i
  have e2 := Nat.testBit_two_pow_mul_add M (show m < 2 ^ 8 by omega) i
  have e3 := Nat.testBit_two_pow_mul_add (y &&& M) (show (a &&& m) < 2 ^ 8 from Nat.lt_of_le_of_lt Nat.and_le_left (by omega)) i
  rw [Nat.testBit_and, show a + 256 * y = 2 ^ 8 * y + a by omega, show m + 256 * M = 2 ^ 8 * M + m by omega, show (a &&& m) + 256 * (y &&& M) = 2 ^ 8 * (y &&& M) + (a &&& m) by omega, e1, e2, e3]
  split <;> simp [Nat.testBit_and]
theorem by_fin {n : Nat} {P : Nat → Prop} (h : ∀ i : Fin n, P i.val) {a : Nat} (ha : a < n) : P a := h ⟨a, ha⟩
theorem and_nI (a b : Nat) : nI a &&& nI b = nI (a &&& b) := by
  apply bt_ext
  intro k hk
  rw [bt_and, bt_nI hk, bt_nI hk, bt_nI hk, Nat.testBit_and]
theorem us_nI {v n : Nat} (hv : v < 2 ^ 32) (hn : n < 32) : ((nI v).toUInt32 >>> ((nI n).toUInt32 &&& Int32.toUInt32 31)).toInt32 = nI (v / 2 ^ n) := by
  apply bt_ext
  intro k hk
  have h1 : ∀ n : Fin 32, ((nI n).toUInt32 &&& Int32.toUInt32 31).toNat % 32 = n.val := by decide +kernel
  have h2 := h1 ⟨n, hn⟩
  rw [bt_nI hk, Nat.testBit_div_two_pow]
  unfold bt
  show ((nI v).toUInt32 >>> ((nI n).toUInt32 &&& Int32.toUInt32 31)).toBitVec.getLsbD k = _
  rw [BitVec.getLsbD, show ((nI v).toUInt32 >>> ((nI n).toUInt32 &&& Int32.toUInt32 31)).toBitVec.toNat = v >>> n from ?_]
  · rw [Nat.testBit_shiftRight, Nat.add_comm]
  · show ((nI v).toUInt32 >>> ((nI n).toUInt32 &&& Int32.toUInt32 31)).toNat = v >>> n
    rw [UInt32.toNat_shiftRight, h2]
    rw [show (nI v).toUInt32.toNat = v from ?_]
    show (BitVec.ofNat 32 v).toNat = v
    rw [BitVec.toNat_ofNat, Nat.mod_eq_of_lt hv]
def pc1 (a : Nat) : Nat := a - (a / 2 &&& 85)
def pc2 (a : Nat) : Nat := (a &&& 51) + (a / 4 &&& 51)
def pc3 (a : Nat) : Nat := (a + a / 16) &&& 15
set_option maxRecDepth 100000 in
theorem pc_b : ∀ a : Fin 256, (a.val / 2 &&& 85) ≤ a.val ∧ pc1 a.val < 256 ∧ (pc2 (pc1 a.val) ≤ 68 ∧ pc2 (pc1 a.val) % 16 ≤ 8) ∧ pc3 (pc2 (pc1 a.val)) ≤ 8 ∧ pc3 (pc2 (pc1 a.val)) = cntB (fun k => a.val.testBit k) 8 := by decide +kernel
set_option maxRecDepth 100000 in
theorem pc_s1 : ∀ (a : Fin 256) (t : Fin 2), ((a.val / 2 + 128 * t.val) &&& 85) = (a.val / 2 &&& 85) := by decide +kernel
set_option maxRecDepth 100000 in
theorem pc_s2 : ∀ (a : Fin 256) (t : Fin 4), ((a.val / 4 + 64 * t.val) &&& 51) = (a.val / 4 &&& 51) ∧ (a.val &&& 51) ≤ 51 ∧ (a.val / 4 &&& 51) ≤ 51 := by decide +kernel
set_option maxRecDepth 100000 in
theorem pc_s3 : ∀ (a : Fin 69) (t : Fin 16), t.val ≤ 8 → (a.val + (a.val / 16 + 16 * t.val) < 256) ∧ ((a.val + (a.val / 16 + 16 * t.val)) &&& 15) = pc3 a.val := by decide +kernel
theorem lv1 {a y M : Nat} (ha : a < 256) : (a + 256 * y) / 2 &&& (85 + 256 * M) = (a / 2 &&& 85) + 256 * (y / 2 &&& M) := by
  rw [show (a + 256 * y) / 2 = (a / 2 + 128 * (y % 2)) + 256 * (y / 2) by omega, land_split (by omega) (by omega)]
  rw [pc_s1 ⟨a, ha⟩ ⟨y % 2, by omega⟩]
theorem lv2 {a y M : Nat} (ha : a < 256) : (a + 256 * y) / 4 &&& (51 + 256 * M) = (a / 4 &&& 51) + 256 * (y / 4 &&& M) := by
  rw [show (a + 256 * y) / 4 = (a / 4 + 64 * (y % 4)) + 256 * (y / 4) by omega, land_split (by omega) (by omega)]
  rw [(pc_s2 ⟨a, ha⟩ ⟨y % 4, by omega⟩).1]
theorem lv3 {a y M : Nat} (ha : a ≤ 68) (hy : y % 16 ≤ 8) : ((a + 256 * y) + (a + 256 * y) / 16) &&& (15 + 256 * M) = pc3 a + 256 * ((y + y / 16) &&& M) := by
  have h := pc_s3 ⟨a, by omega⟩ ⟨y % 16, by omega⟩ hy
  rw [show (a + 256 * y) + (a + 256 * y) / 16 = (a + (a / 16 + 16 * (y % 16))) + 256 * (y + y / 16) by omega, land_split h.1 (by omega), h.2]
theorem bcF_24 {v : Nat} (hv : v < 2 ^ 24) : bcF (nI v) = nI (cntB (fun k => v.testBit k) 24) := by
  have ha : v % 256 < 256 := Nat.mod_lt _ (by omega)
  have hb : v / 256 % 256 < 256 := Nat.mod_lt _ (by omega)
  have hc : v / 65536 < 256 := by omega
  have ev : v = v % 256 + 256 * (v / 256 % 256 + 256 * (v / 65536)) := by omega
  have pa := pc_b ⟨_, ha⟩
  have pb := pc_b ⟨_, hb⟩
  have pc := pc_b ⟨_, hc⟩
  have hcnt : cntB (fun k => v.testBit k) 24 = cntB (fun k => (v % 256).testBit k) 8 + cntB (fun k => (v / 256 % 256).testBit k) 8 + cntB (fun k => (v / 65536).testBit k) 8 := by
    have t1 : ∀ k, k < 8 → (v % 256).testBit k = v.testBit k := fun k hk => by
      rw [show 256 = 2 ^ 8 from rfl, Nat.testBit_mod_two_pow]; simp [hk]
    have t2 : ∀ k, k < 8 → (v / 256 % 256).testBit k = v.testBit (k + 8) := fun k hk => by
      rw [show 256 = 2 ^ 8 from rfl, Nat.testBit_mod_two_pow, Nat.testBit_div_two_pow]; simp [hk]
    have t3 : ∀ k, (v / 65536).testBit k = v.testBit (k + 16) := fun k => by
      rw [show 65536 = 2 ^ 16 from rfl, Nat.testBit_div_two_pow]
    simp only [cntB, t1 _ (show 0 < 8 by decide), t1 _ (show 1 < 8 by decide), t1 _ (show 2 < 8 by decide), t1 _ (show 3 < 8 by decide), t1 _ (show 4 < 8 by decide), t1 _ (show 5 < 8 by decide), t1 _ (show 6 < 8 by decide), t1 _ (show 7 < 8 by decide), t2 _ (show 0 < 8 by decide), t2 _ (show 1 < 8 by decide), t2 _ (show 2 < 8 by decide), t2 _ (show 3 < 8 by decide), t2 _ (show 4 < 8 by decide), t2 _ (show 5 < 8 by decide), t2 _ (show 6 < 8 by decide), t2 _ (show 7 < 8 by decide), t3, Nat.reduceAdd, Nat.zero_add]
    omega
  generalize v % 256 = a at ha pa ev hcnt
  generalize v / 256 % 256 = b at hb pb ev hcnt
  generalize v / 65536 = c at hc pc ev hcnt
  obtain ⟨a1, a2, ⟨a3, a6⟩, a4, a5⟩ := pa
  obtain ⟨b1, b2, ⟨b3, b6⟩, b4, b5⟩ := pb
  obtain ⟨c1, c2, ⟨c3, c6⟩, c4, c5⟩ := pc
  dsimp only at a1 a2 a3 a4 a5 a6 b1 b2 b3 b4 b5 b6 c1 c2 c3 c4 c5 c6
  have s1 : (v / 2 &&& 1431655765) = (a / 2 &&& 85) + 256 * ((b / 2 &&& 85) + 256 * (c / 2 &&& 85)) := by
    rw [ev, show 1431655765 = 85 + 256 * (85 + 256 * (85 + 256 * 85)) from rfl, lv1 ha, lv1 hb, show c = c + 256 * 0 by omega, lv1 hc]
    simp
  have hA : v - (v / 2 &&& 1431655765) = pc1 a + 256 * (pc1 b + 256 * pc1 c) := by
    rw [s1]; unfold pc1; omega
  generalize pc1 a = a' at *
  generalize pc1 b = b' at *
  generalize pc1 c = c' at *
  have hB : ((a' + 256 * (b' + 256 * c')) &&& 858993459) + ((a' + 256 * (b' + 256 * c')) / 4 &&& 858993459) = pc2 a' + 256 * (pc2 b' + 256 * pc2 c') := by
    rw [show 858993459 = 51 + 256 * (51 + 256 * (51 + 256 * 51)) from rfl, lv2 a2, lv2 b2, land_split a2 (by omega), land_split b2 (by omega), show c' = c' + 256 * 0 by omega, lv2 c2, land_split c2 (by omega)]
    simp [pc2]
    omega
  generalize pc2 a' = p at *
  generalize pc2 b' = q at *
  generalize pc2 c' = r at *
  have hC : ((p + 256 * (q + 256 * r)) + (p + 256 * (q + 256 * r)) / 16) &&& 252645135 = pc3 p + 256 * (pc3 q + 256 * pc3 r) := by
    rw [show 252645135 = 15 + 256 * (15 + 256 * (15 + 256 * 15)) from rfl, lv3 a3 (by omega), lv3 b3 (by omega), show r + r / 16 = (r + 256 * 0) + (r + 256 * 0) / 16 by omega, lv3 c3 (by omega)]
    simp
  rw [hcnt, ← a5, ← b5, ← c5]
  generalize pc3 p = x at *
  generalize pc3 q = y at *
  generalize pc3 r = z at *
  have hvA : (v / 2 &&& 1431655765) ≤ v := by rw [s1]; omega
  have E1 : nI v - (((nI v).toUInt32 >>> ((1 : Int32).toUInt32 &&& Int32.toUInt32 31)).toInt32 &&& 1431655765) = nI (a' + 256 * (b' + 256 * c')) := by
    rw [show (1 : Int32) = nI 1 from rfl, us_nI (by omega) (by omega), show (1431655765 : Int32) = nI 1431655765 from rfl, and_nI, nI_sub hvA, hA]
  have E2 : (nI (a' + 256 * (b' + 256 * c')) &&& 858993459) + (((nI (a' + 256 * (b' + 256 * c'))).toUInt32 >>> ((2 : Int32).toUInt32 &&& Int32.toUInt32 31)).toInt32 &&& 858993459) = nI (p + 256 * (q + 256 * r)) := by
    rw [show (2 : Int32) = nI 2 from rfl, us_nI (by omega) (by omega), show (858993459 : Int32) = nI 858993459 from rfl, and_nI, and_nI, nI_add]
    exact congrArg nI hB
  have E3 : (nI (p + 256 * (q + 256 * r)) + ((nI (p + 256 * (q + 256 * r))).toUInt32 >>> ((4 : Int32).toUInt32 &&& Int32.toUInt32 31)).toInt32) &&& 252645135 = nI (x + 256 * (y + 256 * z)) := by
    rw [show (4 : Int32) = nI 4 from rfl, us_nI (by omega) (by omega), show (252645135 : Int32) = nI 252645135 from rfl, nI_add, and_nI]
    exact congrArg nI hC
  have E4 : nI (x + 256 * (y + 256 * z)) + ((nI (x + 256 * (y + 256 * z))).toUInt32 >>> ((8 : Int32).toUInt32 &&& Int32.toUInt32 31)).toInt32 = nI ((x + y) + 256 * ((y + z) + 256 * z)) := by
    rw [show (8 : Int32) = nI 8 from rfl, us_nI (by omega) (by omega), nI_add]
    congr 1
    omega
  have E5 : (nI ((x + y) + 256 * ((y + z) + 256 * z)) + ((nI ((x + y) + 256 * ((y + z) + 256 * z))).toUInt32 >>> ((16 : Int32).toUInt32 &&& Int32.toUInt32 31)).toInt32) &&& 63 = nI (x + y + z) := by
    rw [show (16 : Int32) = nI 16 from rfl, us_nI (by omega) (by omega), nI_add, show (63 : Int32) = nI 63 from rfl, and_nI]
    congr 1
    have hz : (x + y + 256 * (y + z + 256 * z)) / 2 ^ 16 = z := by rw [show 2 ^ 16 = 65536 from rfl]; omega
    rw [hz, show 63 = 2 ^ 6 - 1 from rfl, Nat.and_two_pow_sub_one_eq_mod, show 2 ^ 6 = 64 from rfl]
    omega
  unfold bcF
  dsimp only
  rw [E1, E2, E3, E4, E5]
theorem bcF_LB {x : Int32} {n : Nat} (h : LB n x) (hn : n ≤ 24) : bcF x = nI (cntB (bt x) n) := by
  obtain ⟨v, hv, rfl⟩ := (h.mono hn).nat (by omega)
  rw [bcF_24 hv, ← cntB_cut h hn]
  congr 1
  apply cntB_congr
  intro k hk
  rw [bt_nI (by omega)]
