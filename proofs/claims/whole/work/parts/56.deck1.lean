/-! the deck: lists of picks within one another -/
def stt (z : Nat → Nat) : Nat → Nat
  | 0 => 0
  | i + 1 => stt z i + z i
def upN (z : Nat → Nat) (i v : Nat) : Nat → Nat := fun j => if j = i then v else z j
theorem upN_eq {z : Nat → Nat} {i v : Nat} : upN z i v i = v := if_pos rfl
theorem upN_ne {z : Nat → Nat} {i v j : Nat} (h : j ≠ i) : upN z i v j = z j := if_neg h
theorem stt_up {z : Nat → Nat} {l v : Nat} : ∀ i, i ≤ l → stt (upN z l v) i = stt z i := by
  intro i
  induction i with
  | zero => intro _; rfl
  | succ i ih => intro h; unfold stt; rw [ih (by omega), upN_ne (by omega)]
theorem stt_lt {z : Nat → Nat} {l : Nat} : ∀ i, i < l → stt z i + z i ≤ stt z l := by
  induction l with
  | zero => intro i h; omega
  | succ l ih =>
    intro i h
    by_cases e : i = l
    · subst e; exact Nat.le_refl _
    · have := ih i (by omega)
      show _ ≤ stt z l + z l
      omega
theorem stt_b {z : Nat → Nat} : ∀ l, (∀ i, i < l → z i ≤ 100) → stt z l ≤ 100 * l := by
  intro l
  induction l with
  | zero => intro _; exact Nat.le_refl 0
  | succ l ih =>
    intro h
    have h1 := ih fun i hi => h i (by omega)
    have h2 := h l (by omega)
    show stt z l + z l ≤ _
    omega
def opC (x : Int32) : Prop := ∃ n : Nat, x = nI n ∧ (n = 101 ∨ n = 102 ∨ (201 ≤ n ∧ n ≤ 220))
theorem opC.ok {x : Int32} (h : opC x) : pOK x := by
  obtain ⟨n, h1, h2⟩ := h
  exact ⟨n, h1, by omega⟩
section DCK
variable {I I' J J' : JI} {d : Nat}
theorem addPart_n {n : Nat} {c : Int32} (h : I d 1 = nI n) (hn : n < 500) : x0_addPart I d c = stI (stI I (d + 1) n c) d 1 (nI (n + 1)) := by
  unfold x0_addPart
  rw [h, ptI_nI hn (by omega), stI_ne (show d ≠ d + 1 by omega), h, nI_1]
theorem addPick_n {n : Nat} {c : Int32} (h : I d 3 = nI n) (hn : n < 400) : x0_addPick I d c = stI (stI I (d + 2) n c) d 3 (nI (n + 1)) := by
  unfold x0_addPick
  rw [h, ptI_nI hn (by omega), stI_ne (show d ≠ d + 2 by omega), h, nI_1]
/-- what a list of picks becomes, and that nothing else changes -/
def PK (I I' : JI) (d lo hi : Nat) (e : Int32) : Prop := I' d 3 = e ∧ (∀ j, ¬ (lo ≤ j ∧ j < hi) → I' (d + 2) j = I (d + 2) j) ∧ (∀ z, z ≠ d → z ≠ d + 2 → I' z = I z) ∧ ∀ j, j ≠ 3 → I' d j = I d j
theorem mirI_pk {a : Nat} : ∀ (t len : Nat) (I : JI), I d 3 = nI len → len + t ≤ 400 → a + t ≤ len → PK I (mirI d a t I) d len (len + t) (nI (len + t)) ∧ ∀ j, j < t → mirI d a t I (d + 2) (len + j) = I (d + 2) (a + t - 1 - j) := by
  intro t
  induction t with
  | zero => intro len I h _ _; exact ⟨⟨h, fun _ _ => rfl, fun _ _ _ => rfl, fun _ _ => rfl⟩, fun j hj => by omega⟩
  | succ t ih =>
    intro len I h h1 h2
    unfold mirI
    rw [atF_nI (by omega) (by omega), addPick_n h (by omega)]
    obtain ⟨⟨p1, p2, p3, p4⟩, p5⟩ := ih (len + 1) (stI (stI I (d + 2) len (I (d + 2) (a + t))) d 3 (nI (len + 1))) stI_at (by omega) (by omega)
    have e2 : ∀ j, j ≠ len → stI (stI I (d + 2) len (I (d + 2) (a + t))) d 3 (nI (len + 1)) (d + 2) j = I (d + 2) j := fun j hj => by rw [stI_ne (by omega), stI_aj hj]
    refine ⟨⟨by rw [p1]; congr 1; omega, fun j hj => ?_, fun z z1 z2 => ?_, fun j hj => ?_⟩, fun j hj => ?_⟩
    · rw [p2 j (by omega), e2 j (by omega)]
    · rw [p3 z z1 z2, stI_ne z1, stI_ne z2]
    · rw [p4 j hj, stI_aj hj, stI_ne (by omega)]
    · by_cases e : j = 0
      · subst e
        rw [p2 (len + 0) (by omega), stI_ne (by omega), show len + 0 = len from rfl, stI_at]
        congr 1
      · have := p5 (j - 1) (by omega)
        rw [show len + 1 + (j - 1) = len + j by omega] at this
        rw [this, e2 _ (by omega)]
        congr 1; omega
theorem repI_pk {a b : Nat} (hab : a < b) : ∀ (t j : Nat) (I : JI), I d 3 = nI (b + j) → b + j + t ≤ 400 → PK I (repI d a t j I) d (b + j) (b + j + t) (nI (b + j + t)) ∧ ∀ i, j ≤ i → i < j + t → repI d a t j I (d + 2) (b + i) = repI d a t j I (d + 2) (a + i) := by
  intro t
  induction t with
  | zero => intro j I h _; exact ⟨⟨h, fun _ _ => rfl, fun _ _ _ => rfl, fun _ _ => rfl⟩, fun i h1 h2 => by omega⟩
  | succ t ih =>
    intro j I h h1
    unfold repI
    rw [nI_add, atF_nI (by omega) (by omega), addPick_n h (by omega)]
    obtain ⟨⟨p1, p2, p3, p4⟩, p5⟩ := ih (j + 1) (stI (stI I (d + 2) (b + j) (I (d + 2) (a + j))) d 3 (nI (b + j + 1))) stI_at (by omega)
    have e2 : ∀ i, i ≠ b + j → stI (stI I (d + 2) (b + j) (I (d + 2) (a + j))) d 3 (nI (b + j + 1)) (d + 2) i = I (d + 2) i := fun i hi => by rw [stI_ne (by omega), stI_aj hi]
    refine ⟨⟨by rw [p1]; congr 1; omega, fun i hi => ?_, fun z z1 z2 => ?_, fun i hi => ?_⟩, fun i h1 h2 => ?_⟩
    · rw [p2 i (by omega), e2 i (by omega)]
    · rw [p3 z z1 z2, stI_ne z1, stI_ne z2]
    · rw [p4 i hi, stI_aj hi, stI_ne (by omega)]
    · by_cases e : i = j
      · subst e
        rw [p2 (b + i) (by omega), stI_ne (by omega), stI_at, p2 (a + i) (by omega), e2 _ (by omega)]
      · exact p5 i (by omega) (by omega)
theorem repI_mod {a n t : Nat} (hn : 0 < n) (h : I d 3 = nI (a + n)) (ht : a + n + t ≤ 400) : ∀ i, i < t → repI d a t 0 I (d + 2) (a + n + i) = I (d + 2) (a + i % n) := by
  obtain ⟨⟨p1, p2, p3, p4⟩, p5⟩ := repI_pk (d := d) (a := a) (b := a + n) (by omega) t 0 I h (by omega)
  intro i
  induction i using Nat.strongRecOn with
  | _ i ih =>
    intro hi
    rw [p5 i (by omega) (by omega)]
    by_cases e : i < n
    · rw [p2 (a + i) (by omega), Nat.mod_eq_of_lt e]
    · have := ih (i - n) (by omega) (by omega)
      rw [show a + n + (i - n) = a + i by omega] at this
      rw [this, ← Nat.mod_eq_sub_mod (show i ≥ n by omega)]
theorem revI_pk : ∀ (t i b : Nat) (I : JI), b + 1 ≤ i + 2 * t + 1 → b < 400 → i ≤ 400 → (∀ j, revI d t (nI i) (nI b) I (d + 2) j = if i ≤ j ∧ j ≤ b then I (d + 2) (i + b - j) else I (d + 2) j) ∧ (∀ z, z ≠ d + 2 → revI d t (nI i) (nI b) I z = I z) := by
  intro t
  induction t with
  | zero =>
    intro i b I h hb hi4
    refine ⟨fun j => ?_, fun z hz => rfl⟩
    show I (d + 2) j = _
    by_cases q : i ≤ j ∧ j ≤ b
    · rw [if_pos q]; congr 1; omega
    · rw [if_neg q]
  | succ t ih =>
    intro i b I h hb hi4
    unfold revI
    by_cases q : i < b
    · obtain ⟨b, rfl⟩ : ∃ b', b = b' + 1 := ⟨b - 1, by omega⟩
      rw [if_pos (nI_lt q (by omega)), nI_1, pk_m1, atF_nI (by omega) (by omega), atF_nI (by omega) (by omega), ptI_nI (by omega) (by omega), ptI_nI (by omega) (by omega)]
      obtain ⟨r1, r2⟩ := ih (i + 1) b (stI (stI I (d + 2) i (I (d + 2) (b + 1))) (d + 2) (b + 1) (I (d + 2) i)) (by omega) (by omega) (by omega)
      refine ⟨fun j => ?_, fun z hz => ?_⟩
      · rw [r1 j]
        by_cases e1 : j = i
        · subst e1
          rw [if_neg (by omega), stI_aj (by omega), stI_at, if_pos (by omega)]
          congr 1; omega
        · by_cases e2 : j = b + 1
          · subst e2
            rw [if_neg (by omega), stI_at, if_pos (by omega)]
            congr 1; omega
          · by_cases e3 : i + 1 ≤ j ∧ j ≤ b
            · rw [if_pos e3, stI_aj (by omega), stI_aj (by omega), if_pos (by omega)]
              congr 1; omega
            · rw [if_neg e3, stI_aj e2, stI_aj e1, if_neg (by omega)]
      · rw [r2 z hz, stI_ne hz, stI_ne hz]
    · rw [if_neg (nI_nlt (by omega) (by omega))]
      refine ⟨fun j => ?_, fun z hz => rfl⟩
      by_cases q : i ≤ j ∧ j ≤ b
      · rw [if_pos q]; congr 1; omega
      · rw [if_neg q]
/-- how many picks a closed part has, and which -/
def pkN (c n : Nat) : Nat := if c = 101 then 2 * n - 1 else if c = 102 then n else n * (c - 200)
def plN (c n k : Nat) : Nat := if c = 102 then n - 1 - k else if c = 101 then (if k < n then k else 2 * n - 2 - k) else k % n
theorem pkN_b {c n : Nat} (hc : c = 101 ∨ c = 102 ∨ (201 ≤ c ∧ c ≤ 220)) (hn : n ≤ 100) : pkN c n ≤ 2000 ∧ (0 < n → 0 < pkN c n) := by
  unfold pkN
  rcases hc with rfl | rfl | ⟨h1, h2⟩
  · rw [if_pos rfl]; omega
  · rw [if_neg (by omega), if_pos rfl]; omega
  · rw [if_neg (by omega), if_neg (by omega)]
    refine ⟨Nat.le_trans (Nat.mul_le_mul hn (show c - 200 ≤ 20 by omega)) (by omega), fun h => Nat.mul_pos h (by omega)⟩
theorem pwc_n {c n : Nat} (hc : c = 101 ∨ c = 102 ∨ (201 ≤ c ∧ c ≤ 220)) (h0 : 0 < n) (hn : n ≤ 100) : x0_pwc (nI c) (nI n) = nI (pkN c n) := by
  unfold x0_pwc pkN
  rcases hc with rfl | rfl | ⟨h1, h2⟩
  · rw [if_pos (show nI 101 = 101 from rfl), if_pos rfl, show (2 : Int32) = nI 2 from rfl, nI_mul, show (1 : Int32) = nI 1 from rfl, nI_sub (by omega)]
  · rw [if_neg (show ¬ nI 102 = 101 by decide), if_pos (show nI 102 = 102 from rfl), if_neg (by omega), if_pos rfl]
  · rw [if_neg (show ¬ nI c = 101 from fun e => by have := (nI_eq (b := 101) (by omega) (by omega)).mp e; omega), if_neg (show ¬ nI c = 102 from fun e => by have := (nI_eq (b := 102) (by omega) (by omega)).mp e; omega), if_neg (by omega), if_neg (by omega), show (200 : Int32) = nI 200 from rfl, nI_sub (by omega), nI_mul]
theorem pcdN {c : Nat} (hc : c = 101 ∨ c = 102 ∨ (201 ≤ c ∧ c ≤ 220)) : pcd (nI c) = nI (if c = 101 then 200 else if c = 102 then 201 else c - 100) := by
  rw [(pcd_n (v := c) (by omega)).1, if_neg (by omega)]
  by_cases e : c = 101
  · rw [if_pos e, if_pos e]
  · rw [if_neg e, if_neg e]
    by_cases e2 : c = 102
    · rw [if_pos e2, if_pos e2]
    · rw [if_neg e2, if_neg e2, if_pos (by omega)]
theorem mpwc_n {m c n : Nat} (hc : c = 101 ∨ c = 102 ∨ (201 ≤ c ∧ c ≤ 220)) (h0 : 0 < n) (hn : n ≤ 100) : s_X9_picksOf m (pcd (nI c)) (nI n) = nI (pkN c n) := by
  rcases hc with rfl | rfl | ⟨h1, h2⟩
  · rw [show pcd (nI 101) = nI 200 by decide +kernel]
    unfold s_X9_picksOf pkN
    rw [if_pos (show nI 200 = 200 from rfl), if_pos rfl, show (2 : Int32) = nI 2 from rfl, nI_mul, show (1 : Int32) = nI 1 from rfl, nI_sub (by omega)]
  · rw [show pcd (nI 102) = nI 201 by decide +kernel]
    unfold s_X9_picksOf pkN
    rw [if_neg (show ¬ nI 201 = 200 by decide), if_pos (show nI 201 = 201 from rfl), if_neg (show ¬ 102 = 101 by omega), if_pos rfl]
  · rw [pcdN (Or.inr (Or.inr ⟨h1, h2⟩))]
    unfold s_X9_picksOf pkN
    have n1 : ¬ c = 101 := by omega
    have n2 : ¬ c = 102 := by omega
    rw [if_neg n1, if_neg n2, if_neg (show ¬ nI (c - 100) = 200 from fun e => by have := (nI_eq (b := 200) (by omega) (by omega)).mp e; omega), if_neg (show ¬ nI (c - 100) = 201 from fun e => by have := (nI_eq (b := 201) (by omega) (by omega)).mp e; omega), if_neg n1, if_neg n2, show (100 : Int32) = nI 100 from rfl, nI_sub (by omega), nI_mul, show c - 100 - 100 = c - 200 by omega]
theorem mplace_n {c n k : Nat} (hc : c = 101 ∨ c = 102 ∨ (201 ≤ c ∧ c ≤ 220)) (h0 : 0 < n) (hn : n ≤ 100) (hk : k < pkN c n) : s_X9_placeOf (pcd (nI c)) (nI n) (nI k) = some (nI (plN c n k)) ∧ plN c n k < n := by
  have hb := (pkN_b hc hn).1
  have hk2 : k < 2000 := by omega
  unfold pkN at hk
  rcases hc with rfl | rfl | ⟨h1, h2⟩
  · rw [show pcd (nI 101) = nI 200 by decide +kernel]
    unfold s_X9_placeOf plN
    rw [if_pos rfl] at hk
    rw [if_neg (show ¬ nI 200 = 201 by decide), if_pos (show nI 200 = 200 from rfl), if_neg (show ¬ 101 = 102 by omega), if_pos rfl]
    by_cases q : k < n
    · rw [if_neg (nI_ge q (by omega)), if_pos q]; exact ⟨rfl, q⟩
    · rw [if_pos (nI_le (by omega) (by omega)), if_neg q, show (2 : Int32) = nI 2 from rfl, nI_mul, nI_sub (by omega), nI_sub (by omega)]; exact ⟨rfl, by omega⟩
  · rw [show pcd (nI 102) = nI 201 by decide +kernel]
    unfold s_X9_placeOf plN
    rw [if_neg (show ¬ 102 = 101 by omega), if_pos rfl] at hk
    rw [if_pos (show nI 201 = 201 from rfl), if_pos rfl, show (1 : Int32) = nI 1 from rfl, nI_sub (by omega), nI_sub (by omega)]; exact ⟨rfl, by omega⟩
  · have n1 : ¬ c = 101 := by omega
    have n2 : ¬ c = 102 := by omega
    rw [pcdN (Or.inr (Or.inr ⟨h1, h2⟩)), if_neg n1, if_neg n2]
    unfold s_X9_placeOf plN
    rw [if_neg (show ¬ nI (c - 100) = 201 from fun e => by have := (nI_eq (b := 201) (by omega) (by omega)).mp e; omega), if_neg (show ¬ nI (c - 100) = 200 from fun e => by have := (nI_eq (b := 200) (by omega) (by omega)).mp e; omega), if_neg n2, if_neg n1, gd_i (nI_ne0 h0 (by omega)), nI_modt (by omega) h0 (by omega)]
    exact ⟨rfl, Nat.mod_lt _ h0⟩
/-- the class's list after its bracket is closed -/
theorem closeI_n {a n c : Nat} (hc : c = 101 ∨ c = 102 ∨ (201 ≤ c ∧ c ≤ 220)) (h0 : 0 < n) (hn : n ≤ 100) (h3 : I d 3 = nI (a + n)) (hb : a + pkN c n ≤ 400) : PK I (x0_closeI I d a (n - 1) (nI c)) d a (a + pkN c n) (nI (a + pkN c n)) ∧ ∀ k, k < pkN c n → x0_closeI I d a (n - 1) (nI c) (d + 2) (a + k) = I (d + 2) (a + plN c n k) := by
  unfold x0_closeI
  unfold pkN plN at *
  rcases hc with rfl | rfl | ⟨h1, h2⟩
  · rw [if_pos rfl] at hb
    rw [if_pos rfl, if_pos (show nI 101 = 101 from rfl)]
    obtain ⟨⟨p1, p2, p3, p4⟩, p5⟩ := mirI_pk (d := d) (a := a) (n - 1) (a + n) I h3 (by omega) (by omega)
    refine ⟨⟨by rw [p1]; congr 1; omega, fun j hj => p2 j (by omega), p3, p4⟩, fun k hk => ?_⟩
    rw [if_neg (by omega), if_pos rfl]
    by_cases q : k < n
    · rw [if_pos q, p2 _ (by omega)]
    · rw [if_neg q]
      have := p5 (k - n) (by omega)
      rw [show a + n + (k - n) = a + k by omega] at this
      rw [this]; congr 1; omega
  · rw [if_neg (by omega), if_pos rfl] at hb
    rw [if_neg (show ¬ (102 : Nat) = 101 by omega), if_pos rfl, if_neg (show ¬ nI 102 = 101 by decide), if_pos (show nI 102 = 102 from rfl)]
    obtain ⟨r1, r2⟩ := revI_pk (d := d) 400 a (a + (n - 1)) I (by omega) (by omega) (by omega)
    refine ⟨⟨by rw [r2 d (by omega)]; exact h3, fun j hj => by rw [r1 j, if_neg (by omega)], fun z z1 z2 => r2 z z2, fun j hj => by rw [r2 d (by omega)]⟩, fun k hk => ?_⟩
    rw [if_pos rfl, r1 (a + k), if_pos (by omega)]
    congr 1; omega
  · rw [if_neg (show ¬ c = 101 by omega), if_neg (show ¬ c = 102 by omega)] at hb
    rw [if_neg (show ¬ c = 101 by omega), if_neg (show ¬ c = 102 by omega), if_neg (show ¬ nI c = 101 from fun e => by have := (nI_eq (b := 101) (by omega) (by omega)).mp e; omega), if_neg (show ¬ nI c = 102 from fun e => by have := (nI_eq (b := 102) (by omega) (by omega)).mp e; omega)]
    have hm : n * (c - 200) = n + n * (c - 201) := by
      rw [show c - 200 = c - 201 + 1 by omega, Nat.mul_add]; omega
    have hm2 : n * (c - 201) < 2 ^ 31 := Nat.lt_of_le_of_lt (Nat.mul_le_mul hn (show c - 201 ≤ 20 by omega)) (by omega)
    have ha : ((nI (a + (n - 1) + 1) - nI a) * (nI c - 200 - 1)).toNatClampNeg = n * (c - 201) := by
      rw [nI_sub (by omega), show (200 : Int32) = nI 200 from rfl, nI_sub (by omega), show (1 : Int32) = nI 1 from rfl, nI_sub (by omega), nI_mul, show a + (n - 1) + 1 - a = n by omega, show c - 200 - 1 = c - 201 by omega]
      exact nI_clamp hm2
    rw [ha]
    have h3' : I d 3 = nI (a + n + 0) := h3
    obtain ⟨⟨p1, p2, p3, p4⟩, -⟩ := repI_pk (d := d) (a := a) (b := a + n) (by omega) (n * (c - 201)) 0 I h3' (by omega)
    have p6 := repI_mod (d := d) (a := a) h0 h3 (t := n * (c - 201)) (by omega)
    have e9 : a + n + 0 + n * (c - 201) = a + n * (c - 200) := by omega
    refine ⟨⟨by rw [p1, e9], fun j hj => p2 j (by omega), p3, p4⟩, fun k hk => ?_⟩
    rw [if_neg (show ¬ c = 102 by omega), if_neg (show ¬ c = 101 by omega)]
    by_cases q : k < n
    · rw [p2 _ (by omega), Nat.mod_eq_of_lt q]
    · have := p6 (k - n) (by omega)
      rw [show a + n + (k - n) = a + k by omega] at this
      rw [this, ← Nat.mod_eq_sub_mod (show k ≥ n by omega)]
theorem mxF_i (x y : Int32) : (mxF x y).toInt = max x.toInt y.toInt := by
  unfold mxF
  split
  · rename_i h
    have := Int32.lt_iff_toInt_lt.mp h
    omega
  · rename_i h
    have : ¬ x.toInt < y.toInt := fun q => h (Int32.lt_iff_toInt_lt.mpr q)
    omega
theorem mxF_11 (x : Int32) : mxF (mxF x 1) 1 = mxF x 1 := by
  apply Int32.toInt_inj.mp
  rw [mxF_i, mxF_i]; omega
theorem mxF_1n (x y : Int32) : mxF (mxF x 1) y = mxF (mxF x y) 1 := by
  apply Int32.toInt_inj.mp
  rw [mxF_i, mxF_i, mxF_i, mxF_i]; omega
theorem mxF_ge (x : Int32) {n : Nat} (h1 : 1 ≤ n) (hn : n < 2 ^ 31) : mxF (mxF x (nI n)) 1 = mxF x (nI n) := by
  apply Int32.toInt_inj.mp
  have e1 : (1 : Int32).toInt = 1 := by decide
  rw [mxF_i, mxF_i, nI_toInt hn, e1]; omega
theorem mxF_keep {x : Int32} (y : Int32) (h : mxF x 1 = x) : mxF (mxF x y) 1 = mxF x y := by
  rw [← mxF_1n, h]
end DCK
