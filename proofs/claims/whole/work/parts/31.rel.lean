/-! class and reference: the relation, loops, places of the reference's block -/
theorem loopA {A B : Type} (F : Nat → A → Int32 → Option B) (acc : Nat → A) (out : B) (a N : Nat)
    (hend : ∀ f, F (f + 1) (acc N) (nI N) = some out) (hstep : ∀ f j, a ≤ j → j < N → F (f + 1) (acc j) (nI j) = F f (acc (j + 1)) (nI (j + 1))) :
    ∀ f j, a ≤ j → j ≤ N → N - j < f → F f (acc j) (nI j) = some out := by
  intro f
  induction f with
  | zero => intro j _ _ h; omega
  | succ f ih =>
    intro j ha hj hf
    by_cases q : j = N
    · subst q; exact hend f
    · rw [hstep f j ha (by omega)]
      exact ih (j + 1) (by omega) (by omega) (by omega)
def findF (p : Nat → Bool) : Nat → Nat → Option Nat
  | 0, _ => none
  | m + 1, j => if p j = true then some j else findF p m (j + 1)
theorem findF_s (p : Nat → Bool) (m j : Nat) : findF p (m + 1) j = if p j = true then some j else findF p m (j + 1) := rfl
theorem findF_congr {p q : Nat → Bool} : ∀ (m j : Nat), (∀ k, j ≤ k → k < j + m → p k = q k) → findF p m j = findF q m j := by
  intro m
  induction m with
  | zero => intro j _; rfl
  | succ m ih =>
    intro j h
    unfold findF
    rw [h j (Nat.le_refl j) (by omega), ih (j + 1) fun k h1 h2 => h k (by omega) (by omega)]
theorem findF_some {p : Nat → Bool} : ∀ (m j k : Nat), findF p m j = some k → j ≤ k ∧ k < j + m ∧ p k = true := by
  intro m
  induction m with
  | zero => intro j k h; cases h
  | succ m ih =>
    intro j k h
    unfold findF at h
    by_cases q : p j = true
    · rw [if_pos q] at h; cases h; exact ⟨by omega, by omega, q⟩
    · rw [if_neg q] at h
      obtain ⟨h1, h2, h3⟩ := ih _ _ h
      exact ⟨by omega, by omega, h3⟩
theorem findF_none {p : Nat → Bool} : ∀ (m j : Nat), findF p m j = none → ∀ k, j ≤ k → k < j + m → p k = false := by
  intro m
  induction m with
  | zero => intro j _ k h1 h2; omega
  | succ m ih =>
    intro j h k h1 h2
    unfold findF at h
    by_cases q : p j = true
    · rw [if_pos q] at h; cases h
    · rw [if_neg q] at h
      by_cases e : k = j
      · subst e; simpa using q
      · exact ih _ h k (by omega) (by omega)
def sumF {R E : Type} (r : Nat → R) (e : E) : Option Nat → R ⊕ E
  | some k => .inl (r k)
  | none => .inr e
theorem loopS {R E : Type} (F : Nat → Int32 → Option (R ⊕ E)) (p : Nat → Bool) (r : Nat → R) (e : E) (a N : Nat)
    (hend : ∀ f, F (f + 1) (nI N) = some (.inr e)) (hstep : ∀ f j, a ≤ j → j < N → F (f + 1) (nI j) = if p j = true then some (.inl (r j)) else F f (nI (j + 1))) :
    ∀ f j, a ≤ j → j ≤ N → N - j < f → F f (nI j) = some (sumF r e (findF p (N - j) j)) := by
  intro f
  induction f with
  | zero => intro j _ _ h; omega
  | succ f ih =>
    intro j ha hj hf
    by_cases q : j = N
    · subst q; rw [hend f, Nat.sub_self]; rfl
    · rw [hstep f j ha (by omega)]
      obtain ⟨d, hd⟩ : ∃ d, N - j = d + 1 := ⟨N - j - 1, by omega⟩
      rw [hd]
      unfold findF
      by_cases hp : p j = true
      · rw [if_pos hp, if_pos hp]; rfl
      · rw [if_neg hp, if_neg hp, ih (j + 1) (by omega) (by omega) (by omega), show N - (j + 1) = d by omega]
/-- the loom's fixed part is sound -/
def LVal (I : JI) (L H W C P : Nat) : Prop :=
  (I L 0 = nI H ∧ H ≤ 8) ∧ (I L 4 = nI W ∧ W ≤ 24) ∧ (I L 7 = nI C ∧ C ≤ 12) ∧ (I (L + 5) 3 = nI P ∧ P ≤ 100) ∧ (∃ t, t ≤ 60 ∧ I L 2 = nI t) ∧ (∃ q, q ≤ 24 ∧ I L 3 = nI q) ∧
  (∀ w, w < W → ∃ h, h < H ∧ I (L + 1) w = nI h) ∧ (∀ w, w < W → ∃ q, q < 6 ∧ I (L + 2) w = nI q) ∧ (∀ c, c < C → LB H (I (L + 3) c) ∧ ∃ q, q < 6 ∧ I (L + 4) c = nI q) ∧ (∀ k, k < P → ∃ c, c < C ∧ I (L + 5 + 2) k = nI c)
/-- the code of a part, and what the reference writes for it -/
def pOK (x : Int32) : Prop := ∃ n : Nat, x = nI n ∧ (n < 12 ∨ n = 100 ∨ n = 101 ∨ n = 102 ∨ (201 ≤ n ∧ n ≤ 220))
def pcd (x : Int32) : Int32 := if x = 100 then 300 else if x = 101 then 200 else if x = 102 then 201 else if 200 ≤ x then x - 100 else x
/-- how many bytes a part takes at most, with the space ahead of it -/
def pw (x : Int32) : Nat := if x = 100 then 1 else if x = 101 then 3 else if x = 102 then 3 else if 200 ≤ x then (if x < 210 then 4 else 5) else if x < 10 then 2 else 3
def pW (f : Nat → Int32) : Nat → Nat
  | 0 => 0
  | n + 1 => pW f n + pw (f n)
def RPart (I : JI) (d : Nat) (f : Nat → Int32) : Prop := ∃ n : Nat, (n ≤ 266 ∧ pW (I (d + 1)) n ≤ 500) ∧ I d 1 = nI n ∧ f 6 = nI n ∧ ∀ k, k < n → pOK (I (d + 1) k) ∧ f (1764 + k) = pcd (I (d + 1) k)
/-- the reference's block has the loom's fixed part -/
def FBlk (I : JI) (L : Nat) (f : Nat → Int32) (W C P : Nat) : Prop :=
  (f 0 = I L 0 ∧ f 1 = I L 1 ∧ f 2 = I L 4 ∧ f 3 = I L 7 ∧ f 4 = I (L + 5) 3 ∧ f 7 = I (L + 5) 4 ∧ f 11 = I L 2 ∧ f 12 = I L 3) ∧
  (∀ w, w < W → f (38 + 3 * w) = I (L + 1) w ∧ f (39 + 3 * w) = I (L + 2) w) ∧ (∀ c, c < C → f (118 + 4 * c) = I (L + 3) c ∧ f (119 + 4 * c) = I (L + 4) c) ∧ (∀ k, k < P → f (164 + k) = I (L + 5 + 2) k) ∧ RPart I (L + 5) f
def SVal (I : JI) (s H W C P R : Nat) : Prop :=
  LB H (I s 0) ∧ LB H (I s 1) ∧ LB W (I s 2) ∧ (I s 3 = nI R ∧ R ≤ 60 ∧ (0 < R → 0 < P)) ∧ (I s 5 = 0 ∨ I s 5 = 1) ∧ (∀ c, c < C → LB H (I (s + 3) c) ∧ ∃ q, q < 6 ∧ I (s + 4) c = nI q) ∧ (∀ r, r < R → LB W (I (s + 5) r) ∧ ∃ q, q < 6 ∧ I (s + 6) r = nI q)
/-- the colour of a cell of the state s on the loom L -/
def cellC (I : JI) (L s r w : Nat) : Int32 := if bt (I (s + 5) r) w = true then I (L + 2) w else I (s + 6) r
def SBlk (I : JI) (L s : Nat) (f : Nat → Int32) (H W C R : Nat) : Prop :=
  f 5 = I s 3 ∧ f 10 = I s 4 ∧ (I s 5 = 0 ↔ f 8 = 0 ∧ f 9 = 0 ∧ f 13 = 0) ∧ (∀ h, h < H → f (14 + 3 * h) = zb (bt (I s 0) h) ∧ f (15 + 3 * h) = I (s + 1) h ∧ f (16 + 3 * h) = zb (bt (I s 1) h)) ∧ (∀ w, w < W → f (40 + 3 * w) = zb (bt (I s 2) w)) ∧
  (∀ c, c < 6 → f (110 + c) = I (s + 2) c) ∧ (∀ c, c < C → f (116 + 4 * c) = I (s + 3) c ∧ f (117 + 4 * c) = I (s + 4) c) ∧ (∀ r, r < R → f (264 + 25 * r) = I (s + 6) r ∧ ∀ w, w < W → f (265 + 25 * r + w) = 2 * cellC I L s r w + zb (bt (I (s + 5) r) w))
/-- loom and state over against a block of the reference -/
def KR (I : JI) (L s : Nat) (f : Nat → Int32) (H W C P R : Nat) : Prop := LVal I L H W C P ∧ FBlk I L f W C P ∧ SVal I s H W C P R ∧ SBlk I L s f H W C R
/-! places -/
theorem gd_lit {α : Type} {n N : Nat} {x : Option α} (h : n < N) (hN : n < 2 ^ 31) : gd (vp_in (OfNat.ofNat n) N) x = x := gd_in h hN
theorem cl_lit {n : Nat} (h : n < 2 ^ 31) : Int32.toNatClampNeg (OfNat.ofNat n) = n := cl_nI h
theorem gl0 {α : Type} {x : Option α} : gd (vp_in 0 2030) x = x := gd_in (by decide) (by decide)
theorem cl0 : Int32.toNatClampNeg 0 = 0 := rfl
theorem gl1 {α : Type} {x : Option α} : gd (vp_in 1 2030) x = x := gd_in (by decide) (by decide)
theorem cl1 : Int32.toNatClampNeg 1 = 1 := rfl
theorem gl2 {α : Type} {x : Option α} : gd (vp_in 2 2030) x = x := gd_in (by decide) (by decide)
theorem cl2 : Int32.toNatClampNeg 2 = 2 := rfl
theorem gl3 {α : Type} {x : Option α} : gd (vp_in 3 2030) x = x := gd_in (by decide) (by decide)
theorem cl3 : Int32.toNatClampNeg 3 = 3 := rfl
theorem gl4 {α : Type} {x : Option α} : gd (vp_in 4 2030) x = x := gd_in (by decide) (by decide)
theorem cl4 : Int32.toNatClampNeg 4 = 4 := rfl
theorem gl5 {α : Type} {x : Option α} : gd (vp_in 5 2030) x = x := gd_in (by decide) (by decide)
theorem cl5 : Int32.toNatClampNeg 5 = 5 := rfl
theorem gl6 {α : Type} {x : Option α} : gd (vp_in 6 2030) x = x := gd_in (by decide) (by decide)
theorem cl6 : Int32.toNatClampNeg 6 = 6 := rfl
theorem gl7 {α : Type} {x : Option α} : gd (vp_in 7 2030) x = x := gd_in (by decide) (by decide)
theorem cl7 : Int32.toNatClampNeg 7 = 7 := rfl
theorem gl8 {α : Type} {x : Option α} : gd (vp_in 8 2030) x = x := gd_in (by decide) (by decide)
theorem cl8 : Int32.toNatClampNeg 8 = 8 := rfl
theorem gl9 {α : Type} {x : Option α} : gd (vp_in 9 2030) x = x := gd_in (by decide) (by decide)
theorem cl9 : Int32.toNatClampNeg 9 = 9 := rfl
theorem gl10 {α : Type} {x : Option α} : gd (vp_in 10 2030) x = x := gd_in (by decide) (by decide)
theorem cl10 : Int32.toNatClampNeg 10 = 10 := rfl
theorem gl11 {α : Type} {x : Option α} : gd (vp_in 11 2030) x = x := gd_in (by decide) (by decide)
theorem cl11 : Int32.toNatClampNeg 11 = 11 := rfl
theorem gl12 {α : Type} {x : Option α} : gd (vp_in 12 2030) x = x := gd_in (by decide) (by decide)
theorem cl12 : Int32.toNatClampNeg 12 = 12 := rfl
theorem gl13 {α : Type} {x : Option α} : gd (vp_in 13 2030) x = x := gd_in (by decide) (by decide)
theorem cl13 : Int32.toNatClampNeg 13 = 13 := rfl
theorem nI_p0 {n : Nat} (h0 : 0 < n) (h : n < 2 ^ 31) : (0 : Int32) < nI n := nI_lt (a := 0) h0 h
theorem nI_eqL {a n : Nat} (ha : a < 2 ^ 31) (hn : n < 2 ^ 31) : nI a = OfNat.ofNat n ↔ a = n := nI_eq ha hn
theorem nI_leL {a n : Nat} (ha : a < 2 ^ 31) (hn : n < 2 ^ 31) : nI a ≤ OfNat.ofNat n ↔ a ≤ n := nI_leI ha hn
theorem nI_geL {a n : Nat} (ha : a < 2 ^ 31) (hn : n < 2 ^ 31) : OfNat.ofNat n ≤ nI a ↔ n ≤ a := nI_leI hn ha
theorem nI_ltL {a n : Nat} (ha : a < 2 ^ 31) (hn : n < 2 ^ 31) : nI a < OfNat.ofNat n ↔ a < n := nI_ltI ha hn
theorem nI_gtL {a n : Nat} (ha : a < 2 ^ 31) (hn : n < 2 ^ 31) : OfNat.ofNat n < nI a ↔ n < a := nI_ltI hn ha
theorem nI_z : nI 0 = 0 := rfl
theorem nI_cnt (p : Nat → Bool) (j : Nat) : nI (cntB p j) + zb (p j) = nI (cntB p (j + 1)) := by
  rw [show cntB p (j + 1) = cntB p j + (if p j = true then 1 else 0) from rfl]
  cases p j
  · exact Int32.add_zero _
  · exact nI_1 _
section PLACES
variable {J : JI} {m : Nat}
theorem one_zb (b : Bool) : s_X9_one b = zb b := rfl
theorem a_ofCard {c k : Nat} (hc : c < 12) (hk : k < 4) : s_X9_ofCard J m (nI c) (nI k) = some (J (m + 1) (116 + 4 * c + k)) := by
  unfold s_X9_ofCard
  simp (disch := omega) only [nI_lit, nI_mul, nI_add, gd_in, cl_nI]
theorem a_ofCard0 {c : Nat} (hc : c < 12) : s_X9_ofCard J m (nI c) 0 = some (J (m + 1) (116 + 4 * c)) := a_ofCard hc (show 0 < 4 by decide)
theorem a_ofCard1 {c : Nat} (hc : c < 12) : s_X9_ofCard J m (nI c) 1 = some (J (m + 1) (117 + 4 * c)) := by
  rw [show (1 : Int32) = nI 1 from rfl, a_ofCard hc (show 1 < 4 by decide), show 116 + 4 * c + 1 = 117 + 4 * c by omega]
theorem a_ofCard2 {c : Nat} (hc : c < 12) : s_X9_ofCard J m (nI c) 2 = some (J (m + 1) (118 + 4 * c)) := by
  rw [show (2 : Int32) = nI 2 from rfl, a_ofCard hc (show 2 < 4 by decide), show 116 + 4 * c + 2 = 118 + 4 * c by omega]
theorem a_ofCard3 {c : Nat} (hc : c < 12) : s_X9_ofCard J m (nI c) 3 = some (J (m + 1) (119 + 4 * c)) := by
  rw [show (3 : Int32) = nI 3 from rfl, a_ofCard hc (show 3 < 4 by decide), show 116 + 4 * c + 3 = 119 + 4 * c by omega]
theorem a_putsCard {c k : Nat} {v : Int32} (hc : c < 12) (hk : k < 4) : s_X9_putsCard J m (nI c) (nI k) v = some (stI J (m + 1) (116 + 4 * c + k) v) := by
  unfold s_X9_putsCard
  simp (disch := omega) only [nI_lit, nI_mul, nI_add, gd_in, cl_nI, lx_s]
theorem a_ofHarness {h k : Nat} (hc : h < 8) (hk : k < 3) : s_X9_ofHarness J m (nI h) (nI k) = some (J (m + 1) (14 + 3 * h + k)) := by
  unfold s_X9_ofHarness
  simp (disch := omega) only [nI_lit, nI_mul, nI_add, gd_in, cl_nI]
theorem a_ofH0 {h : Nat} (hc : h < 8) : s_X9_ofHarness J m (nI h) 0 = some (J (m + 1) (14 + 3 * h)) := a_ofHarness hc (show 0 < 3 by decide)
theorem a_ofH1 {h : Nat} (hc : h < 8) : s_X9_ofHarness J m (nI h) 1 = some (J (m + 1) (15 + 3 * h)) := by
  rw [show (1 : Int32) = nI 1 from rfl, a_ofHarness hc (show 1 < 3 by decide), show 14 + 3 * h + 1 = 15 + 3 * h by omega]
theorem a_ofH2 {h : Nat} (hc : h < 8) : s_X9_ofHarness J m (nI h) 2 = some (J (m + 1) (16 + 3 * h)) := by
  rw [show (2 : Int32) = nI 2 from rfl, a_ofHarness hc (show 2 < 3 by decide), show 14 + 3 * h + 2 = 16 + 3 * h by omega]
theorem a_putsHarness {h k : Nat} {v : Int32} (hc : h < 8) (hk : k < 3) : s_X9_putsHarness J m (nI h) (nI k) v = some (stI J (m + 1) (14 + 3 * h + k) v) := by
  unfold s_X9_putsHarness
  simp (disch := omega) only [nI_lit, nI_mul, nI_add, gd_in, cl_nI, lx_s]
theorem a_putsWarp {w k : Nat} {v : Int32} (hc : w < 24) (hk : k < 3) : s_X9_putsWarp J m (nI w) (nI k) v = some (stI J (m + 1) (38 + 3 * w + k) v) := by
  unfold s_X9_putsWarp
  simp (disch := omega) only [nI_lit, nI_mul, nI_add, gd_in, cl_nI, lx_s]
theorem a_harnessOf {w : Nat} (hw : w < 24) : s_X9_harnessOf J m (nI w) = some (J (m + 1) (38 + 3 * w)) := by
  unfold s_X9_harnessOf
  simp (disch := omega) only [nI_lit, nI_mul, nI_add, gd_in, cl_nI, Nat.add_zero]
theorem a_colourOf {w : Nat} (hw : w < 24) : s_X9_colourOf J m (nI w) = some (J (m + 1) (39 + 3 * w)) := by
  unfold s_X9_colourOf
  simp (disch := omega) only [nI_lit, nI_mul, nI_add, gd_in, cl_nI]
  rw [show 38 + 3 * w + 1 = 39 + 3 * w by omega]
theorem a_breaks {w : Nat} (hw : w < 24) : s_X9_breaks J m (nI w) = some (decide (J (m + 1) (40 + 3 * w) = 1)) := by
  unfold s_X9_breaks
  simp (disch := omega) only [nI_lit, nI_mul, nI_add, gd_in, cl_nI]
  rw [show 38 + 3 * w + 2 = 40 + 3 * w by omega]
  split
  · rename_i q; exact congrArg some (decide_eq_true q).symm
  · rename_i q; exact congrArg some (decide_eq_false q).symm
theorem a_weftOf {r : Nat} (hr : r < 60) : s_X9_weftOf J m (nI r) = some (J (m + 1) (264 + 25 * r)) := by
  unfold s_X9_weftOf
  simp (disch := omega) only [nI_lit, nI_mul, nI_add, gd_in, cl_nI]
theorem a_cellOf {r w : Nat} (hr : r < 60) (hw : w < 24) : s_X9_cellOf J m (nI r) (nI w) = some (J (m + 1) (265 + 25 * r + w)) := by
  unfold s_X9_cellOf
  simp (disch := omega) only [nI_lit, nI_mul, nI_add, gd_in, cl_nI]
  rw [show 264 + 25 * r + 1 + w = 265 + 25 * r + w by omega]
theorem l_warpsOf {c W : Nat} {p : Nat → Bool} (hW : J (m + 1) 2 = nI W) (h24 : W ≤ 24) (hc : c < 12) (hp : ∀ w, w < W → ∃ h, h < 32 ∧ J (m + 1) (38 + 3 * w) = nI h ∧ bt (J (m + 1) (116 + 4 * c)) h = p w) : s_X9_warpsOf J m (nI c) = some (nI (cntB p W)) := by
  unfold s_X9_warpsOf
  have := loopA (fun f a i => s_X9_warpsOf_L4 J m (nI c) f a i) (fun j => nI (cntB p j)) (nI (cntB p W), nI W) 0 W ?_ ?_ lf 0 (Nat.le_refl 0) (Nat.zero_le W) (by unfold lf; omega)
  · rw [show s_X9_warpsOf_L4 J m (nI c) lf 0 0 = some (nI (cntB p W), nI W) from this]; rfl
  · intro f
    show s_X9_warpsOf_L4 J m (nI c) (f + 1) (nI (cntB p W)) (nI W) = _
    rw [s_X9_warpsOf_L4, gd_lit (by decide) (by decide), cl_lit (by decide), hW, if_pos (Int32.le_refl _)]
  · intro f j _ hj
    obtain ⟨h, h1, h2, h3⟩ := hp j hj
    show s_X9_warpsOf_L4 J m (nI c) (f + 1) (nI (cntB p j)) (nI j) = _
    rw [s_X9_warpsOf_L4, gd_lit (by decide) (by decide), cl_lit (by decide), hW, if_neg (nI_ge hj (by omega)), a_ofCard0 hc, bd_some, a_harnessOf (by omega), bd_some, lx_s, h2, mhas_bt h1, h3, one_zb, nI_cnt, nI_1]
end PLACES
