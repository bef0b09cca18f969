/-! rules for the JDK's members that are used; the wide throw; leaf values -/
def atF (f : Nat → Int32) (N : Nat) (i : Int32) : Int32 := if i < 0 ∨ N ≤ i.toNatClampNeg then 0 else f i.toNatClampNeg
def ptI (I : JI) (a N : Nat) (i v : Int32) : JI := if i < 0 ∨ N ≤ i.toNatClampNeg then I else stI I a i.toNatClampNeg v
def hasB (s m : Int32) : Bool := decide (¬ (s >>> (m &&& 31)) &&& 1 = 0)
def cpA (I : JI) (a b n : Nat) : JI := fun x j => if x = b then (if j < n then I a j else I b j) else I x j
def mxF (x y : Int32) : Int32 := if x < y then y else x
def mnF (x y : Int32) : Int32 := if y < x then y else x
def abF (x : Int32) : Int32 := if 0 ≤ x then x else 0 - x
theorem clamp_lt {i : Int32} {N : Nat} (h1 : ¬ i < 0) (h2 : ¬ Int32.ofNat N ≤ i) (hN : N < 2 ^ 31) : i.toNatClampNeg < N := by
  have a1 : ¬ i.toInt < 0 := by rw [Int32.lt_iff_toInt_lt] at h1; simpa using h1
  have a2 : ¬ (N : Int) ≤ i.toInt := by rw [Int32.le_iff_toInt_le] at h2; rw [show (Int32.ofNat N).toInt = (N : Int) from nI_toInt hN] at h2; exact h2
  show i.toInt.toNat < N
  omega
theorem clamp_ge {i : Int32} {N : Nat} (h2 : Int32.ofNat N ≤ i) (hN : N < 2 ^ 31) : N ≤ i.toNatClampNeg := by
  rw [Int32.le_iff_toInt_le, show (Int32.ofNat N).toInt = (N : Int) from nI_toInt hN] at h2
  show N ≤ i.toInt.toNat
  omega
theorem vp_in_c {i : Int32} {N : Nat} (h1 : ¬ i < 0) (h2 : ¬ Int32.ofNat N ≤ i) (hN : N < 2 ^ 31) : vp_in i N := fun q => by
  have h := clamp_lt h1 h2 hN
  rcases q with q | q
  · exact h1 q
  · omega
section LEAF
variable {Ω : JO} {Y Z : JM} {F : JF} {k n k' n' pc pc' : Nat} {lv lv' : List (Nat × Value)} {st rest : List Value} {I : JI} {S : JS} {Q : JQ}
theorem r_mmax {idx : Nat} {x y : Int32} (hd : decode Y.2.1 pc = .ok (.invokestatic idx, 3)) (hw : MW Y.1.cls idx Lib.Math.max.name Lib.Math.max.code 2) (hf : 1 ≤ Y.2.2.2.2.2.frames) (hlo : (rest.map fun v => v.category).sum + 13 ≤ Y.2.2.2.2.2.locals) (hc : k ≤ Y.2.2.2.2.2.cells) (hs : n ≤ Y.2.2.2.2.2.slots) (hp : pc + 3 = pc') (h : AA Ω Y F k n pc' lv (.int (mxF x y) :: rest) I S) : AA Ω Y F k n pc lv (.int y :: .int x :: rest) I S := by
  subst hp
  intro p e s m args below meth c H locs ls C w hS hl
  have hts := C.2.2.2.2.2.1
  exact va_mmax C.1 C.2.1 (C.2.2.1.trans hl.1.symm) C.2.2.2.2.1 (hts _ hw.1) (hts _ hw.2.1) (hts _ hw.2.2.1) (hts _ hw.2.2.2) hf hlo hc hs hd (h p e s m args below meth c H locs ls C w hS hl)
theorem r_mmin {idx : Nat} {x y : Int32} (hd : decode Y.2.1 pc = .ok (.invokestatic idx, 3)) (hw : MW Y.1.cls idx Lib.Math.min.name Lib.Math.min.code 2) (hf : 1 ≤ Y.2.2.2.2.2.frames) (hlo : (rest.map fun v => v.category).sum + 13 ≤ Y.2.2.2.2.2.locals) (hc : k ≤ Y.2.2.2.2.2.cells) (hs : n ≤ Y.2.2.2.2.2.slots) (hp : pc + 3 = pc') (h : AA Ω Y F k n pc' lv (.int (mnF x y) :: rest) I S) : AA Ω Y F k n pc lv (.int y :: .int x :: rest) I S := by
  subst hp
  intro p e s m args below meth c H locs ls C w hS hl
  have hts := C.2.2.2.2.2.1
  exact va_mmin C.1 C.2.1 (C.2.2.1.trans hl.1.symm) C.2.2.2.2.1 (hts _ hw.1) (hts _ hw.2.1) (hts _ hw.2.2.1) (hts _ hw.2.2.2) hf hlo hc hs hd (h p e s m args below meth c H locs ls C w hS hl)
theorem r_mabs {idx : Nat} {x : Int32} (hd : decode Y.2.1 pc = .ok (.invokestatic idx, 3)) (hw : MW Y.1.cls idx Lib.Math.abs.name Lib.Math.abs.code 1) (hf : 1 ≤ Y.2.2.2.2.2.frames) (hlo : (rest.map fun v => v.category).sum + 13 ≤ Y.2.2.2.2.2.locals) (hc : k ≤ Y.2.2.2.2.2.cells) (hs : n ≤ Y.2.2.2.2.2.slots) (hp : pc + 3 = pc') (h : AA Ω Y F k n pc' lv (.int (abF x) :: rest) I S) : AA Ω Y F k n pc lv (.int x :: rest) I S := by
  subst hp
  intro p e s m args below meth c H locs ls C w hS hl
  have hts := C.2.2.2.2.2.1
  exact va_mabs C.1 C.2.1 (C.2.2.1.trans hl.1.symm) C.2.2.2.2.1 (hts _ hw.1) (hts _ hw.2.1) (hts _ hw.2.2.1) (hts _ hw.2.2.2) hf hlo hc hs hd (h p e s m args below meth c H locs ls C w hS hl)
theorem r_arraycopy {idx a0 a n0 : Nat} {sp dp len : Int32} (hd : decode Y.2.1 pc = .ok (.invokestatic idx, 3)) (hw : AW Y.1.cls idx) (hA0 : ArE 11 S a0 n0) (hA : ArE 11 S a n0) (h1 : sp = 0) (h2 : dp = 0) (h3 : ¬ len < 0) (h4 : len.toNatClampNeg ≤ n0) (hf : 1 ≤ Y.2.2.2.2.2.frames) (hlo : (rest.map fun v => v.category).sum + (nativeFrameWords "java/lang/System" "arraycopy" 5 + 11) ≤ Y.2.2.2.2.2.locals) (hp : pc + 3 = pc') (h : AA Ω Y F k n pc' lv rest (cpA I a0 a len.toNatClampNeg) S) : AA Ω Y F k n pc lv (.int len :: .int dp :: .ref a :: .int sp :: .ref a0 :: rest) I S := by
  subst hp
  subst h1
  subst h2
  intro p e s m args below meth c H locs ls C w hS hl
  have hts := C.2.2.2.2.2.1
  obtain ⟨ha0, hk0, hN0, -⟩ := hA0
  obtain ⟨ha, hk, hN, hT⟩ := hA
  obtain ⟨q0, hq0⟩ := va_pl_get (X := []) (f := cellE Ω I S) ha0
  obtain ⟨q1, hq1⟩ := va_pl_get (X := []) (f := cellE Ω I S) ha
  have hq1' := hq1
  rw [show cellE Ω I S a0 = .inl (Ω.2.2.1 1, sN S a0, .inl (I a0)) by simp [cellE, hk0], hN0] at hq0
  rw [show cellE Ω I S a = .inl (Ω.2.2.1 1, sN S a, .inl (I a)) by simp [cellE, hk], hN] at hq1'
  refine va_copyi C.1 C.2.1 (C.2.2.1.trans hl.1.symm) C.2.2.2.2.1 (hts _ hw.1) (hts _ hw.2.1) (hts _ hw.2.2.1) (hts _ hw.2.2.2) C.2.2.2.2.2.2.2.2.2.1 w.1 w.2.1 hS q0 q1 1 1 hq0 hq1' rfl rfl rfl (by decide) (by decide) h3 (by simpa using h4) (by simpa using h4) (fun i _ => rfl) hf hlo hd fun H1 locs1 e1 e2 e3 => ?_
  have hup : ∀ b, va_up (cellE Ω I S) a (.inl (Ω.2.2.1 1, n0, .inl (va_cpy (I a0) (I a) (Int32.toNatClampNeg 0) (Int32.toNatClampNeg 0) len.toNatClampNeg))) b = cellE Ω (cpA I a0 a len.toNatClampNeg) S b := by
    intro b
    by_cases hb : b = a
    · subst hb
      rw [va_up_self]
      simp only [cellE, hk, hN]
      congr 3
      refine congrArg Sum.inl (funext fun j => ?_)
      simp [va_cpy, cpA]
    · rw [va_up_ne _ _ hb]
      exact cellE_cI (by funext j; simp [cpA, hb])
  rw [va_pl_set w.2.1 ha hq1, va_pl_congr hup] at e1 e2
  exact h p e s m args below meth c H1 locs1 ls C ⟨e1, e2, fun z hz => absurd (hT.symm.trans hz) (by simp)⟩ e3 hl
theorem r_throwW {ik is ic : Nat} {cls text : String} {rest : List Value} (d0 : decode Y.2.1 pc = .ok (.new ik, 3)) (d3 : decode Y.2.1 (pc + 3) = .ok (.dup, 1)) (d4 : decode Y.2.1 (pc + 4) = .ok (.ldc_w is, 3)) (d7 : decode Y.2.1 (pc + 7) = .ok (.invokespecial ic, 3)) (d10 : decode Y.2.1 (pc + 10) = .ok (.athrow, 1)) (ht : TH Y.1.cls ik is ic cls text) (hh : Y.2.2.2.2.1 = []) (hf : 5 < Y.2.2.2.2.2.frames) (hlo : (rest.map fun v => v.category).sum + 82 ≤ Y.2.2.2.2.2.locals) (hc : k + 1 ≤ Y.2.2.2.2.2.cells) (hs : n + 6 ≤ Y.2.2.2.2.2.slots) (hT : sT S = none) (h : Q (.inr cls) I S) : AA Ω Y (FQ Ω Y Q) k n pc lv rest I S := by
  intro p e s m args below meth c H locs ls C w hS hl
  obtain ⟨t1, t2, t3, t4, t5, t6, t7⟩ := ht
  have hev := C.2.2.2.2.2.2.2.2.2
  have hts := C.2.2.2.2.2.1
  have hstr := (hev.2.2.2.2.2.2.1 _ _ _ t3).1
  refine vx_throwSW C.1 C.2.1 hev.2.2.2.2.2.2.2.2.2.1 C.2.2.2.2.1 t6 t7 (hts _ t1) (hts _ t2) hstr (fun w hw => ?_) t5 hev.2.1 hev.2.2.1 hS (hl.1.trans C.2.2.1.symm) d0 d3 d4 d7 d10 (fun x hx => ?_) (by simpa using hf) (by simpa using hlo) hc hs C.2.2.2.2.2.2.1 (fun t hal hz hq => ⟨⟨I, S, h, ?_, w.2.1, fun z hz => absurd (hT.symm.trans hz) (by simp)⟩, ?_, ?_⟩) hS.2.2 hc hs
  · rcases t4 w hw with h1 | ⟨h1, h2⟩
    · exact hts _ h1
    · cases w with
      | castable a b => exact va_Nw.use rfl (hev.2.2.2.2.1.1 a b h1)
      | declares y => exact va_Nw.use rfl (hev.2.2.2.2.1.2 y h1)
      | _ => exact absurd h2 Bool.false_ne_true
  · rw [C.2.2.2.2.2.2.2.2.1, hh] at hx
    cases hx
  · exact w.1.kept fun k9 q9 hk9 => hq _ (w.1 k9 q9 hk9).lt
  · exact Nat.le_trans hS.1 hz
  · intro q h1 h2
    rw [hq q (Nat.lt_of_lt_of_le h1 hS.1)]
    exact hS.2.1 q h1 h2
theorem r_iushr {x y : Int32} (hd : decode Y.2.1 pc = .ok (.iushr, 1)) (hp : pc + 1 = pc') (h : AA Ω Y F k n pc' lv (.int ((x.toUInt32 >>> (y.toUInt32 &&& Int32.toUInt32 31)).toInt32) :: st) I S) : AA Ω Y F k n pc lv (.int y :: .int x :: st) I S := by
  subst hp
  exact fun p e s m args below meth c H locs ls C w hS hl => lv_iushr C.1 C.2.1 hd rfl (h p e s m args below meth c H locs ls C w hS hl)
theorem r_ldcw {idx : Nat} {v : Int32} (hd : decode Y.2.1 pc = .ok (.ldc_w idx, 3)) (hc : Cond.constant Y.1.cls idx v ∈ gTbl) (hp : pc + 3 = pc') (h : AA Ω Y F k n pc' lv (.int v :: st) I S) : AA Ω Y F k n pc lv st I S := by
  subst hp
  exact fun p e s m args below meth c H locs ls C w hS hl => lv_ldcw C.1 C.2.1 C.2.2.2.2.1 (C.2.2.2.2.2.1 _ hc) hd (h p e s m args below meth c H locs ls C w hS hl)

theorem aa_lv (h : lv = lv') (g : AA Ω Y F k n pc lv' st I S) : AA Ω Y F k n pc lv st I S := h ▸ g
theorem aa_I {I' : JI} (h : I = I') (g : AA Ω Y F k n pc lv st I' S) : AA Ω Y F k n pc lv st I S := h ▸ g
theorem cl_le {B : Int32} {j : Nat} (h : j ≤ B.toNatClampNeg) : (B ≤ nI j) ↔ j = B.toNatClampNeg := by
  have hb : B.toInt.toNat = B.toNatClampNeg := rfl
  have hB : B.toInt < 2 ^ 31 := Int32.toInt_lt B
  have hj : j < 2 ^ 31 := by omega
  rw [Int32.le_iff_toInt_le, nI_toInt hj]
  omega
theorem cl_lt {B : Int32} {j : Nat} (h : j ≤ B.toNatClampNeg) : (nI j < B) ↔ j < B.toNatClampNeg := by
  have hb : B.toInt.toNat = B.toNatClampNeg := rfl
  have hB : B.toInt < 2 ^ 31 := Int32.toInt_lt B
  have hj : j < 2 ^ 31 := by omega
  rw [Int32.lt_iff_toInt_lt, nI_toInt hj]
  omega
end LEAF
