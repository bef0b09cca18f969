/-! the law's rules: calls of methods with a table, catches, the dependence of the relation -/
theorem n64_nat {a b : Nat} (ha : a ≤ 96) (hb0 : 0 < b) (hb : b ≤ 96) : (FP.ddiv (FP.i2d (nI a)) (FP.i2d (nI b))).toNat ≤ 9218868437227405312 := by
  have h1 := i2d_fin ⟨a, by omega⟩
  have h2 := i2d_fin ⟨b, by omega⟩
  have hE : ∀ num den e, Jvm.FP.Core.encode Jvm.FP.Core.b64 (Jvm.FP.Core.roundRatio Jvm.FP.Core.b64 false num den e) ≤ 2047 * 4503599627370496 := fun num den e => enc_rr Jvm.FP.Core.b64 2046 4503599627370496 0 (by decide +kernel) (by decide) (by decide +kernel) (by decide +kernel) (by decide +kernel) num den e
  show (Jvm.FP.Core.ddiv (FP.i2d (nI a)) (FP.i2d (nI b))).toNat ≤ _
  unfold Jvm.FP.Core.ddiv Jvm.FP.Core.div
  generalize hx : Jvm.FP.Core.decode Jvm.FP.Core.b64 (FP.i2d (nI a)).toNat = x at h1
  generalize hy : Jvm.FP.Core.decode Jvm.FP.Core.b64 (FP.i2d (nI b)).toNat = y at h2
  dsimp only at h1 h2
  cases x with
  | nan => cases h1
  | inf s => cases h1
  | fin s c q =>
    cases y with
    | nan => cases h2
    | inf s => cases h2
    | fin t d r =>
      simp [finN] at h1 h2
      obtain ⟨h1a, -⟩ := h1
      obtain ⟨h2a, h2b⟩ := h2
      subst h1a h2a
      have hd : ¬ d = 0 := by
        rcases h2b with h | h
        · omega
        · exact h
      have := hE c d (q - r)
      rw [show Jvm.FP.Core.quotient Jvm.FP.Core.b64 (.fin false c q) (.fin false d r) = Jvm.FP.Core.roundRatio Jvm.FP.Core.b64 false c d (q - r) from by
        show (if d = 0 then _ else _) = _
        rw [if_neg hd]; rfl]
      generalize Jvm.FP.Core.encode Jvm.FP.Core.b64 (Jvm.FP.Core.roundRatio Jvm.FP.Core.b64 false c d (q - r)) = N at this
      rw [show (UInt64.ofNat N).toNat = N from UInt64.toNat_ofNat_of_lt (by show N < 2 ^ 64; omega)]
      omega
theorem q_avg2 {I J : JI} {c L m P : Nat} (h : RR I J c L m) : ∀ v I', s_X8_averageLifts I c L P = some (.inl v, I') → v.toNat ≤ 9218868437227405312 := by
  intro v I' hv
  rcases rq_look (P := P) h with ⟨e1, e2⟩ | ⟨H, W, C, P', R, hl, hk, e1, e2⟩
  · unfold s_X8_averageLifts at hv
    rw [e1, bx_r] at hv
    cases hv
  · obtain ⟨⟨g0, g2, g3, g4, g5⟩, b1, b2, b3, b4, b5, b6⟩ := hk.g
    obtain ⟨c0, c4, c7, c3, cs⟩ := hk.c
    unfold s_X8_averageLifts at hv
    rw [e1, bx_l] at hv
    simp only [c7] at hv
    by_cases q : C = 0
    · subst q
      rw [if_neg (by decide)] at hv
      cases hv
      decide
    · rw [if_pos (nI_p0 (by omega) (by omega))] at hv
      have hc : s_X8_averageLifts_L22 I c L P (nI C) lf 0 0 = some (alF (I (L + 10 + 3)) C, nI C) := by
        refine loopA (fun f a i => s_X8_averageLifts_L22 I c L P (nI C) f a i) (fun j => alF (I (L + 10 + 3)) j) _ 0 C (fun f => ?_) (fun f j hj1 hj => ?_) lf 0 (Nat.le_refl 0) (Nat.zero_le C) (by unfold lf; omega)
        · show s_X8_averageLifts_L22 I c L P (nI C) (f + 1) (alF (I (L + 10 + 3)) C) (nI C) = _
          rw [s_X8_averageLifts_L22, if_pos (Int32.le_refl _)]
        · show s_X8_averageLifts_L22 I c L P (nI C) (f + 1) (alF (I (L + 10 + 3)) j) (nI j) = _
          rw [s_X8_averageLifts_L22, if_neg (nI_ge hj (by omega)), lx_s, nI_1]
          rfl
      obtain ⟨z, z1, z2⟩ := alF_sum hk C (Nat.le_refl C)
      rw [hc, bd_some] at hv
      dsimp only at hv
      rw [z2, gd_i (n64_div (by omega) (by omega) (by omega))] at hv
      cases hv
      exact n64_nat (by omega) (by omega) (by omega)
theorem RR_dep {I J I' J' : JI} {c L m : Nat} (h : RR I J c L m) (hL : L = c + 4 ∨ L = c + 104) (hI : ∀ z, c ≤ z → z < c + 128 → I' z = I z) (hJ : ∀ z, m ≤ z → z < m + 11 → J' z = J z) : RR I' J' c L m := by
  obtain ⟨h1, h2, h3, h4⟩ := h
  have hKR : ∀ {s : Nat} {f : Nat → Int32} {H W C P R : Nat}, c + 4 ≤ s → s + 7 ≤ c + 128 → KR I L s f H W C P R → KR I' L s f H W C P R := fun a b k => KR_dep k (fun z z1 z2 => hI z (by omega) (by omega)) (fun z z1 z2 => hI z (by omega) (by omega))
  have hRP : ∀ {f : Nat → Int32}, RPart I (L + 5) f → RPart I' (L + 5) f := fun k => RPart_dep k (hI _ (by omega) (by omega)) (hI _ (by omega) (by omega))
  have j0 := hJ m (by omega) (by omega)
  refine ⟨?_, ?_, ?_, ?_⟩
  · unfold RIn at *
    rw [hI (c + 2) (by omega) (by omega), hI (c + 3) (by omega) (by omega), j0, hJ (m + 6) (by omega) (by omega)]
    exact h1
  · unfold ROut at *
    rw [hI (c + 28) (by omega) (by omega), hI (c + 29) (by omega) (by omega), j0, hJ (m + 10) (by omega) (by omega)]
    exact h2
  · unfold RErr at *
    rw [hI (c + 1) (by omega) (by omega), j0]
    exact h3
  · rcases h4 with h4 | ⟨H, W, C, P, R, k1, k2, k3, k4, k5, k6, k7⟩
    · left
      unfold RNl at *
      rw [hI c (by omega) (by omega), hI (c + 30) (by omega) (by omega), hI (c + 88) (by omega) (by omega), hI (c + 96) (by omega) (by omega), j0, hJ (m + 5) (by omega) (by omega)]
      exact h4
    · right
      refine ⟨H, W, C, P, R, ?_, ?_, k3, ?_, ?_, ?_, ?_⟩
      · rw [hI c (by omega) (by omega), j0]; exact k1
      · rw [hJ (m + 1) (by omega) (by omega)]
        exact hKR (by omega) (by omega) k2
      · rw [hJ (m + 1) (by omega) (by omega)]
        exact hRP k4
      · obtain ⟨u, x, q1, q2, q3, q4, q5, q6⟩ := k5
        refine ⟨u, x, q1, q2, ?_, ?_, ?_, fun i hi => ?_⟩
        · rw [hI (c + 30) (by omega) (by omega)]; exact q3
        · rw [hI (c + 30) (by omega) (by omega)]; exact q4
        · rw [j0]; exact q5
        · obtain ⟨w1, R', w2⟩ := q6 i hi
          rw [hJ (m + 3) (by omega) (by omega)]
          have hr : (x + 8 - u + i) % 8 < 8 := Nat.mod_lt _ (by decide)
          exact ⟨hRP w1, R', hKR (by unfold ringS; omega) (by unfold ringS; omega) w2⟩
      · obtain ⟨b, q1, q2, q3⟩ := k6
        refine ⟨b, ?_, ?_, fun hb => ?_⟩
        · rw [hI (c + 88) (by omega) (by omega)]; exact q1
        · rw [hJ (m + 5) (by omega) (by omega)]; exact q2
        · obtain ⟨w1, R', w2⟩ := q3 hb
          rw [hJ (m + 4) (by omega) (by omega)]
          exact ⟨hRP w1, R', hKR (by omega) (by omega) w2⟩
      · obtain ⟨b, q1, q2, q3⟩ := k7
        refine ⟨b, ?_, ?_, fun hb => ?_⟩
        · rw [hI (c + 96) (by omega) (by omega)]; exact q1
        · rw [hJ (m + 5) (by omega) (by omega)]; exact q2
        · obtain ⟨w1, R', w2⟩ := q3 hb
          rw [hJ (m + 4) (by omega) (by omega)]
          exact ⟨hRP w1, R', hKR (by omega) (by omega) w2⟩
/-- a call of Y, that has a table of its own -/
def CallH (Ω : JO) (Y : JM) (As : List Value) (I : JI) (S : JS) (Q : JQ) : Prop :=
  vx_Met Ω.1 Y.1 (.codeWith Y.1 Y.2.1 Y.2.2.1 Y.2.2.2.1 Y.2.2.2.2.1 :: gTbl) Y.2.2.2.2.2 (PcJ Ω I S As) (QcJ Ω Q) (XCJ Ω Q) Y.2.2.2.2.2.cells Y.2.2.2.2.2.slots (AR Ω)
def SBH (Z : JM) (nn : Nat) : Prop := Cond.codeWith Z.1 Z.2.1 Z.2.2.1 Z.2.2.2.1 Z.2.2.2.2.1 ∈ gTbl ∧ Cond.initialized Z.1.cls ∈ gTbl ∧ (Z.1.cls ≠ "java/lang/invoke/MethodHandle" ∧ Z.1.cls ≠ "java/lang/invoke/VarHandle") ∧ (parseMethodDescriptor Z.1.desc).map (fun d => d.parameters.length) = some nn
section LAWR
variable {Ω : JO} {Y Z : JM} {F : JF} {k n k' n' pc pc' : Nat} {lv lv' : List (Nat × Value)} {st : List Value} {I : JI} {S : JS} {Q : JQ}
theorem call_ofH {As : List Value} (hpl : plainName Y.1.cls = true) (hlen : (lg_sl As).length ≤ Y.2.2.1) (h : AA Ω Y (FQ Ω Y Q) 0 0 0 (lv_args 0 As) [] I S) : CallH Ω Y As I S Q := by
  refine vx_ofWH (cc := Y.2.1) (maxL := Y.2.2.1) (ret := Y.2.2.2.1) (hh := Y.2.2.2.2.1) hpl rfl ?_
  intro p e s m args below meth c s₁ B hml hv
  obtain ⟨rfl, hw, hev⟩ := hv
  have hts := atoms_spec (ws := Cond.codeWith Y.1 Y.2.1 Y.2.2.1 Y.2.2.2.1 Y.2.2.2.2.1 :: gTbl) B.pre
  rw [lg_entry_eq]
  exact h p e s m As.toArray below meth c s.heap [] _ ⟨B.exec, B.bytes, hml, B.returns, findClass_of_methodNamed B.named, fun w hw => hts w (List.mem_cons_of_mem _ hw), B.notSynchronized, (name_of_methodNamed B.named B.method).1, vx_table (x := Y.1) B (hts _ List.mem_cons_self), hev⟩ hw va_S.rf (lv_entry As hlen)
theorem callSH_g {p : Program} {s : State} {m : MethodId} {args : Array Value} {meth : Method} {c : Code} {idx nn : Nat} (C : Cx Ω Y p s m args meth c) (hb : SBH Z nn) (hs : SS Z) (hl : LK Y.1.cls idx Z) (hro : roomB Y Z k n = true) :
    vx_CSW Y.2.2.2.2.2 s args Y.1.cls idx Z.1 Z.2.1 Z.2.2.1 Z.2.2.2.1 Z.2.2.2.2.1 (.codeWith Z.1 Z.2.1 Z.2.2.1 Z.2.2.2.1 Z.2.2.2.2.1 :: gTbl) Z.2.2.2.2.2 Z.2.2.2.2.2.cells Z.2.2.2.2.2.slots nn := by
  have hts := C.2.2.2.2.2.1
  obtain ⟨h1, h2, h3, -⟩ := roomB_of hro
  refine ⟨⟨rfl, rfl, h1, h2, pay_in hts (goodIn_g fun w hw => ?_), List.mem_cons_self⟩, hts _ hb.1, hts _ hb.2.1, hb.2.2.1, fun sig hs => ?_, hts _ hl, hts _ hs⟩
  · rcases List.mem_cons.mp hw with rfl | hw
    · exact hb.1
    · exact hw
  · have h2 := hb.2.2.2
    rw [hs] at h2
    exact (Option.some.inj h2).symm
theorem r_callSH {idx nn : Nat} {As rest : List Value} (hd : decode Y.2.1 pc = .ok (.invokestatic idx, 3)) (hb : SBH Z nn) (hs : SS Z) (hlk : LK Y.1.cls idx Z) (hAs : As.length = nn) (hst : st = As.reverse ++ rest) (hro : roomB Y Z k n = true) (hk : k + Z.2.2.2.2.2.cells = k') (hn : n + Z.2.2.2.2.2.slots = n') (hrs : (rest.map fun v => v.category).sum ≤ 8) (hp : pc + 3 = pc') (h : CallH Ω Z As I S (CP Ω Y F k' n' pc pc' lv rest)) : AA Ω Y F k n pc lv st I S := by
  subst hst
  intro p e s m args below meth c H locs ls C w hS hl
  obtain ⟨r1, r2, r3, r4⟩ := roomB_of hro
  exact aa_run C hS hl hp hk hn (vx_runSX ⟨C.1, C.2.1, C.2.2.1, C.2.2.2.2.1, C.2.2.2.2.2.1⟩ h (callSH_g C hb hs hlk hro) (preS_g C w hS) rfl hAs hl.1 rfl (lv_room hrs) hd ⟨r3, r4⟩) (fun _ _ _ h => h)
theorem ax_catch {E name : String} {hd : Nat × Nat × Nat × Nat} (pre suf : List (Nat × Nat × Nat × Nat)) (hsplit : Y.2.2.2.2.1 = pre ++ hd :: suf) (hpass : ∀ z ∈ pre, z.2.2.2 ≠ 0 ∧ ∃ nm : String, Cond.classLink Y.1.cls z.2.2.2 nm ∈ gTbl ∧ (E, nm) ∈ ncE) (hx : covers ⟨hd.1, hd.2.1, hd.2.2.1, hd.2.2.2⟩ pc = true) (h0 : hd.2.2.2 ≠ 0)
    (hlink : Cond.classLink Y.1.cls hd.2.2.2 name ∈ gTbl) (hcast : Cond.castable E name ∈ lw_tbl) (kk : ∀ q : Nat, AA Ω Y F k n hd.2.2.1 lv [.ref q] I S) : AX Ω Y F k n pc lv st I S E := by
  intro p e s m args below meth c H locs ls q ce C w hS hl hce hcv hcl
  have hev := C.2.2.2.2.2.2.2.2.2
  have hts := C.2.2.2.2.2.1
  refine vx_catch (x := ⟨hd.1, hd.2.1, hd.2.2.1, hd.2.2.2⟩) (own := Y.1.cls) (name := name) C.2.2.2.2.1 (tableOf pre) (suf := tableOf suf) ?_ (fun z hz => Or.inr ?_) hx h0 (hts _ hlink) (va_Nw.use rfl (hev.2.2.2.2.1.1 _ _ hcast)) hce hcv hcl (kk q p e s m args below meth c H locs ls C w hS hl)
  · rw [C.2.2.2.2.2.2.2.2.1, hsplit]
    simp [tableOf]
  · obtain ⟨z0, hz0, rfl⟩ := List.mem_map.mp hz
    obtain ⟨a, nm, b1, b2⟩ := hpass z0 hz0
    exact ⟨a, nm, hts _ b1, hev.2.2.2.2.2.1 _ b2⟩
theorem r_lcmp0 {x : Int64} (hd : decode Y.2.1 pc = .ok (.lcmp, 1)) (hp : pc + 1 = pc') (h : AA Ω Y F k n pc' lv (.int 0 :: st) I S) : AA Ω Y F k n pc lv (.long x :: .long x :: st) I S := by
  subst hp
  intro p e s m args below meth c H locs ls C w hS hl T hT X
  obtain ⟨t, a, b⟩ := h p e s m args below meth c H locs ls C w hS hl T hT X
  refine ⟨t, ?_, b⟩
  have h1 : ¬ x < x := Int64.lt_irrefl
  have hb := C.2.1
  have hexec := C.1
  jvm_step X.here [X.here.top, hexec, hb, hd, h1]
  exact a
theorem r_dcmp0 {x : UInt64} {op : CmpOp} (hd : decode Y.2.1 pc = .ok (.dcmp op, 1)) (hx : x.toNat ≤ 9218868437227405312) (hp : pc + 1 = pc') (h : AA Ω Y F k n pc' lv (.int 0 :: st) I S) : AA Ω Y F k n pc lv (.double x :: .double x :: st) I S := by
  subst hp
  intro p e s m args below meth c H locs ls C w hS hl
  refine lv_dcmp C.1 C.2.1 hd ?_
  rw [dcmp_same hx]
  exact h p e s m args below meth c H locs ls C w hS hl
theorem r_f2d {x : UInt32} (hd : decode Y.2.1 pc = .ok (.f2d, 1)) (hx : x.toNat ≤ 2139095040) (hp : pc + 1 = pc') (h : AA Ω Y F k n pc' lv (.double (FP.f2d x) :: st) I S) : AA Ω Y F k n pc lv (.float x :: st) I S := by
  subst hp
  exact fun p e s m args below meth c H locs ls C w hS hl => lv_f2d C.1 C.2.1 hd (n64_of (f2d_nat hx)) (h p e s m args below meth c H locs ls C w hS hl)
theorem r_fstore {i : Nat} {x : UInt32} (hd : decode Y.2.1 pc = .ok (.fstore i, 2)) (hn : i < Y.2.2.1) (hlv : (i, Value.float x) :: lv.filter (fun q => !(q.1 == i) && !(q.1 + 1 == i && q.2.category == 2)) = lv') (hp : pc + 2 = pc') (h : AA Ω Y F k n pc' lv' st I S) : AA Ω Y F k n pc lv (.float x :: st) I S := by
  subst hp
  exact fun p e s m args below meth c H locs ls C w hS hl => lv_fstore C.1 C.2.1 hd hl hn hlv (fun ls' hl' => h p e s m args below meth c H locs ls' C w hS hl')
theorem r_dstore {i : Nat} {x : UInt64} (hd : decode Y.2.1 pc = .ok (.dstore i, 2)) (hn : i + 1 < Y.2.2.1) (hlv : (i, Value.double x) :: lv.filter (fun q => !(q.1 == i) && (!(q.1 == i + 1) && !(q.1 + 1 == i && q.2.category == 2))) = lv') (hp : pc + 2 = pc') (h : AA Ω Y F k n pc' lv' st I S) : AA Ω Y F k n pc lv (.double x :: st) I S := by
  subst hp
  exact fun p e s m args below meth c H locs ls C w hS hl => lv_dstore C.1 C.2.1 hd hl hn hlv (fun ls' hl' => h p e s m args below meth c H locs ls' C w hS hl')
theorem r_tableIn {dflt lo hi : Int} {offs : Array Int} {len : Nat} {x : Int32} {off : Int} {tgt : Nat} (hd : decode Y.2.1 pc = .ok (.tableswitch dflt lo hi offs, len)) (h1 : ¬ x.toInt < lo) (h2 : ¬ hi < x.toInt) (ho : offs[(x.toInt - lo).toNat]? = some off) (ht : (pc : Int) + off = (tgt : Int)) (h : AA Ω Y F k n tgt lv st I S) : AA Ω Y F k n pc lv (.int x :: st) I S :=
  fun p e s m args below meth c H locs ls C w hS hl => lv_tableIn C.1 C.2.1 hd h1 h2 ho ht (h p e s m args below meth c H locs ls C w hS hl)
end LAWR
