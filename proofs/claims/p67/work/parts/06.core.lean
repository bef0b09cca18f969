/-! THE CORE: an abstract memory (ints, references, longs, doubles by address and place), what of it the heap holds, and a judgement over it with a rule an instruction. -/
abbrev JI : Type := Nat → Nat → Int32
abbrev JS : Type := List Nat × (Nat → Nat) × (Nat → Nat) × (Nat → Nat → Option Nat) × (Nat → Nat → Int64) × (Nat → Nat → UInt64) × Option Nat
abbrev JO : Type := Launch × va_G × (Nat → ClassId) × Nat × (String → Nat → Nat × Nat) × (Nat × Nat × (Nat → Int32)) × Nat × Nat × (Nat → Nat) × Nat × Nat × Nat
abbrev JT : Type := Option Value ⊕ String
abbrev JQ : Type := JT → JI → JS → Prop
abbrev JF : Type := List Frame → Array Value → State → State → Prop
abbrev sL (S : JS) : List Nat := S.1
abbrev sK (S : JS) : Nat → Nat := S.2.1
abbrev sN (S : JS) : Nat → Nat := S.2.2.1
abbrev sR (S : JS) : Nat → Nat → Option Nat := S.2.2.2.1
abbrev sX (S : JS) : Nat → Nat → Int64 := S.2.2.2.2.1
abbrev sY (S : JS) : Nat → Nat → UInt64 := S.2.2.2.2.2.1
abbrev sT (S : JS) : Option Nat := S.2.2.2.2.2.2
def rFd (k : Nat) : List Nat := [[0, 2, 5, 6], [0], [0], [5, 6, 8, 9, 10, 11, 12], [0], [0, 1], [0], [6, 7, 8, 9, 10, 11], [0, 1, 2, 3, 4, 5], [4, 5, 6, 7, 8, 9, 10, 11, 12, 13, 14], [], [], [], [], [], [], [0], [0], [1]].getD k []
def isR (k j : Nat) : Bool := (rFd k).contains j
def fvE (k : Nat) (I : JI) (S : JS) (a j : Nat) : Value := if isR k j = true then va_rf (sR S a j) else .int (I a j)
def flE (k : Nat) (I : JI) (S : JS) (a : Nat) : List Value := (List.range (nFd k)).map (fvE k I S a)
def cellE (Ω : JO) (I : JI) (S : JS) (a : Nat) : va_E :=
  if oK (sK S a) then .inr (sK S a, flE (sK S a) I S a)
  else if sK S a = 10 then .inl (Ω.2.2.1 0, sN S a, .inl (I a))
  else if sK S a = 11 then .inl (Ω.2.2.1 1, sN S a, .inl (I a))
  else if sK S a = 12 then .inl (Ω.2.2.1 2, sN S a, .inl (I a))
  else if sK S a = 13 then .inl (Ω.2.2.1 3, sN S a, .inr (.inr (.inr (.inr (sR S a)))))
  else if sK S a = 14 then .inl (Ω.2.2.1 4, sN S a, .inr (.inl (sX S a)))
  else if sK S a = 19 then .inl (Ω.2.2.1 6, sN S a, .inr (.inr (.inr (.inr (sR S a)))))
  else if sK S a = 20 then .inl (Ω.2.2.1 7, sN S a, .inr (.inr (.inr (.inr (sR S a)))))
  else .inl (Ω.2.2.1 5, sN S a, .inr (.inr (.inr (.inl (sY S a)))))
def tysE (Ω : JO) : List (ClassId × FieldType) := [(Ω.2.2.1 0, .byte), (Ω.2.2.1 1, .int), (Ω.2.2.1 2, .boolean), (Ω.2.2.1 3, .object RX7), (Ω.2.2.1 4, .long), (Ω.2.2.1 6, .object "java/lang/Object"), (Ω.2.2.1 7, .array .int)]
def AR (Ω : JO) : Nat → Prop := fun q => Ω.2.2.2.1 ≤ q
def Wd (Ω : JO) (I : JI) (S : JS) (H : Heap) : Prop := va_P Ω.2.1 vwCl ([] ++ va_pl (sL S) (cellE Ω I S)) H ∧ va_D (AR Ω) ([] ++ va_pl (sL S) (cellE Ω I S)) ∧ ∀ z, sT S = some z → H.size = z
def chE (tx : String) (j : Nat) : Int32 := Int32.ofNat (tx.toList.getD j ' ').toNat
def StrE (Ω : JO) (U : State) (H : Heap) : Prop := ∀ (own : String) (k : Nat) (tx : String), Cond.stringRef own k tx ∈ lw_tbl → vk_R own k tx (Ω.2.2.2.2.1 own k).1 U ∧ va_O "java/lang/String" (Ω.2.2.2.2.1 own k).1 (AR Ω) U H ∧ va_OF "java/lang/String" "coder" "B" (.int 0) (Ω.2.2.2.2.1 own k).1 (AR Ω) U H ∧ va_OF "java/lang/String" "value" "[B" (.ref (Ω.2.2.2.2.1 own k).2) (Ω.2.2.2.2.1 own k).1 (AR Ω) U H ∧ va_T .byte (Ω.2.2.2.2.1 own k).2 tx.toList.length (fun j => .int (chE tx j)) (AR Ω) U H
def ncE : List (String × String) := []
def va_AOA (t : FieldType) (U : State) : Prop := (Cond.arrayOver (.array t)).before #[] U = true
theorem va_AOA.moved {t : FieldType} {u U : State} (hvm : u.vm.Alike U.vm) (h : va_AOA t u) : va_AOA t U := by
  obtain ⟨comp, c, k, h1, h2, h3, h4, h5⟩ := arrayOverA_spec h
  obtain ⟨k', hk', he⟩ := hvm.2.2 _ _ h3
  have hi : (U.vm.classes.findIdx? fun (x : Class) => match x.kind with | .array component _ => component == comp | _ => false) = some c := by
    rw [hvm.findIdx?_eq _ (fun _ => rfl)]; exact h2
  have hkind : k'.kind = .array comp (.array t) := by rw [he]; exact h4
  have f1 : U.vm.findClass (FieldType.array t).toString = some comp := by rw [hvm.findClass]; exact h1
  have f2 : U.vm.findClass ("[" ++ (FieldType.array t).toString) = some c := by rw [hvm.findClass]; exact h5
  unfold va_AOA Cond.before Cond.holds
  simp only [Cond.value]
  rw [f1, Option.bind_some]
  refine (congrArg (fun o : Option Nat => (o.bind (fun c => (U.vm.classes[c]?).map fun (k : Class) => match k.kind with | .array _ ty => decide (ty = FieldType.array t) && decide (U.vm.findClass ("[" ++ (FieldType.array t).toString) = some c) | _ => false) == some true)) hi).trans ?_
  simp [hk', hkind, f2]
abbrev oS (Ω : JO) : Nat × Nat × (Nat → Int32) := Ω.2.2.2.2.2.1
abbrev oE (Ω : JO) : Nat := Ω.2.2.2.2.2.2.1
abbrev oC (Ω : JO) : Nat := Ω.2.2.2.2.2.2.2.1
abbrev oB (Ω : JO) : Nat → Nat := Ω.2.2.2.2.2.2.2.2.1
abbrev oU (Ω : JO) : Nat := Ω.2.2.2.2.2.2.2.2.2.1
abbrev oD1 (Ω : JO) : Nat := Ω.2.2.2.2.2.2.2.2.2.2.1
abbrev oD2 (Ω : JO) : Nat := Ω.2.2.2.2.2.2.2.2.2.2.2
/-- what else the start gives: the script, the empty row of lists, the boxes, the numbers of the raw reads -/
def EvX (Ω : JO) (U : State) (H : Heap) : Prop := va_T .int (oS Ω).1 (oS Ω).2.1 (fun j => .int ((oS Ω).2.2 j)) (AR Ω) U H ∧ (va_Z "java/util/ArrayList" "DEFAULTCAPACITY_EMPTY_ELEMENTDATA" "[Ljava/lang/Object;" (.ref (oE Ω)) (AR Ω) U H ∧ va_T (.object "java/lang/Object") (oE Ω) 0 (fun _ => .null) (AR Ω) U H) ∧ (va_Z "java/lang/Integer$IntegerCache" "high" "I" (.int 127) (AR Ω) U H ∧ va_Z "java/lang/Integer$IntegerCache" "cache" "[Ljava/lang/Integer;" (.ref (oC Ω)) (AR Ω) U H ∧ va_T (.object "java/lang/Integer") (oC Ω) 256 (fun j => .ref (oB Ω j)) (AR Ω) U H ∧ vb_C (oB Ω) (AR Ω) U H) ∧ (va_Z "jdk/internal/misc/Unsafe" "ARRAY_LONG_BASE_OFFSET" "I" (.int 16) (AR Ω) U H ∧ va_Z "jdk/internal/util/ArraysSupport" "LOG2_ARRAY_LONG_INDEX_SCALE" "I" (.int 3) (AR Ω) U H ∧ va_Z "jdk/internal/util/ArraysSupport" "LOG2_ARRAY_INT_INDEX_SCALE" "I" (.int 2) (AR Ω) U H ∧ va_Z "jdk/internal/util/ArraysSupport" "U" "Ljdk/internal/misc/Unsafe;" (.ref (oU Ω)) (AR Ω) U H ∧ va_O "jdk/internal/misc/Unsafe" (oU Ω) (AR Ω) U H) ∧ (∀ (a : String) (i : Nat) (r n d h : String), Cond.fieldLinkNest a i r n d h ∈ lw_tbl → va_Nw (.fieldLinkNest a i r n d h) U) ∧ va_AO "java/lang/Object" U ∧ va_AOA .int U ∧ va_Fw "java/lang/String" ⟨"java/lang/CharSequence", "length", "()I"⟩ ⟨"java/lang/String", "length", "()I"⟩ U ∧ va_Fw "java/lang/String" ⟨"java/lang/CharSequence", "charAt", "(I)C"⟩ ⟨"java/lang/String", "charAt", "(I)C"⟩ U ∧ (va_Z "java/lang/Integer" "DigitOnes" "[B" (.ref (oD1 Ω)) (AR Ω) U H ∧ va_T .byte (oD1 Ω) 100 (fun j => .int (nI (48 + j % 10))) (AR Ω) U H) ∧ va_Z "java/lang/Integer" "DigitTens" "[B" (.ref (oD2 Ω)) (AR Ω) U H ∧ va_T .byte (oD2 Ω) 100 (fun j => .int (nI (48 + j / 10))) (AR Ω) U H
theorem EvX.go {Ω : JO} {u U : State} (hW : u.WarmedH U.vm) {H H1 : Heap} (h : EvX Ω u H) (hq : ∀ a : Nat, a < H.size → ¬ AR Ω a → H1[a]? = H[a]?) : EvX Ω U H1 := by
  obtain ⟨h1, ⟨h2, h3⟩, ⟨h4, h5, h6, h7⟩, ⟨h8, h9, h10, h11, h12⟩, h13, h14, h15, h16, h17, ⟨h18, h19⟩, h20, h21⟩ := h
  exact ⟨va_T.moved hW.alike (h1.kept hq), ⟨(h2.kept hq).moved hW.alike, va_T.moved hW.alike (h3.kept hq)⟩, ⟨(h4.kept hq).moved hW.alike, (h5.kept hq).moved hW.alike, va_T.moved hW.alike (h6.kept hq), (h7.kept hq).moved hW.alike⟩, ⟨(h8.kept hq).moved hW.alike, (h9.kept hq).moved hW.alike, (h10.kept hq).moved hW.alike, (h11.kept hq).moved hW.alike, (h12.kept hq).moved hW.alike⟩, fun a i r n d x hw => va_Nw.warmF hW (h13 a i r n d x hw), h14.moved hW.alike, va_AOA.moved hW.alike h15, va_Fw.moved (by decide) hW.alike h16, va_Fw.moved (by decide) hW.alike h17, ⟨(h18.kept hq).moved hW.alike, va_T.moved hW.alike (h19.kept hq)⟩, (h20.kept hq).moved hW.alike, va_T.moved hW.alike (h21.kept hq)⟩
def Ev (Ω : JO) (U : State) (H : Heap) : Prop := va_K Ω.2.1 vwCl (tysE Ω) U ∧ vx_Zq Bundle.tN "UNASSIGNED_STACK" Bundle.steD (AR Ω) U H ∧ vx_Zq Bundle.tN "SUPPRESSED_SENTINEL" Bundle.listD (AR Ω) U H ∧ (∀ (a : String) (i : Nat) (x : MethodName) (h : String), Cond.methodLinkNest a i x h ∈ lw_tbl → va_Nw (.methodLinkNest a i x h) U) ∧ ((∀ a b : String, Cond.castable a b ∈ lw_tbl → va_Nw (.castable a b) U) ∧ ∀ y : MethodName, Cond.declares y ∈ lw_tbl → va_Nw (.declares y) U) ∧ (∀ q ∈ ncE, va_Nc q.1 q.2 U) ∧ StrE Ω U H ∧ (va_AO RX7 U ∧ EvX Ω U H) ∧ Ω.2.2.2.1 ≤ H.size ∧ Ω.1.stackTraces = false ∧ va_Z "java/lang/String" "COMPACT_STRINGS" "Z" (.int 1) (AR Ω) U H ∧ va_Zq "jdk/internal/util/Preconditions" "SIOOBE_FORMATTER" "Ljava/util/function/BiFunction;" (AR Ω) U H
theorem Ev.go {Ω : JO} {u U : State} (hW : u.WarmedH U.vm) {H H1 : Heap} (h : Ev Ω u H) (hle : H.size ≤ H1.size) (hq : ∀ a : Nat, a < H.size → ¬ AR Ω a → H1[a]? = H[a]?) : Ev Ω U H1 := by
  obtain ⟨h1, h2, h3, h4, h5, h6, h7, h8, h9, h10, h11, h12⟩ := h
  refine ⟨h1.moved hW.alike, (h2.kept hq).moved hW.alike, (h3.kept hq).moved hW.alike, fun a i x y hw => va_Nw.warmM hW (h4 a i x y hw), ⟨fun a b hw => va_Nw.warmC hW (h5.1 a b hw), fun y hw => va_Nw.warmD hW (h5.2 y hw)⟩, fun q hm => (h6 q hm).moved hW.alike, fun own k tx hw => ?_, ⟨h8.1.moved hW.alike, h8.2.go hW hq⟩, Nat.le_trans h9 hle, h10, (h11.kept hq).moved hW.alike, (h12.kept hq).moved hW.alike⟩
  obtain ⟨g1, g2, g3, g4, g5⟩ := h7 own k tx hw
  exact ⟨g1.warm hW, (g2.kept hq).moved hW.alike, (g3.kept hq).moved hW.alike, (g4.kept hq).moved hW.alike, va_T.moved hW.alike (g5.kept hq)⟩
/-- what a method's body knows: the machine, its code, the tables' words, its classes -/
def Cx (Ω : JO) (Y : JM) (p : Program) (s : State) (m : MethodId) (args : Array Value) (meth : Method) (c : Code) : Prop :=
  p.tables.exec = Jvm.exec ∧ c.code = Y.2.1 ∧ c.maxLocals = Y.2.2.1 ∧ meth.sig.returnType = Y.2.2.2.1 ∧ s.vm.findClass Y.1.cls = some m.cls ∧ (∀ w ∈ gTbl, w.before args s = true) ∧ meth.locks = false ∧ meth.name = Y.1.name ∧ c.exceptionTable.toList = tableOf Y.2.2.2.2.1 ∧ Ev Ω s s.heap
def AA (Ω : JO) (Y : JM) (F : JF) (k n pc : Nat) (lv : List (Nat × Value)) (st : List Value) (I : JI) (S : JS) : Prop :=
  ∀ (p : Program) (e : Env) (s : State) (m : MethodId) (args : Array Value) (below : List Frame) (meth : Method) (c : Code) (H : Heap) (locs : List Loc) (ls : Array Slot),
    Cx Ω Y p s m args meth c → Wd Ω I S H → va_S (AR Ω) s.heap H locs → lv_has ls Y.2.2.1 lv → W p Ω.1 e Y.2.2.2.2.2 s m args below meth c H locs k n (F below args s) (F0 m pc ls st)
/-- the same with an exception of class E thrown over it -/
def AX (Ω : JO) (Y : JM) (F : JF) (k n pc : Nat) (lv : List (Nat × Value)) (st : List Value) (I : JI) (S : JS) (E : String) : Prop :=
  ∀ (p : Program) (e : Env) (s : State) (m : MethodId) (args : Array Value) (below : List Frame) (meth : Method) (c : Code) (H : Heap) (locs : List Loc) (ls : Array Slot) (q : Addr) (ce : Cell),
    Cx Ω Y p s m args meth c → Wd Ω I S H → va_S (AR Ω) s.heap H locs → lv_has ls Y.2.2.1 lv → H[q]? = some ce → ce.vm = .none → s.vm.findClass E = some ce.cls → vx_W p Ω.1 e Y.2.2.2.2.2 s m args below meth c H locs k n (F below args s) (F0 m pc ls st) q
def QcJ (Ω : JO) (Q : JQ) : Array Value → State → Outcome → State → Prop := fun _ st o t => (∃ (r : Option Value) (I : JI) (S : JS), o = .returned r ∧ Q (.inl r) I S ∧ Wd Ω I S t.heap) ∧ va_F (AR Ω) st t
def XCJ (Ω : JO) (Q : JQ) : String → State → State → Prop := fun E st t => (∃ (I : JI) (S : JS), Q (.inr E) I S ∧ Wd Ω I S t.heap) ∧ va_F (AR Ω) st t
def FQ (Ω : JO) (Y : JM) (Q : JQ) : JF := fun below args s => vx_MQ below (QcJ Ω Q) (XCJ Ω Q) args s Y.2.2.2.2.2.cells Y.2.2.2.2.2.slots (AR Ω)
def PcJ (Ω : JO) (I : JI) (S : JS) (As : List Value) : Array Value → State → Prop := va_Pc As (fun U => Wd Ω I S U.heap ∧ Ev Ω U U.heap)
/-- a call of Y at As over I, S comes to an end with Q -/
def Call (Ω : JO) (Y : JM) (As : List Value) (I : JI) (S : JS) (Q : JQ) : Prop :=
  vx_Met Ω.1 Y.1 (.code Y.1 Y.2.1 Y.2.2.1 Y.2.2.2.1 :: gTbl) Y.2.2.2.2.2 (PcJ Ω I S As) (QcJ Ω Q) (XCJ Ω Q) Y.2.2.2.2.2.cells Y.2.2.2.2.2.slots (AR Ω)
theorem va_SF {Ω : JO} {s t : State} {H : Heap} {locs : List Loc} (h : va_S (AR Ω) s.heap H locs) (ht : t.heap = H) : va_F (AR Ω) s t := h.F ht
section CORE
variable {Ω : JO} {Y : JM} {F : JF} {k n pc pc' : Nat} {lv lv' : List (Nat × Value)} {st : List Value} {I : JI} {S : JS}
theorem aa_pc (h : pc = pc') (g : AA Ω Y F k n pc' lv st I S) : AA Ω Y F k n pc lv st I S := h ▸ g
theorem aa_locs {ks : List Nat} (hs : lv_pick lv ks = lv') (g : AA Ω Y F k n pc lv' st I S) : AA Ω Y F k n pc lv st I S := fun p e s m args below meth c H locs ls C w hS hl => g p e s m args below meth c H locs ls C w hS (lv_sub hl ks hs)
theorem aa_widen {k' n' : Nat} (h1 : k ≤ k') (h2 : n ≤ n') (g : AA Ω Y F k' n' pc lv st I S) : AA Ω Y F k n pc lv st I S := fun p e s m args below meth c H locs ls C w hS hl => W.widen h1 h2 (g p e s m args below meth c H locs ls C w hS hl)
def lset (lv : List (Nat × Value)) (i : Nat) (v : Value) : List (Nat × Value) := (i, v) :: lv.filter (fun q => !(q.1 == i) && !(q.1 + 1 == i && q.2.category == 2))

theorem r_iconst {i : Int} {v : Int32} (hd : decode Y.2.1 pc = .ok (.iconst i, 1)) (hv : Int32.ofInt i = v) (hp : pc + 1 = pc') (h : AA Ω Y F k n pc' lv (.int v :: st) I S) : AA Ω Y F k n pc lv (st) I S := by
  subst hp
  exact fun p e s m args below meth c H locs ls C w hS hl => lv_iconst C.1 C.2.1 hd hv (h p e s m args below meth c H locs ls C w hS hl)
theorem r_bipush {i : Int} {v : Int32} (hd : decode Y.2.1 pc = .ok (.bipush i, 2)) (hv : (Int8.ofInt i).toInt32 = v) (hp : pc + 2 = pc') (h : AA Ω Y F k n pc' lv (.int v :: st) I S) : AA Ω Y F k n pc lv (st) I S := by
  subst hp
  exact fun p e s m args below meth c H locs ls C w hS hl => lv_bipush C.1 C.2.1 hd hv (h p e s m args below meth c H locs ls C w hS hl)
theorem r_sipush {i : Int} {v : Int32} (hd : decode Y.2.1 pc = .ok (.sipush i, 3)) (hv : (Int16.ofInt i).toInt32 = v) (hp : pc + 3 = pc') (h : AA Ω Y F k n pc' lv (.int v :: st) I S) : AA Ω Y F k n pc lv (st) I S := by
  subst hp
  exact fun p e s m args below meth c H locs ls C w hS hl => lv_sipush C.1 C.2.1 hd hv (h p e s m args below meth c H locs ls C w hS hl)
theorem r_lconst {i : Fin 2} {v : Int64} (hd : decode Y.2.1 pc = .ok (.lconst i, 1)) (hv : Int64.ofNat (i : Nat) = v) (hp : pc + 1 = pc') (h : AA Ω Y F k n pc' lv (.long v :: st) I S) : AA Ω Y F k n pc lv (st) I S := by
  subst hp
  exact fun p e s m args below meth c H locs ls C w hS hl => lv_lconst C.1 C.2.1 hd hv (h p e s m args below meth c H locs ls C w hS hl)
theorem r_iload_n {i : Fin 4} {j : Nat} {x : Int32} (hd : decode Y.2.1 pc = .ok (.iload_n i, 1)) (hi : (i : Nat) = j) (pl : Nat) (hl0 : lv[pl]? = some (j, .int x)) (hp : pc + 1 = pc') (h : AA Ω Y F k n pc' lv (.int x :: st) I S) : AA Ω Y F k n pc lv (st) I S := by
  subst hp
  exact fun p e s m args below meth c H locs ls C w hS hl => lv_iload_n C.1 C.2.1 hd hi (lv_at hl pl hl0) (h p e s m args below meth c H locs ls C w hS hl)
theorem r_iload {i : Nat} {x : Int32} (hd : decode Y.2.1 pc = .ok (.iload i, 2)) (pl : Nat) (hl0 : lv[pl]? = some (i, .int x)) (hp : pc + 2 = pc') (h : AA Ω Y F k n pc' lv (.int x :: st) I S) : AA Ω Y F k n pc lv (st) I S := by
  subst hp
  exact fun p e s m args below meth c H locs ls C w hS hl => lv_iload C.1 C.2.1 hd (lv_at hl pl hl0) (h p e s m args below meth c H locs ls C w hS hl)
theorem r_aload_n {i : Fin 4} {j : Nat} {x : Nat} (hd : decode Y.2.1 pc = .ok (.aload_n i, 1)) (hi : (i : Nat) = j) (pl : Nat) (hl0 : lv[pl]? = some (j, .ref x)) (hp : pc + 1 = pc') (h : AA Ω Y F k n pc' lv (.ref x :: st) I S) : AA Ω Y F k n pc lv (st) I S := by
  subst hp
  exact fun p e s m args below meth c H locs ls C w hS hl => lv_aload_n C.1 C.2.1 hd hi (lv_at hl pl hl0) (h p e s m args below meth c H locs ls C w hS hl)
theorem r_aload {i : Nat} {x : Nat} (hd : decode Y.2.1 pc = .ok (.aload i, 2)) (pl : Nat) (hl0 : lv[pl]? = some (i, .ref x)) (hp : pc + 2 = pc') (h : AA Ω Y F k n pc' lv (.ref x :: st) I S) : AA Ω Y F k n pc lv (st) I S := by
  subst hp
  exact fun p e s m args below meth c H locs ls C w hS hl => lv_aload C.1 C.2.1 hd (lv_at hl pl hl0) (h p e s m args below meth c H locs ls C w hS hl)
theorem r_fload {i : Nat} {x : UInt32} (hd : decode Y.2.1 pc = .ok (.fload i, 2)) (pl : Nat) (hl0 : lv[pl]? = some (i, .float x)) (hp : pc + 2 = pc') (h : AA Ω Y F k n pc' lv (.float x :: st) I S) : AA Ω Y F k n pc lv (st) I S := by
  subst hp
  exact fun p e s m args below meth c H locs ls C w hS hl => lv_fload C.1 C.2.1 hd (lv_at hl pl hl0) (h p e s m args below meth c H locs ls C w hS hl)
theorem r_dload {i : Nat} {x : UInt64} (hd : decode Y.2.1 pc = .ok (.dload i, 2)) (pl : Nat) (hl0 : lv[pl]? = some (i, .double x)) (hp : pc + 2 = pc') (h : AA Ω Y F k n pc' lv (.double x :: st) I S) : AA Ω Y F k n pc lv (st) I S := by
  subst hp
  exact fun p e s m args below meth c H locs ls C w hS hl => lv_dload C.1 C.2.1 hd (lv_at hl pl hl0) (h p e s m args below meth c H locs ls C w hS hl)
theorem r_istore_n {i : Fin 4} {j : Nat} {x : Int32} (hd : decode Y.2.1 pc = .ok (.istore_n i, 1)) (hi : (i : Nat) = j) (hn : j < Y.2.2.1) (hlv : lset lv j (.int x) = lv') (hp : pc + 1 = pc') (h : AA Ω Y F k n pc' lv' st I S) : AA Ω Y F k n pc lv (.int x :: st) I S := by
  subst hp
  exact fun p e s m args below meth c H locs ls C w hS hl => lv_istore_n C.1 C.2.1 hd hi hl hn hlv (fun ls' hl' => h p e s m args below meth c H locs ls' C w hS hl')
theorem r_istore {i : Nat} {x : Int32} (hd : decode Y.2.1 pc = .ok (.istore i, 2)) (hn : i < Y.2.2.1) (hlv : lset lv i (.int x) = lv') (hp : pc + 2 = pc') (h : AA Ω Y F k n pc' lv' st I S) : AA Ω Y F k n pc lv (.int x :: st) I S := by
  subst hp
  exact fun p e s m args below meth c H locs ls C w hS hl => lv_istore C.1 C.2.1 hd hl hn hlv (fun ls' hl' => h p e s m args below meth c H locs ls' C w hS hl')
theorem r_astore_n {i : Fin 4} {j : Nat} {x : Nat} (hd : decode Y.2.1 pc = .ok (.astore_n i, 1)) (hi : (i : Nat) = j) (hn : j < Y.2.2.1) (hlv : lset lv j (.ref x) = lv') (hp : pc + 1 = pc') (h : AA Ω Y F k n pc' lv' st I S) : AA Ω Y F k n pc lv (.ref x :: st) I S := by
  subst hp
  exact fun p e s m args below meth c H locs ls C w hS hl => lv_astore_n C.1 C.2.1 hd hi hl hn hlv (fun ls' hl' => h p e s m args below meth c H locs ls' C w hS hl')
theorem r_astore {i : Nat} {x : Nat} (hd : decode Y.2.1 pc = .ok (.astore i, 2)) (hn : i < Y.2.2.1) (hlv : lset lv i (.ref x) = lv') (hp : pc + 2 = pc') (h : AA Ω Y F k n pc' lv' st I S) : AA Ω Y F k n pc lv (.ref x :: st) I S := by
  subst hp
  exact fun p e s m args below meth c H locs ls C w hS hl => lv_astore C.1 C.2.1 hd hl hn hlv (fun ls' hl' => h p e s m args below meth c H locs ls' C w hS hl')
theorem r_iinc {i : Nat} {z : Int} {x v : Int32} (hd : decode Y.2.1 pc = .ok (.iinc i z, 3)) (pl : Nat) (hl0 : lv[pl]? = some (i, .int x)) (hv : x + Int32.ofInt z = v) (hn : i < Y.2.2.1) (hlv : lset lv i (.int v) = lv') (hp : pc + 3 = pc') (h : AA Ω Y F k n pc' lv' st I S) : AA Ω Y F k n pc lv st I S := by
  subst hp
  exact fun p e s m args below meth c H locs ls C w hS hl => lv_iinc C.1 C.2.1 hd hl hl0 hv hn hlv (fun ls' hl' => h p e s m args below meth c H locs ls' C w hS hl')
theorem r_iadd {x y : Int32} (hd : decode Y.2.1 pc = .ok (.iadd, 1)) (hp : pc + 1 = pc') (h : AA Ω Y F k n pc' lv (.int (x + y) :: st) I S) : AA Ω Y F k n pc lv (.int y :: .int x :: st) I S := by
  subst hp
  exact fun p e s m args below meth c H locs ls C w hS hl => lv_iadd C.1 C.2.1 hd (h p e s m args below meth c H locs ls C w hS hl)
theorem r_isub {x y : Int32} (hd : decode Y.2.1 pc = .ok (.isub, 1)) (hp : pc + 1 = pc') (h : AA Ω Y F k n pc' lv (.int (x - y) :: st) I S) : AA Ω Y F k n pc lv (.int y :: .int x :: st) I S := by
  subst hp
  exact fun p e s m args below meth c H locs ls C w hS hl => lv_isub C.1 C.2.1 hd (h p e s m args below meth c H locs ls C w hS hl)
theorem r_imul {x y : Int32} (hd : decode Y.2.1 pc = .ok (.imul, 1)) (hp : pc + 1 = pc') (h : AA Ω Y F k n pc' lv (.int (x * y) :: st) I S) : AA Ω Y F k n pc lv (.int y :: .int x :: st) I S := by
  subst hp
  exact fun p e s m args below meth c H locs ls C w hS hl => lv_imul C.1 C.2.1 hd (h p e s m args below meth c H locs ls C w hS hl)
theorem r_iand {x y : Int32} (hd : decode Y.2.1 pc = .ok (.iand, 1)) (hp : pc + 1 = pc') (h : AA Ω Y F k n pc' lv (.int (x &&& y) :: st) I S) : AA Ω Y F k n pc lv (.int y :: .int x :: st) I S := by
  subst hp
  exact fun p e s m args below meth c H locs ls C w hS hl => lv_iand C.1 C.2.1 hd (h p e s m args below meth c H locs ls C w hS hl)
theorem r_ior {x y : Int32} (hd : decode Y.2.1 pc = .ok (.ior, 1)) (hp : pc + 1 = pc') (h : AA Ω Y F k n pc' lv (.int (x ||| y) :: st) I S) : AA Ω Y F k n pc lv (.int y :: .int x :: st) I S := by
  subst hp
  exact fun p e s m args below meth c H locs ls C w hS hl => lv_ior C.1 C.2.1 hd (h p e s m args below meth c H locs ls C w hS hl)
theorem r_ixor {x y : Int32} (hd : decode Y.2.1 pc = .ok (.ixor, 1)) (hp : pc + 1 = pc') (h : AA Ω Y F k n pc' lv (.int (x ^^^ y) :: st) I S) : AA Ω Y F k n pc lv (.int y :: .int x :: st) I S := by
  subst hp
  exact fun p e s m args below meth c H locs ls C w hS hl => lv_ixor C.1 C.2.1 hd (h p e s m args below meth c H locs ls C w hS hl)
theorem r_idiv {x y : Int32} (hd : decode Y.2.1 pc = .ok (.idiv, 1)) (hne : ¬ y = 0) (hp : pc + 1 = pc') (h : AA Ω Y F k n pc' lv (.int (x / y) :: st) I S) : AA Ω Y F k n pc lv (.int y :: .int x :: st) I S := by
  subst hp
  exact fun p e s m args below meth c H locs ls C w hS hl => lv_idiv C.1 C.2.1 hd hne (h p e s m args below meth c H locs ls C w hS hl)
theorem r_irem {x y : Int32} (hd : decode Y.2.1 pc = .ok (.irem, 1)) (hne : ¬ y = 0) (hp : pc + 1 = pc') (h : AA Ω Y F k n pc' lv (.int (x - x / y * y) :: st) I S) : AA Ω Y F k n pc lv (.int y :: .int x :: st) I S := by
  subst hp
  exact fun p e s m args below meth c H locs ls C w hS hl => lv_irem C.1 C.2.1 hd hne (h p e s m args below meth c H locs ls C w hS hl)
theorem r_ineg {x : Int32} (hd : decode Y.2.1 pc = .ok (.ineg, 1)) (hp : pc + 1 = pc') (h : AA Ω Y F k n pc' lv (.int (-x) :: st) I S) : AA Ω Y F k n pc lv (.int x :: st) I S := by
  subst hp
  exact fun p e s m args below meth c H locs ls C w hS hl => lv_ineg C.1 C.2.1 hd (h p e s m args below meth c H locs ls C w hS hl)
theorem r_ishl {x y : Int32} (hd : decode Y.2.1 pc = .ok (.ishl, 1)) (hp : pc + 1 = pc') (h : AA Ω Y F k n pc' lv (.int (x <<< (y &&& 31)) :: st) I S) : AA Ω Y F k n pc lv (.int y :: .int x :: st) I S := by
  subst hp
  exact fun p e s m args below meth c H locs ls C w hS hl => lv_ishl C.1 C.2.1 hd (h p e s m args below meth c H locs ls C w hS hl)
theorem r_ishr {x y : Int32} (hd : decode Y.2.1 pc = .ok (.ishr, 1)) (hp : pc + 1 = pc') (h : AA Ω Y F k n pc' lv (.int (x >>> (y &&& 31)) :: st) I S) : AA Ω Y F k n pc lv (.int y :: .int x :: st) I S := by
  subst hp
  exact fun p e s m args below meth c H locs ls C w hS hl => lv_ishr C.1 C.2.1 hd (h p e s m args below meth c H locs ls C w hS hl)
theorem r_i2l {x : Int32} (hd : decode Y.2.1 pc = .ok (.i2l, 1)) (hp : pc + 1 = pc') (h : AA Ω Y F k n pc' lv (.long x.toInt64 :: st) I S) : AA Ω Y F k n pc lv (.int x :: st) I S := by
  subst hp
  exact fun p e s m args below meth c H locs ls C w hS hl => lv_i2l C.1 C.2.1 hd rfl (h p e s m args below meth c H locs ls C w hS hl)
theorem r_i2b {x : Int32} (hd : decode Y.2.1 pc = .ok (.i2b, 1)) (hp : pc + 1 = pc') (h : AA Ω Y F k n pc' lv (.int x.toInt8.toInt32 :: st) I S) : AA Ω Y F k n pc lv (.int x :: st) I S := by
  subst hp
  exact fun p e s m args below meth c H locs ls C w hS hl => lv_i2b C.1 C.2.1 hd rfl (h p e s m args below meth c H locs ls C w hS hl)
theorem r_dup {v : Value} (hd : decode Y.2.1 pc = .ok (.dup, 1)) (hc : v.category = 1) (hp : pc + 1 = pc') (h : AA Ω Y F k n pc' lv (v :: v :: st) I S) : AA Ω Y F k n pc lv (v :: st) I S := by
  subst hp
  exact fun p e s m args below meth c H locs ls C w hS hl => lv_dup C.1 C.2.1 hd hc (h p e s m args below meth c H locs ls C w hS hl)
theorem r_dup2 {v v2 : Value} (hd : decode Y.2.1 pc = .ok (.dup2, 1)) (hc : v.category = 1) (hc2 : v2.category = 1) (hp : pc + 1 = pc') (h : AA Ω Y F k n pc' lv (v2 :: v :: v2 :: v :: st) I S) : AA Ω Y F k n pc lv (v2 :: v :: st) I S := by
  subst hp
  exact fun p e s m args below meth c H locs ls C w hS hl => lv_dup2_11 C.1 C.2.1 hd hc2 hc (h p e s m args below meth c H locs ls C w hS hl)
theorem r_goto {off : Int} {tgt : Nat} (hd : decode Y.2.1 pc = .ok (.goto off, 3)) (ht : (pc : Int) + off = (tgt : Int)) (h : AA Ω Y F k n tgt lv st I S) : AA Ω Y F k n pc lv st I S :=
  fun p e s m args below meth c H locs ls C w hS hl => lv_goto C.1 C.2.1 hd ht (h p e s m args below meth c H locs ls C w hS hl)
theorem r_if_eq {x : Int32} {off : Int} {tgt : Nat} (hd : decode Y.2.1 pc = .ok (.ifCond .eq off, 3)) (ht : (pc : Int) + off = (tgt : Int)) (hp : pc + 3 = pc') (kt : x = 0 → AA Ω Y F k n tgt lv st I S) (kf : ¬ x = 0 → AA Ω Y F k n pc' lv st I S) : AA Ω Y F k n pc lv (.int x :: st) I S := by
  subst hp
  exact fun p e s m args below meth c H locs ls C w hS hl => lv_if_eq C.1 C.2.1 hd ht (fun q => kt q p e s m args below meth c H locs ls C w hS hl) (fun q => kf q p e s m args below meth c H locs ls C w hS hl)
theorem r_if_ne {x : Int32} {off : Int} {tgt : Nat} (hd : decode Y.2.1 pc = .ok (.ifCond .ne off, 3)) (ht : (pc : Int) + off = (tgt : Int)) (hp : pc + 3 = pc') (kt : ¬ x = 0 → AA Ω Y F k n tgt lv st I S) (kf : x = 0 → AA Ω Y F k n pc' lv st I S) : AA Ω Y F k n pc lv (.int x :: st) I S := by
  subst hp
  exact fun p e s m args below meth c H locs ls C w hS hl => lv_if_ne C.1 C.2.1 hd ht (fun q => kt q p e s m args below meth c H locs ls C w hS hl) (fun q => kf q p e s m args below meth c H locs ls C w hS hl)
theorem r_if_lt {x : Int32} {off : Int} {tgt : Nat} (hd : decode Y.2.1 pc = .ok (.ifCond .lt off, 3)) (ht : (pc : Int) + off = (tgt : Int)) (hp : pc + 3 = pc') (kt : x < 0 → AA Ω Y F k n tgt lv st I S) (kf : ¬ x < 0 → AA Ω Y F k n pc' lv st I S) : AA Ω Y F k n pc lv (.int x :: st) I S := by
  subst hp
  exact fun p e s m args below meth c H locs ls C w hS hl => lv_if_lt C.1 C.2.1 hd ht (fun q => kt q p e s m args below meth c H locs ls C w hS hl) (fun q => kf q p e s m args below meth c H locs ls C w hS hl)
theorem r_if_ge {x : Int32} {off : Int} {tgt : Nat} (hd : decode Y.2.1 pc = .ok (.ifCond .ge off, 3)) (ht : (pc : Int) + off = (tgt : Int)) (hp : pc + 3 = pc') (kt : 0 ≤ x → AA Ω Y F k n tgt lv st I S) (kf : ¬ 0 ≤ x → AA Ω Y F k n pc' lv st I S) : AA Ω Y F k n pc lv (.int x :: st) I S := by
  subst hp
  exact fun p e s m args below meth c H locs ls C w hS hl => lv_if_ge C.1 C.2.1 hd ht (fun q => kt q p e s m args below meth c H locs ls C w hS hl) (fun q => kf q p e s m args below meth c H locs ls C w hS hl)
theorem r_if_gt {x : Int32} {off : Int} {tgt : Nat} (hd : decode Y.2.1 pc = .ok (.ifCond .gt off, 3)) (ht : (pc : Int) + off = (tgt : Int)) (hp : pc + 3 = pc') (kt : 0 < x → AA Ω Y F k n tgt lv st I S) (kf : ¬ 0 < x → AA Ω Y F k n pc' lv st I S) : AA Ω Y F k n pc lv (.int x :: st) I S := by
  subst hp
  exact fun p e s m args below meth c H locs ls C w hS hl => lv_if_gt C.1 C.2.1 hd ht (fun q => kt q p e s m args below meth c H locs ls C w hS hl) (fun q => kf q p e s m args below meth c H locs ls C w hS hl)
theorem r_if_le {x : Int32} {off : Int} {tgt : Nat} (hd : decode Y.2.1 pc = .ok (.ifCond .le off, 3)) (ht : (pc : Int) + off = (tgt : Int)) (hp : pc + 3 = pc') (kt : x ≤ 0 → AA Ω Y F k n tgt lv st I S) (kf : ¬ x ≤ 0 → AA Ω Y F k n pc' lv st I S) : AA Ω Y F k n pc lv (.int x :: st) I S := by
  subst hp
  exact fun p e s m args below meth c H locs ls C w hS hl => lv_if_le C.1 C.2.1 hd ht (fun q => kt q p e s m args below meth c H locs ls C w hS hl) (fun q => kf q p e s m args below meth c H locs ls C w hS hl)
theorem r_icmp_eq {x y : Int32} {off : Int} {tgt : Nat} (hd : decode Y.2.1 pc = .ok (.if_icmp .eq off, 3)) (ht : (pc : Int) + off = (tgt : Int)) (hp : pc + 3 = pc') (kt : x = y → AA Ω Y F k n tgt lv st I S) (kf : ¬ x = y → AA Ω Y F k n pc' lv st I S) : AA Ω Y F k n pc lv (.int y :: .int x :: st) I S := by
  subst hp
  exact fun p e s m args below meth c H locs ls C w hS hl => lv_icmp_eq C.1 C.2.1 hd ht (fun q => kt q p e s m args below meth c H locs ls C w hS hl) (fun q => kf q p e s m args below meth c H locs ls C w hS hl)
theorem r_icmp_ne {x y : Int32} {off : Int} {tgt : Nat} (hd : decode Y.2.1 pc = .ok (.if_icmp .ne off, 3)) (ht : (pc : Int) + off = (tgt : Int)) (hp : pc + 3 = pc') (kt : ¬ x = y → AA Ω Y F k n tgt lv st I S) (kf : x = y → AA Ω Y F k n pc' lv st I S) : AA Ω Y F k n pc lv (.int y :: .int x :: st) I S := by
  subst hp
  exact fun p e s m args below meth c H locs ls C w hS hl => lv_icmp_ne C.1 C.2.1 hd ht (fun q => kt q p e s m args below meth c H locs ls C w hS hl) (fun q => kf q p e s m args below meth c H locs ls C w hS hl)
theorem r_icmp_lt {x y : Int32} {off : Int} {tgt : Nat} (hd : decode Y.2.1 pc = .ok (.if_icmp .lt off, 3)) (ht : (pc : Int) + off = (tgt : Int)) (hp : pc + 3 = pc') (kt : x < y → AA Ω Y F k n tgt lv st I S) (kf : ¬ x < y → AA Ω Y F k n pc' lv st I S) : AA Ω Y F k n pc lv (.int y :: .int x :: st) I S := by
  subst hp
  exact fun p e s m args below meth c H locs ls C w hS hl => lv_icmp_lt C.1 C.2.1 hd ht (fun q => kt q p e s m args below meth c H locs ls C w hS hl) (fun q => kf q p e s m args below meth c H locs ls C w hS hl)
theorem r_icmp_ge {x y : Int32} {off : Int} {tgt : Nat} (hd : decode Y.2.1 pc = .ok (.if_icmp .ge off, 3)) (ht : (pc : Int) + off = (tgt : Int)) (hp : pc + 3 = pc') (kt : y ≤ x → AA Ω Y F k n tgt lv st I S) (kf : ¬ y ≤ x → AA Ω Y F k n pc' lv st I S) : AA Ω Y F k n pc lv (.int y :: .int x :: st) I S := by
  subst hp
  exact fun p e s m args below meth c H locs ls C w hS hl => lv_icmp_ge C.1 C.2.1 hd ht (fun q => kt q p e s m args below meth c H locs ls C w hS hl) (fun q => kf q p e s m args below meth c H locs ls C w hS hl)
theorem r_icmp_gt {x y : Int32} {off : Int} {tgt : Nat} (hd : decode Y.2.1 pc = .ok (.if_icmp .gt off, 3)) (ht : (pc : Int) + off = (tgt : Int)) (hp : pc + 3 = pc') (kt : y < x → AA Ω Y F k n tgt lv st I S) (kf : ¬ y < x → AA Ω Y F k n pc' lv st I S) : AA Ω Y F k n pc lv (.int y :: .int x :: st) I S := by
  subst hp
  exact fun p e s m args below meth c H locs ls C w hS hl => lv_icmp_gt C.1 C.2.1 hd ht (fun q => kt q p e s m args below meth c H locs ls C w hS hl) (fun q => kf q p e s m args below meth c H locs ls C w hS hl)
theorem r_icmp_le {x y : Int32} {off : Int} {tgt : Nat} (hd : decode Y.2.1 pc = .ok (.if_icmp .le off, 3)) (ht : (pc : Int) + off = (tgt : Int)) (hp : pc + 3 = pc') (kt : x ≤ y → AA Ω Y F k n tgt lv st I S) (kf : ¬ x ≤ y → AA Ω Y F k n pc' lv st I S) : AA Ω Y F k n pc lv (.int y :: .int x :: st) I S := by
  subst hp
  exact fun p e s m args below meth c H locs ls C w hS hl => lv_icmp_le C.1 C.2.1 hd ht (fun q => kt q p e s m args below meth c H locs ls C w hS hl) (fun q => kf q p e s m args below meth c H locs ls C w hS hl)
end CORE
