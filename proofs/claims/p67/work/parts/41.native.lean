/-! Unsafe.getLong of an array of longs -/
theorem wp_getLong {a i : Nat} {u : Value} {off : Int64} {cell : Cell} {k : Class} {comp : ClassId} {v : Int64} {Q : Option Value → Pre} {e : Env} {d : Bool} {acts : List Action} {s : State} (hcell : s.heap[a]? = some cell) (hvm : cell.vm = .none) (hk : s.vm.classes[cell.cls]? = some k) (hkind : k.kind = .array comp .long) (h0 : ¬ off < 0) (hoff : off.toNatClampNeg = 16 + 8 * i) (hs : cell.slots[i]? = some (.long v)) (hQ : ∀ d' acts', Q (some (.long v)) d' acts' s) : wp ((Native.jdk_internal_misc_Unsafe.memory.getRow "Long" "J" .long "" .plain).sem #[u, .ref a, .long off]) Q (fun _ _ _ => False) e d acts s := by
  have e0 : (Native.jdk_internal_misc_Unsafe.memory.getRow "Long" "J" .long "" .plain).sem #[u, .ref a, .long off] = (UnsafeMem.get .long (.ref a) off .plain >>= fun v => mark "nat.jdk_internal_misc_Unsafe.get" >>= fun _ => (Pure.pure (some v) : Sem (Option Value))) := rfl
  rw [e0]
  unfold UnsafeMem.get UnsafeMem.locate
  simp only [wp_bind', if_neg h0]
  simp [W.cellInfo, W.theClass, hcell, hk]
  refine ⟨k, hk, ?_⟩
  have e1 : (16 + 8 * i - 16) = 8 * i := by omega
  simp [Cell.info, hvm, hkind, hoff, UnsafeMem.arrayBase, UnsafeMem.scaleOf, UnsafeMem.isRefType, UnsafeMem.handedOut, W.readLoc, hcell, hs, e1, hQ]
set_option maxRecDepth 100000 in
theorem unsafeGetLong_row (p : Program) : NativeRow.find? p.tables.natives "jdk/internal/misc/Unsafe" "getLong" "(Ljava/lang/Object;J)J" = some (Native.jdk_internal_misc_Unsafe.memory.getRow "Long" "J" .long "" .plain) := by
  cases p <;> rfl
theorem glSteps (p : Program) {e : Env} {below : List Frame} {s target : State} {g : JFrame} {c : Code} {m : MethodId} {meth : Method} {k : Class} {ig : Instr} {len : Nat} (h : At s g.method c below) (acts : List Action)
    (N : NativeOf s.vm m k meth "jdk/internal/misc/Unsafe" "getLong" "(Ljava/lang/Object;J)J" false [.object "java/lang/Object", .long])
    {a b i : Nat} {cell : Cell} {kc : Class} {comp : ClassId} {off v : Int64}
    (hroom : e.platform.stackFull (((s.setTop g).threads[(s.setTop g).cur]?).getD { frames := [] }) (s.setTop g).frames (nativeFrameWords "jdk/internal/misc/Unsafe" "getLong" 4) = false)
    (hcell : s.heap[a]? = some cell) (hvm : cell.vm = .none) (hk : s.vm.classes[cell.cls]? = some kc) (hkind : kc.kind = .array comp .long) (h0 : ¬ off < 0) (hoff : off.toNatClampNeg = 16 + 8 * i) (hs : cell.slots[i]? = some (.long v))
    (hdg : decode c.code g.pc = .ok (ig, len))
    (hrest : Steps p.tables e below (s.setTop { g with pc := g.pc + len, stack := .long v :: g.stack }) target) :
    Steps p.tables e below (doInvoke e (s.setTop g) acts m #[.ref b, .ref a, .long off]).1 target := by
  have hseen : seenByNative meth #[.ref b, .ref a, .long off] = #[.ref b, .ref a, .long off] := by simp [seenByNative, N.static, N.sig, narrow]
  refine Steps.nativeEnds (row := Native.jdk_internal_misc_Unsafe.memory.getRow "Long" "J" .long "" .plain) (v := some (.long v)) (T := id) h acts N.cls N.meth N.boot N.native N.noCode N.noLock
    (by rw [N.className, N.name, N.desc]; exact unsafeGetLong_row p) (by rw [N.className, N.name]; exact hroom) (fun _ => rfl) rfl (fun _ => h.code) ?_ hdg hrest
  intro Q hq
  rw [hseen] at hq ⊢
  exact wp_getLong (cell := cell) (k := kc) (comp := comp) hcell hvm hk hkind h0 hoff hs hq
def glN : MethodName := ⟨"jdk/internal/misc/Unsafe", "getLong", "(Ljava/lang/Object;J)J"⟩
theorem glN_desc : parseMethodDescriptor glN.desc = some { parameters := [.object "java/lang/Object", .long], returnType := some .long } := by decide +kernel
section GL
variable {p : Program} {l : Launch} {e : Env} {R : Room} {s : State} {m : MethodId} {args : Array Value} {below : List Frame} {meth : Method} {c : Code} {T : State} {locs : List Loc} {cells slots : Nat}
theorem glOf (X : Stand p l e R s m args below meth c T locs cells slots) (hexec : p.tables.exec = Jvm.exec) {own : String} {index : Nat}
    (hown : s.vm.findClass own = some m.cls) (hlink : (Cond.methodLink own index glN).before args s = true)
    (hsel : (Cond.selects "jdk/internal/misc/Unsafe" glN glN).before args s = true) (hinst : (Cond.instanceMethod glN).before args s = true) (hnat : (Cond.native glN).before args s = true)
    {b : Nat} {cellB : Cell} (hcellB : T.heap[b]? = some cellB) (hstB : cellB.vm.isStatics = false) (hcB : s.vm.findClass "jdk/internal/misc/Unsafe" = some cellB.cls)
    {a i : Nat} {cell : Cell} {kc : Class} {comp : ClassId} {off v : Int64} (hcell : T.heap[a]? = some cell) (hvm : cell.vm = .none) (hkc : s.vm.classes[cell.cls]? = some kc) (hkind : kc.kind = .array comp .long) (h0 : ¬ off < 0) (hoff : off.toNatClampNeg = 16 + 8 * i) (hs : cell.slots[i]? = some (.long v))
    {g : JFrame} (hg : g.method = m) (hsize : g.locals.size = c.maxLocals) {rest : List Value} (hstack : g.stack = .long off :: .ref a :: .ref b :: rest) (hdg : decode c.code g.pc = .ok (.invokevirtual index, 3))
    (hframes : 1 ≤ R.frames) (hlocals : 2 * g.monitorRoom + (rest.map fun v => v.category).sum + (nativeFrameWords "jdk/internal/misc/Unsafe" "getLong" 4 + 11) ≤ R.locals) :
    ∃ vm₁, Stand p l e R s m args below meth c (T.setVm vm₁) locs cells slots ∧
      ∀ target, Steps p.tables e below ((T.setVm vm₁).setTop { g with pc := g.pc + 3, stack := .long v :: rest }) target → Steps p.tables e below (T.setTop g) target := by
  obtain ⟨mk, methM, hnamed, hmethM, hstM, habM⟩ := Cond.instanceMethod_spec hinst
  obtain ⟨c2, r2, m2, q1, q2, q3, q4, kP, hkP, hkPi⟩ := Cond.selects_spec hsel
  cases hcB.symm.trans q1
  cases (State.methodFound?_of_named hnamed (by decide)).symm.trans q2
  cases hnamed.symm.trans q3
  have hselP : selectMethod e.platform s.vm cellB.cls mk = .method mk := by rw [Launch.admits_selectMethod X.admits]; exact q4
  obtain ⟨kr, hkr, hni⟩ := notFace_of_selects hsel mk hnamed
  obtain ⟨mN, kN, methN, hnamedN, hmethN, hkN, N⟩ := NativeOf.of_instance hnat hinst glN_desc
  cases hnamed.symm.trans hnamedN
  cases hmethM.symm.trans hmethN
  obtain ⟨vm₁, X₁, hstep₁⟩ := X.invokevirtual hexec hown hlink hnamed hmethM hstM hkr hni (by decide) (a := b) (cell := cellB) hcellB
    (fun z h => by rw [h] at hstB; cases hstB) hselP hmethM habM hkP hkPi (g := g) hg (argsL := [.ref a, .long off]) (rest := rest)
    (by rw [N.sig]; rfl) hstack hdg
  have hal : s.vm.Alike vm₁ := X₁.warmed.alike
  obtain ⟨kN₁, N₁⟩ := N.alike hal
  obtain ⟨kc₁, hkc₁, ekc⟩ := hal.2.2 _ _ hkc
  have hAt : At (T.setVm vm₁) ({ g with stack := rest } : JFrame).method c below := by rw [show ({ g with stack := rest } : JFrame).method = m from hg]; exact X₁.here
  have hroom := X₁.notFull (g := { g with stack := rest }) hsize (vars := nativeFrameWords "jdk/internal/misc/Unsafe" "getLong" 4) hframes hlocals
  refine ⟨vm₁, X₁, fun target hrest => hstep₁ target fun acts => ?_⟩
  exact glSteps p hAt acts N₁ hroom (show (T.setVm vm₁).heap[a]? = some cell from hcell) hvm (show (T.setVm vm₁).vm.classes[cell.cls]? = some kc₁ from hkc₁) (by rw [ekc]; exact hkind) h0 hoff hs hdg hrest
end GL
section GLR
variable {Ω : JO} {Y Z : JM} {F : JF} {k n k' n' pc pc' : Nat} {lv lv' : List (Nat × Value)} {st rest : List Value} {I : JI} {S : JS}
theorem r_getLong {a N i idx : Nat} {off v : Int64} (hd : decode Y.2.1 pc = .ok (.invokevirtual idx, 3)) (hlk : Cond.methodLink Y.1.cls idx glN ∈ gTbl) (hsl : Cond.selects "jdk/internal/misc/Unsafe" glN glN ∈ gTbl) (hin : Cond.instanceMethod glN ∈ gTbl) (hna : Cond.native glN ∈ gTbl) (hA : ArE 14 S a N) (hi : i < N) (h0 : ¬ off < 0) (hoff : off.toNatClampNeg = 16 + 8 * i) (hv : sX S a i = v) (hf : 1 ≤ Y.2.2.2.2.2.frames) (hlo : (rest.map fun v => v.category).sum + 30 ≤ Y.2.2.2.2.2.locals) (hp : pc + 3 = pc') (h : AA Ω Y F k n pc' lv (.long v :: rest) I S) : AA Ω Y F k n pc lv (.long off :: .ref a :: .ref (oU Ω) :: rest) I S := by
  subst hp
  intro p e s m args below meth c H locs ls C w hS hl
  obtain ⟨ha, hk, hN, -⟩ := hA
  subst hN
  have hts := C.2.2.2.2.2.1
  obtain ⟨q0, hq0⟩ := va_pl_get (X := []) (f := cellE Ω I S) ha
  have hce : cellE Ω I S a = .inl (Ω.2.2.1 4, sN S a, .inr (.inl (sX S a))) := by simp [cellE, hk]
  rw [hce] at hq0
  have hcell := w.1 q0 _ hq0
  obtain ⟨cellB, g1, g2, g3, -⟩ := ((evx C).2.2.2.1.2.2.2.2).kept hS.2.1
  obtain ⟨kA, comp, hkA, hkk⟩ : ∃ (kA : Class) (comp : ClassId), s.vm.classes[Ω.2.2.1 4]? = some kA ∧ kA.kind = .array comp .long := by
    obtain ⟨-, kA, e1, comp, e2⟩ := (C.2.2.2.2.2.2.2.2.2.1.2 4 _ rfl).1 0 (fun _ => .null)
    exact ⟨kA, comp, e1, e2⟩
  intro T hT X
  obtain ⟨vm', X', st⟩ := glOf X C.1 C.2.2.2.2.1 (hts _ hlk) (hts _ hsl) (hts _ hin) (hts _ hna) (b := oU Ω) (cellB := cellB) (by rw [hT]; exact g1) g2 g3 (a := a) (i := i) (cell := vp_cell (Ω.2.2.1 4) (sN S a, .inr (.inl (sX S a)))) (kc := kA) (comp := comp) (off := off) (v := v) (by rw [hT]; exact hcell) (by rfl) hkA hkk h0 hoff (by show (arrV _ _ _).slots[i]? = _; rw [arrV_read _ _ hi, hv]) (g := F0 m pc ls (.long off :: .ref a :: .ref (oU Ω) :: rest)) rfl (by rw [C.2.2.1]; exact hl.1) rfl (by rw [C.2.1]; exact hd) hf (by show 2 * 0 + _ + _ ≤ _; have hw : nativeFrameWords "jdk/internal/misc/Unsafe" "getLong" 4 ≤ 15 := (by decide); omega)
  obtain ⟨t, a1, b1⟩ := h p e s m args below meth c H locs ls C w hS hl (T.setVm vm') hT X'
  exact ⟨t, st t a1, b1⟩
end GLR
