/-! strings, null, switches, floats -/
theorem W_cret {p : Program} {l : Launch} {e : Env} {R : Room} {s : State} {m : MethodId} {args : Array Value} {below : List Frame} {meth : Method} {c : Code} {H : Heap} {locs : List Loc} {cells slots : Nat} {cc : ByteArray} {Qc : Array Value → State → Outcome → State → Prop} {free : Addr → Prop} {v : Int32} (hexec : p.tables.exec = Jvm.exec) (hb : c.code = cc) (hr : meth.sig.returnType = some .char) (hn : (v.toUInt32 % 65536).toInt32 = v)
    (hq : ∀ t : State, t.heap = H → s.WarmedH t.vm → Qc args s (.returned (some (.int v))) t) (hf : ∀ q ∈ locs, free q.base)
    {pc : Nat} {ls : Array Slot} (hdg : decode cc pc = .ok (.ireturn, 1)) (hlocks : meth.locks = false := by assumption) : W p l e R s m args below meth c H locs cells slots (MQ below Qc args s cells slots free) (F0 m pc ls [.int v]) := by
  intro T hT X
  have hlocks : meth.locks = false := hlocks
  obtain ⟨fs, hret, hrun, hended, hW, hframe⟩ := X.leave (v := some (.int v)) (fun h => by rw [hr] at h; cases h)
  have hmeth' : T.vm.method? m = some meth := X.method'
  refine ⟨T.setFrames fs, ?_, .returned (some (.int v)), hrun, hended, hq _ hT hW, locs, ⟨⟨_, rfl⟩, hW, hframe⟩, hf⟩
  jvm_step X.here [X.here.top, hexec, hb, hdg, hmeth', hr, narrow, hn]
  (try refine ⟨rfl, ?_⟩); (try refine ⟨rfl, ?_⟩)
  first | (intro acts; rw [hret _ acts rfl rfl rfl]) | rw [hret _ _ rfl rfl rfl]
  exact Steps.refl _
theorem W_bret {p : Program} {l : Launch} {e : Env} {R : Room} {s : State} {m : MethodId} {args : Array Value} {below : List Frame} {meth : Method} {c : Code} {H : Heap} {locs : List Loc} {cells slots : Nat} {cc : ByteArray} {Qc : Array Value → State → Outcome → State → Prop} {free : Addr → Prop} {v : Int32} (hexec : p.tables.exec = Jvm.exec) (hb : c.code = cc) (hr : meth.sig.returnType = some .byte) (hn : v.toInt8.toInt32 = v)
    (hq : ∀ t : State, t.heap = H → s.WarmedH t.vm → Qc args s (.returned (some (.int v))) t) (hf : ∀ q ∈ locs, free q.base)
    {pc : Nat} {ls : Array Slot} (hdg : decode cc pc = .ok (.ireturn, 1)) (hlocks : meth.locks = false := by assumption) : W p l e R s m args below meth c H locs cells slots (MQ below Qc args s cells slots free) (F0 m pc ls [.int v]) := by
  intro T hT X
  have hlocks : meth.locks = false := hlocks
  obtain ⟨fs, hret, hrun, hended, hW, hframe⟩ := X.leave (v := some (.int v)) (fun h => by rw [hr] at h; cases h)
  have hmeth' : T.vm.method? m = some meth := X.method'
  refine ⟨T.setFrames fs, ?_, .returned (some (.int v)), hrun, hended, hq _ hT hW, locs, ⟨⟨_, rfl⟩, hW, hframe⟩, hf⟩
  jvm_step X.here [X.here.top, hexec, hb, hdg, hmeth', hr, narrow, hn]
  (try refine ⟨rfl, ?_⟩); (try refine ⟨rfl, ?_⟩)
  first | (intro acts; rw [hret _ acts rfl rfl rfl]) | rw [hret _ _ rfl rfl rfl]
  exact Steps.refl _
section STRS
variable {Ω : JO} {Y Z : JM} {F : JF} {k n k' n' pc pc' : Nat} {lv lv' : List (Nat × Value)} {st rest : List Value} {I : JI} {S : JS} {Q : JQ}
theorem r_cret {v : Int32} (hd : decode Y.2.1 pc = .ok (.ireturn, 1)) (hr : Y.2.2.2.1 = some .char) (hv : (v.toUInt32 % 65536).toInt32 = v) (hk : k ≤ Y.2.2.2.2.2.cells) (hn : n ≤ Y.2.2.2.2.2.slots) (h : Q (.inl (some (.int v))) I S) : AA Ω Y (FQ Ω Y Q) k n pc lv [.int v] I S := by
  intro p e s m args below meth c H locs ls C w hS hl
  refine W.widen hk hn (vx_ret (W_cret C.1 C.2.1 (C.2.2.2.1.trans hr) hv (fun t ht _ => ⟨⟨_, I, S, rfl, h, by rw [ht]; exact w⟩, va_SF hS ht⟩) hS.2.2 hd C.2.2.2.2.2.2.1))
theorem r_bret {v : Int32} (hd : decode Y.2.1 pc = .ok (.ireturn, 1)) (hr : Y.2.2.2.1 = some .byte) (hv : v.toInt8.toInt32 = v) (hk : k ≤ Y.2.2.2.2.2.cells) (hn : n ≤ Y.2.2.2.2.2.slots) (h : Q (.inl (some (.int v))) I S) : AA Ω Y (FQ Ω Y Q) k n pc lv [.int v] I S := by
  intro p e s m args below meth c H locs ls C w hS hl
  refine W.widen hk hn (vx_ret (W_bret C.1 C.2.1 (C.2.2.2.1.trans hr) hv (fun t ht _ => ⟨⟨_, I, S, rfl, h, by rw [ht]; exact w⟩, va_SF hS ht⟩) hS.2.2 hd C.2.2.2.2.2.2.1))
theorem r_pop {v : Value} (hd : decode Y.2.1 pc = .ok (.pop, 1)) (hc : v.category = 1) (hp : pc + 1 = pc') (h : AA Ω Y F k n pc' lv st I S) : AA Ω Y F k n pc lv (v :: st) I S := by
  subst hp
  exact fun p e s m args below meth c H locs ls C w hS hl => lv_pop C.1 C.2.1 hd hc (h p e s m args below meth c H locs ls C w hS hl)
theorem r_i2c {x v : Int32} (hd : decode Y.2.1 pc = .ok (.i2c, 1)) (hv : (x.toUInt32 % 65536).toInt32 = v) (hp : pc + 1 = pc') (h : AA Ω Y F k n pc' lv (.int v :: st) I S) : AA Ω Y F k n pc lv (.int x :: st) I S := by
  subst hp
  exact fun p e s m args below meth c H locs ls C w hS hl => lv_i2c C.1 C.2.1 hd hv (h p e s m args below meth c H locs ls C w hS hl)
theorem r_null (hd : decode Y.2.1 pc = .ok (.aconst_null, 1)) (hp : pc + 1 = pc') (h : AA Ω Y F k n pc' lv (.null :: st) I S) : AA Ω Y F k n pc lv st I S := by
  subst hp
  exact fun p e s m args below meth c H locs ls C w hS hl => lv_null C.1 C.2.1 hd (h p e s m args below meth c H locs ls C w hS hl)
theorem r_nonnull {x : Nat} {off : Int} {tgt : Nat} (hd : decode Y.2.1 pc = .ok (.ifnonnull off, 3)) (ht : (pc : Int) + off = (tgt : Int)) (h : AA Ω Y F k n tgt lv st I S) : AA Ω Y F k n pc lv (.ref x :: st) I S :=
  fun p e s m args below meth c H locs ls C w hS hl => lv_ifnonnull C.1 C.2.1 hd ht (h p e s m args below meth c H locs ls C w hS hl)
theorem r_nonnullN {off : Int} (hd : decode Y.2.1 pc = .ok (.ifnonnull off, 3)) (hp : pc + 3 = pc') (h : AA Ω Y F k n pc' lv st I S) : AA Ω Y F k n pc lv (.null :: st) I S := by
  subst hp
  exact fun p e s m args below meth c H locs ls C w hS hl => lv_ifnonnullN C.1 C.2.1 hd (h p e s m args below meth c H locs ls C w hS hl)
theorem r_lookup {x : Int32} {dflt : Int} {ps : Array (Int × Int)} {len : Nat} {off : Int} {tgt : Nat} (hd : decode Y.2.1 pc = .ok (.lookupswitch dflt ps, len)) (hp : (ps.toList.zip (ps.toList.drop 1)).all (fun (a, next) => a.1 < next.1) = true) (ho : Op.lookupswitch.offset ps.toList dflt x.toInt = off) (ht : (pc : Int) + off = (tgt : Int)) (h : AA Ω Y F k n tgt lv st I S) : AA Ω Y F k n pc lv (.int x :: st) I S :=
  fun p e s m args below meth c H locs ls C w hS hl => lv_lookup C.1 C.2.1 hd hp ho ht (h p e s m args below meth c H locs ls C w hS hl)
theorem r_tabIn {x : Int32} {dflt lo hi : Int} {offs : Array Int} {len : Nat} {off : Int} {tgt : Nat} (hd : decode Y.2.1 pc = .ok (.tableswitch dflt lo hi offs, len)) (h1 : ¬ x.toInt < lo) (h2 : ¬ hi < x.toInt) (ho : offs[(x.toInt - lo).toNat]? = some off) (ht : (pc : Int) + off = (tgt : Int)) (h : AA Ω Y F k n tgt lv st I S) : AA Ω Y F k n pc lv (.int x :: st) I S :=
  fun p e s m args below meth c H locs ls C w hS hl => lv_tableIn C.1 C.2.1 hd h1 h2 ho ht (h p e s m args below meth c H locs ls C w hS hl)
theorem r_ldcS {idx : Nat} {tx : String} (hd : decode Y.2.1 pc = .ok (.ldc idx, 2)) (hs : Cond.stringRef Y.1.cls idx tx ∈ lw_tbl) (hp : pc + 2 = pc') (h : AA Ω Y F k n pc' lv (.ref (Ω.2.2.2.2.1 Y.1.cls idx).1 :: st) I S) : AA Ω Y F k n pc lv st I S := by
  subst hp
  exact fun p e s m args below meth c H locs ls C w hS hl => va_ldcS C.1 C.2.1 C.2.2.2.2.1 (C.2.2.2.2.2.2.2.2.2.2.2.2.2.2.2.1 _ _ _ hs).1 hd (h p e s m args below meth c H locs ls C w hS hl)
theorem r_ldcSW {idx : Nat} {tx : String} (hd : decode Y.2.1 pc = .ok (.ldc_w idx, 3)) (hs : Cond.stringRef Y.1.cls idx tx ∈ lw_tbl) (hp : pc + 3 = pc') (h : AA Ω Y F k n pc' lv (.ref (Ω.2.2.2.2.1 Y.1.cls idx).1 :: st) I S) : AA Ω Y F k n pc lv st I S := by
  subst hp
  intro p e s m args below meth c H locs ls C w hS hl T hT X
  obtain ⟨t, a1, b1⟩ := h p e s m args below meth c H locs ls C w hS hl T hT X
  have hZ := (C.2.2.2.2.2.2.2.2.2.2.2.2.2.2.2.1 _ _ _ hs).1
  exact ⟨t, X.ldcStringW C.1 C.2.2.2.2.1 (text := tx) (a := (Ω.2.2.2.2.1 Y.1.cls idx).1) hZ.1 hZ.2 (g := F0 m pc ls st) rfl (by rw [C.2.1]; exact hd) t a1, b1⟩
theorem r_sCoder {own : String} {idx sk : Nat} {tx : String} (hd : decode Y.2.1 pc = .ok (.getfield idx, 3)) (hs : Cond.stringRef own sk tx ∈ lw_tbl) (hf : Cond.fieldLink Y.1.cls idx "java/lang/String" "coder" "B" ∈ gTbl) (hp : pc + 3 = pc') (h : AA Ω Y F k n pc' lv (.int 0 :: st) I S) : AA Ω Y F k n pc lv (.ref (Ω.2.2.2.2.1 own sk).1 :: st) I S := by
  subst hp
  intro p e s m args below meth c H locs ls C w hS hl
  exact vk_getf C.1 C.2.1 (C.2.2.2.2.2.2.2.2.2.2.2.2.2.2.2.1 _ _ _ hs).2.2.1 hS C.2.2.2.2.1 (C.2.2.2.2.2.1 _ hf) (fun x h => h) hd (h p e s m args below meth c H locs ls C w hS hl)
theorem r_sValue {own : String} {idx sk : Nat} {tx : String} (hd : decode Y.2.1 pc = .ok (.getfield idx, 3)) (hs : Cond.stringRef own sk tx ∈ lw_tbl) (hf : Cond.fieldLink Y.1.cls idx "java/lang/String" "value" "[B" ∈ gTbl) (hp : pc + 3 = pc') (h : AA Ω Y F k n pc' lv (.ref (Ω.2.2.2.2.1 own sk).2 :: st) I S) : AA Ω Y F k n pc lv (.ref (Ω.2.2.2.2.1 own sk).1 :: st) I S := by
  subst hp
  intro p e s m args below meth c H locs ls C w hS hl
  exact vk_getf C.1 C.2.1 (C.2.2.2.2.2.2.2.2.2.2.2.2.2.2.2.1 _ _ _ hs).2.2.2.1 hS C.2.2.2.2.1 (C.2.2.2.2.2.1 _ hf) (fun x h => h) hd (h p e s m args below meth c H locs ls C w hS hl)
theorem r_sLen {own : String} {sk : Nat} {tx : String} {v : Int32} (hd : decode Y.2.1 pc = .ok (.arraylength, 1)) (hs : Cond.stringRef own sk tx ∈ lw_tbl) (hv : Int32.ofNat tx.toList.length = v) (hp : pc + 1 = pc') (h : AA Ω Y F k n pc' lv (.int v :: st) I S) : AA Ω Y F k n pc lv (.ref (Ω.2.2.2.2.1 own sk).2 :: st) I S := by
  subst hp
  intro p e s m args below meth c H locs ls C w hS hl
  exact va_tlen C.1 C.2.1 (C.2.2.2.2.2.2.2.2.2.2.2.2.2.2.2.1 _ _ _ hs).2.2.2.2 hS hv hd (h p e s m args below meth c H locs ls C w hS hl)
theorem r_sByte {own : String} {sk : Nat} {tx : String} {i : Int32} (hd : decode Y.2.1 pc = .ok (.baload, 1)) (hs : Cond.stringRef own sk tx ∈ lw_tbl) (hin : vp_in i tx.toList.length) (hp : pc + 1 = pc') (h : AA Ω Y F k n pc' lv (.int (chE tx i.toNatClampNeg) :: st) I S) : AA Ω Y F k n pc lv (.int i :: .ref (Ω.2.2.2.2.1 own sk).2 :: st) I S := by
  subst hp
  intro p e s m args below meth c H locs ls C w hS hl
  exact va_tb C.1 C.2.1 (C.2.2.2.2.2.2.2.2.2.2.2.2.2.2.2.1 _ _ _ hs).2.2.2.2 hS hin rfl hd (h p e s m args below meth c H locs ls C w hS hl)
theorem r_sCompact {idx : Nat} (hd : decode Y.2.1 pc = .ok (.getstatic idx, 3)) (hf : Cond.fieldLink Y.1.cls idx "java/lang/String" "COMPACT_STRINGS" "Z" ∈ gTbl) (hp : pc + 3 = pc') (h : AA Ω Y F k n pc' lv (.int 1 :: st) I S) : AA Ω Y F k n pc lv st I S := by
  subst hp
  intro p e s m args below meth c H locs ls C w hS hl
  exact va_gets C.1 C.2.1 C.2.2.2.2.2.2.2.2.2.2.2.2.2.2.2.2.2.2.2.1 hS C.2.2.2.2.1 (C.2.2.2.2.2.1 _ hf) (fun x h => h) hd (h p e s m args below meth c H locs ls C w hS hl)
theorem r_sSioobe {idx : Nat} (hd : decode Y.2.1 pc = .ok (.getstatic idx, 3)) (hf : Cond.fieldLink Y.1.cls idx "jdk/internal/util/Preconditions" "SIOOBE_FORMATTER" "Ljava/util/function/BiFunction;" ∈ gTbl) (hp : pc + 3 = pc') (h0 : AA Ω Y F k n pc' lv (.null :: st) I S) (h1 : ∀ t : Nat, AA Ω Y F k n pc' lv (.ref t :: st) I S) : AA Ω Y F k n pc lv st I S := by
  subst hp
  intro p e s m args below meth c H locs ls C w hS hl
  rcases C.2.2.2.2.2.2.2.2.2.2.2.2.2.2.2.2.2.2.2.2 with hz | ⟨t, hz⟩
  · exact va_gets C.1 C.2.1 hz hS C.2.2.2.2.1 (C.2.2.2.2.2.1 _ hf) (fun x h => h) hd (h0 p e s m args below meth c H locs ls C w hS hl)
  · exact va_gets C.1 C.2.1 hz hS C.2.2.2.2.1 (C.2.2.2.2.2.1 _ hf) (fun x h => h) hd (h1 t p e s m args below meth c H locs ls C w hS hl)
theorem r_callT {own : String} {sk : Nat} {tx : String} {idx nn : Nat} {As rest : List Value} (hd : decode Y.2.1 pc = .ok (.invokevirtual idx, 3)) (hb : SB Z nn) (hs : SI Z) (hc : Z.1.cls = "java/lang/String") (ht : Cond.stringRef own sk tx ∈ lw_tbl) (hlk : LK Y.1.cls idx Z) (hAs : As.length = nn) (hst : st = As.reverse ++ .ref (Ω.2.2.2.2.1 own sk).1 :: rest) (hro : roomB Y Z k n = true) (hk : k + Z.2.2.2.2.2.cells = k') (hn : n + Z.2.2.2.2.2.slots = n') (hrs : (rest.map fun v => v.category).sum ≤ 8) (hp : pc + 3 = pc') (h : Call Ω Z (.ref (Ω.2.2.2.2.1 own sk).1 :: As) I S (CP Ω Y F k' n' pc pc' lv rest)) : AA Ω Y F k n pc lv st I S := by
  subst hst
  intro p e s m args below meth c H locs ls C w hS hl
  obtain ⟨r1, r2, r3, r4⟩ := roomB_of hro
  have hv : PreV s H Z.1.cls (Ω.2.2.2.2.1 own sk).1 (PcJ Ω I S (.ref (Ω.2.2.2.2.1 own sk).1 :: As)) As := by
    obtain ⟨cell, g1, g2, g3, -⟩ := ((C.2.2.2.2.2.2.2.2.2.2.2.2.2.2.2.1 _ _ _ ht).2.1).kept hS.2.1
    exact ⟨pcJ_blind, ⟨cell, g1, g2, by rw [hc]; exact g3⟩, fun U hU hW => ⟨rfl, by rw [hU]; exact w, by rw [hU]; exact C.2.2.2.2.2.2.2.2.2.go hW hS.1 hS.2.1⟩⟩
  exact aa_run C hS hl hp hk hn (vx_runV ⟨C.1, C.2.1, C.2.2.1, C.2.2.2.2.1, C.2.2.2.2.2.1⟩ h ⟨callB_g C hb hlk hro, C.2.2.2.2.2.1 _ hs.1, C.2.2.2.2.2.1 _ hs.2⟩ hv rfl hAs hl.1 rfl (lv_room hrs) hd ⟨r3, r4⟩) (fun _ _ _ h => h)
end STRS
/-! combinators of the read functions -/
noncomputable def gd {α : Type} (P : Prop) (x : Option α) : Option α := @ite _ P (Classical.propDecidable P) x none
theorem gd_e {α : Type} {P : Prop} {x : Option α} {y : α} (h : gd P x = some y) : P ∧ x = some y := by
  unfold gd at h
  by_cases hP : P
  · rw [if_pos hP] at h; exact ⟨hP, h⟩
  · rw [if_neg hP] at h; cases h
theorem gd_i {α : Type} {P : Prop} {x : Option α} (h : P) : gd P x = x := by
  unfold gd; rw [if_pos h]
def lx {α β : Type} (x : α) (k : α → β) : β := k x
theorem lx_e {α β : Type} {x : α} {k : α → β} {y : β} (h : lx x k = y) : k x = y := h
def bd {α β : Type} (x : Option α) (k : α → Option β) : Option β := match x with
  | none => none
  | some a => k a
theorem bd_e {α β : Type} {x : Option α} {k : α → Option β} {y : β} (h : bd x k = some y) : ∃ a, x = some a ∧ k a = some y := by
  cases x with
  | none => cases h
  | some a => exact ⟨a, rfl, h⟩
def bd2 {α γ β : Type} (x : Option (α × γ)) (k : α → γ → Option β) : Option β := match x with
  | none => none
  | some (a, c) => k a c
theorem bd2_e {α γ β : Type} {x : Option (α × γ)} {k : α → γ → Option β} {y : β} (h : bd2 x k = some y) : ∃ a c, x = some (a, c) ∧ k a c = some y := by
  cases x with
  | none => cases h
  | some a => obtain ⟨a, c⟩ := a; exact ⟨a, c, rfl, h⟩
def bx {α β : Type} (x : Option ((α ⊕ String) × JI)) (k : α → JI → Option ((β ⊕ String) × JI)) : Option ((β ⊕ String) × JI) := match x with
  | none => none
  | some (.inl v, J) => k v J
  | some (.inr E, J) => some (.inr E, J)
theorem bx_e {α β : Type} {x : Option ((α ⊕ String) × JI)} {k : α → JI → Option ((β ⊕ String) × JI)} {y : (β ⊕ String) × JI} (h : bx x k = some y) : ∃ o J, x = some (o, J) ∧ (∀ E, o = .inr E → some (.inr E, J) = some y) ∧ (∀ v, o = .inl v → k v J = some y) := by
  cases x with
  | none => cases h
  | some a =>
    obtain ⟨o, J⟩ := a
    refine ⟨o, J, rfl, fun E q => ?_, fun v q => ?_⟩
    · subst q; exact h
    · subst q; exact h
def bl {R E : Type} (x : Option (R ⊕ E)) (k : E → Option R) : Option R := match x with
  | none => none
  | some (.inl r) => some r
  | some (.inr s) => k s
theorem bl_e {R E : Type} {x : Option (R ⊕ E)} {k : E → Option R} {y : R} (h : bl x k = some y) : ∃ o, x = some o ∧ (∀ r, o = .inl r → some r = some y) ∧ (∀ s, o = .inr s → k s = some y) := by
  cases x with
  | none => cases h
  | some o =>
    refine ⟨o, rfl, fun r q => ?_, fun s q => ?_⟩
    · subst q; exact h
    · subst q; exact h
def bll {R E E' : Type} (x : Option (R ⊕ E)) (k : E → Option (R ⊕ E')) : Option (R ⊕ E') := match x with
  | none => none
  | some (.inl r) => some (.inl r)
  | some (.inr s) => k s
theorem bll_e {R E E' : Type} {x : Option (R ⊕ E)} {k : E → Option (R ⊕ E')} {y : R ⊕ E'} (h : bll x k = some y) : ∃ o, x = some o ∧ (∀ r, o = .inl r → some (.inl r) = some y) ∧ (∀ s, o = .inr s → k s = some y) := by
  cases x with
  | none => cases h
  | some o =>
    refine ⟨o, rfl, fun r q => ?_, fun s q => ?_⟩
    · subst q; exact h
    · subst q; exact h
theorem ifp {α : Type} {c : Prop} [Decidable c] {a b y : α} (hc : c) (h : ite c a b = y) : a = y := by rw [if_pos hc] at h; exact h
theorem ifn {α : Type} {c : Prop} [Decidable c] {a b y : α} (hc : ¬ c) (h : ite c a b = y) : b = y := by rw [if_neg hc] at h; exact h
theorem zb_p0 {b : Bool} (h : ¬ zb b = 0) : b = true := zb1 h
theorem zb_n0 {b : Bool} (h : zb b = 0) : ¬ b = true := by rw [zb0 h]; decide
def nz (x : Int32) : Bool := decide (¬ x = 0)
theorem zb_nz {x : Int32} (h : x = 0 ∨ x = 1) : zb (nz x) = x := by rcases h with rfl | rfl <;> rfl
def ttI (o : Int32 ⊕ String) : JT := match o with
  | .inl v => .inl (some (.int v))
  | .inr E => .inr E
def ttZ (o : Bool ⊕ String) : JT := match o with
  | .inl v => .inl (some (.int (zb v)))
  | .inr E => .inr E
def ttV (o : Unit ⊕ String) : JT := match o with
  | .inl _ => .inl none
  | .inr E => .inr E
def ttF (o : UInt32 ⊕ String) : JT := match o with
  | .inl v => .inl (some (.float v))
  | .inr E => .inr E
def ttD (o : UInt64 ⊕ String) : JT := match o with
  | .inl v => .inl (some (.double v))
  | .inr E => .inr E
/-- how often a loop may go round -/
def lf : Nat := 20000
def asc (tx : String) : Prop := ∀ j, j < tx.toList.length → chE tx j &&& 255 = chE tx j ∧ ((chE tx j).toUInt32 % 65536).toInt32 = chE tx j
section READ
variable {Ω : JO} {Y : JM} {F : JF} {k n pc pc' : Nat} {lv lv' : List (Nat × Value)} {st : List Value} {I : JI} {S : JS}
theorem r_getZ {ci j idx a : Nat} {t : FieldType} {fin : Bool} (hd : decode Y.2.1 pc = .ok (.getfield idx, 3)) (hf : FA Y.1.cls idx ci j t fin) (ho : a ∈ sL S ∧ sK S a = ci) (hr : isR ci j = false) (hz : I a j = 0 ∨ I a j = 1) (hp : pc + 3 = pc') (h : AA Ω Y F k n pc' lv (.int (zb (nz (I a j))) :: st) I S) : AA Ω Y F k n pc lv (.ref a :: st) I S :=
  r_getI hd hf ho hr hp (by rw [zb_nz hz] at h; exact h)
theorem r_zaloadZ {a N : Nat} {i : Int32} (hd : decode Y.2.1 pc = .ok (.baload, 1)) (hA : ArE 12 S a N) (hin : vp_in i N) (hz : I a i.toNatClampNeg = 0 ∨ I a i.toNatClampNeg = 1) (hp : pc + 1 = pc') (h : AA Ω Y F k n pc' lv (.int (zb (nz (I a i.toNatClampNeg))) :: st) I S) : AA Ω Y F k n pc lv (.int i :: .ref a :: st) I S :=
  r_zaload hd hA hin hp (by rw [zb_nz hz] at h; exact h)
end READ
theorem fs_38 : Cond.fieldLink RJ0 38 "java/lang/String" "COMPACT_STRINGS" "Z" ∈ gTbl := gm 530 (by decide +kernel) rfl
theorem fs_15 : Cond.fieldLink RJ0 15 "java/lang/String" "coder" "B" ∈ gTbl := gm 1519 (by decide +kernel) rfl
theorem fs_9 : Cond.fieldLink RJ0 9 "java/lang/String" "value" "[B" ∈ gTbl := gm 1518 (by decide +kernel) rfl
theorem fs_1053 : Cond.fieldLink RJ0 1053 "jdk/internal/util/Preconditions" "SIOOBE_FORMATTER" "Ljava/util/function/BiFunction;" ∈ gTbl := gm 546 (by decide +kernel) rfl
set_option maxHeartbeats 2000000 in
theorem c_J0_isLatin1_aae02 {Ω : JO} {I : JI} {S : JS} {Q : JQ} {own : String} {sk : Nat} {tx : String} (ht : Cond.stringRef own sk tx ∈ lw_tbl) (hQ : Q (.inl (some (.int 1))) I S) : Call Ω m_J0_isLatin1_aae02 [.ref (Ω.2.2.2.2.1 own sk).1] I S Q := by
  refine call_of (by decide +kernel) rfl (Nat.le_of_ble_eq_true rfl) ?_
  change AA Ω m_J0_isLatin1_aae02 (FQ Ω m_J0_isLatin1_aae02 Q) 0 0 0 [(0, .ref (Ω.2.2.2.2.1 own sk).1)] [] I S
  refine r_sCompact (pc' := 3) dJ0_isLatin1_aae02_0 fs_38 rfl ?_
  refine r_if_eq (tgt := 17) (pc' := 6) dJ0_isLatin1_aae02_3 rfl rfl (fun h3 => ?_) (fun h3 => ?_)
  · exact absurd h3 (by decide)
  · refine r_aload_n (pc' := 7) dJ0_isLatin1_aae02_6 rfl 0 rfl rfl ?_
    refine r_sCoder (pc' := 10) dJ0_isLatin1_aae02_7 ht fs_15 rfl ?_
    refine r_if_ne (tgt := 17) (pc' := 13) dJ0_isLatin1_aae02_10 rfl rfl (fun h10 => ?_) (fun h10 => ?_)
    · exact absurd rfl h10
    · refine r_iconst (pc' := 14) (v := 1) dJ0_isLatin1_aae02_13 (by decide) rfl ?_
      refine r_goto (tgt := 18) dJ0_isLatin1_aae02_14 rfl ?_
      exact r_zret dJ0_isLatin1_aae02_18 rfl (by first | exact zb01 _ | decide) (by decide) (by decide) (hQ)
set_option maxHeartbeats 2000000 in
theorem c_J0_coder_7d493 {Ω : JO} {I : JI} {S : JS} {Q : JQ} {own : String} {sk : Nat} {tx : String} (ht : Cond.stringRef own sk tx ∈ lw_tbl) (hQ : Q (.inl (some (.int 0))) I S) : Call Ω m_J0_coder_7d493 [.ref (Ω.2.2.2.2.1 own sk).1] I S Q := by
  refine call_of (by decide +kernel) rfl (Nat.le_of_ble_eq_true rfl) ?_
  change AA Ω m_J0_coder_7d493 (FQ Ω m_J0_coder_7d493 Q) 0 0 0 [(0, .ref (Ω.2.2.2.2.1 own sk).1)] [] I S
  refine r_sCompact (pc' := 3) dJ0_coder_7d493_0 fs_38 rfl ?_
  refine r_if_eq (tgt := 13) (pc' := 6) dJ0_coder_7d493_3 rfl rfl (fun h3 => ?_) (fun h3 => ?_)
  · exact absurd h3 (by decide)
  · refine r_aload_n (pc' := 7) dJ0_coder_7d493_6 rfl 0 rfl rfl ?_
    refine r_sCoder (pc' := 10) dJ0_coder_7d493_7 ht fs_15 rfl ?_
    refine r_goto (tgt := 14) dJ0_coder_7d493_10 rfl ?_
    exact r_bret dJ0_coder_7d493_14 rfl rfl (by decide) (by decide) hQ
set_option maxHeartbeats 2000000 in
theorem c_J0_length_8abf5 {Ω : JO} {I : JI} {S : JS} {Q : JQ} {own : String} {sk : Nat} {tx : String} (ht : Cond.stringRef own sk tx ∈ lw_tbl) (hQ : Q (.inl (some (.int (Int32.ofNat tx.toList.length)))) I S) : Call Ω m_J0_length_8abf5 [.ref (Ω.2.2.2.2.1 own sk).1] I S Q := by
  refine call_of (by decide +kernel) rfl (Nat.le_of_ble_eq_true rfl) ?_
  change AA Ω m_J0_length_8abf5 (FQ Ω m_J0_length_8abf5 Q) 0 0 0 [(0, .ref (Ω.2.2.2.2.1 own sk).1)] [] I S
  refine r_aload_n (pc' := 1) dJ0_length_8abf5_0 rfl 0 rfl rfl ?_
  refine r_sValue (pc' := 4) dJ0_length_8abf5_1 ht fs_9 rfl ?_
  refine r_sLen (pc' := 5) dJ0_length_8abf5_4 ht rfl rfl ?_
  refine r_aload_n (pc' := 6) dJ0_length_8abf5_5 rfl 0 rfl rfl ?_
  refine r_callT (pc' := 9) (k' := 0) (n' := 0) (nn := 0) (As := []) dJ0_length_8abf5_6 mb_J0_coder_7d493 mi_J0_coder_7d493 rfl ht lk_J0_335 rfl rfl rfl rfl rfl (Nat.le_of_ble_eq_true rfl) rfl (c_J0_coder_7d493 ht (cpI ?_))
  refine r_ishr (pc' := 10) dJ0_length_8abf5_9 rfl ?_
  exact r_iret dJ0_length_8abf5_10 rfl (by decide) (by decide) (by rw [show (Int32.ofNat tx.toList.length) >>> ((0 : Int32) &&& 31) = Int32.ofNat tx.toList.length from by simp]; exact hQ)
set_option maxHeartbeats 2000000 in
theorem c_J3_checkIndex_8e157n {Ω : JO} {I : JI} {S : JS} {Q : JQ} {i N : Int32} (h1 : ¬ i < 0) (h2 : i < N) (hQ : Q (.inl (some (.int i))) I S) : Call Ω m_J3_checkIndex_8e157 [.int i, .int N, .null] I S Q := by
  refine call_of (by decide +kernel) rfl (Nat.le_of_ble_eq_true rfl) ?_
  change AA Ω m_J3_checkIndex_8e157 (FQ Ω m_J3_checkIndex_8e157 Q) 0 0 0 [(0, .int i), (1, .int N), (2, .null)] [] I S
  refine r_iload_n (pc' := 1) dJ3_checkIndex_8e157_0 rfl 0 rfl rfl ?_
  refine r_if_lt (tgt := 9) (pc' := 4) dJ3_checkIndex_8e157_1 rfl rfl (fun h1x => ?_) (fun h1x => ?_)
  · exact absurd h1x h1
  · refine r_iload_n (pc' := 5) dJ3_checkIndex_8e157_4 rfl 0 rfl rfl ?_
    refine r_iload_n (pc' := 6) dJ3_checkIndex_8e157_5 rfl 1 rfl rfl ?_
    refine r_icmp_lt (tgt := 16) (pc' := 9) dJ3_checkIndex_8e157_6 rfl rfl (fun h6 => ?_) (fun h6 => ?_)
    · refine r_iload_n (pc' := 17) dJ3_checkIndex_8e157_16 rfl 0 rfl rfl ?_
      exact r_iret dJ3_checkIndex_8e157_17 rfl (by decide) (by decide) (hQ)
    · exact absurd h2 h6
set_option maxHeartbeats 2000000 in
theorem c_J3_checkIndex_8e157r {Ω : JO} {I : JI} {S : JS} {Q : JQ} {i N : Int32} {t : Nat} (h1 : ¬ i < 0) (h2 : i < N) (hQ : Q (.inl (some (.int i))) I S) : Call Ω m_J3_checkIndex_8e157 [.int i, .int N, .ref t] I S Q := by
  refine call_of (by decide +kernel) rfl (Nat.le_of_ble_eq_true rfl) ?_
  change AA Ω m_J3_checkIndex_8e157 (FQ Ω m_J3_checkIndex_8e157 Q) 0 0 0 [(0, .int i), (1, .int N), (2, .ref t)] [] I S
  refine r_iload_n (pc' := 1) dJ3_checkIndex_8e157_0 rfl 0 rfl rfl ?_
  refine r_if_lt (tgt := 9) (pc' := 4) dJ3_checkIndex_8e157_1 rfl rfl (fun h1x => ?_) (fun h1x => ?_)
  · exact absurd h1x h1
  · refine r_iload_n (pc' := 5) dJ3_checkIndex_8e157_4 rfl 0 rfl rfl ?_
    refine r_iload_n (pc' := 6) dJ3_checkIndex_8e157_5 rfl 1 rfl rfl ?_
    refine r_icmp_lt (tgt := 16) (pc' := 9) dJ3_checkIndex_8e157_6 rfl rfl (fun h6 => ?_) (fun h6 => ?_)
    · refine r_iload_n (pc' := 17) dJ3_checkIndex_8e157_16 rfl 0 rfl rfl ?_
      exact r_iret dJ3_checkIndex_8e157_17 rfl (by decide) (by decide) (hQ)
    · exact absurd h2 h6
set_option maxHeartbeats 2000000 in
theorem c_J0_checkIndex_df160 {Ω : JO} {I : JI} {S : JS} {Q : JQ} {i N : Int32} (h1 : ¬ i < 0) (h2 : i < N) (hQ : Q (.inl none) I S) : Call Ω m_J0_checkIndex_df160 [.int i, .int N] I S Q := by
  refine call_of (by decide +kernel) rfl (Nat.le_of_ble_eq_true rfl) ?_
  change AA Ω m_J0_checkIndex_df160 (FQ Ω m_J0_checkIndex_df160 Q) 0 0 0 [(0, .int i), (1, .int N)] [] I S
  refine r_iload_n (pc' := 1) dJ0_checkIndex_df160_0 rfl 0 rfl rfl ?_
  refine r_iload_n (pc' := 2) dJ0_checkIndex_df160_1 rfl 1 rfl rfl ?_
  refine r_sSioobe (pc' := 5) dJ0_checkIndex_df160_2 fs_1053 rfl ?_ (fun t => ?_)
  · refine r_callS (pc' := 8) (k' := 0) (n' := 0) (nn := 3) (As := [_, _, _]) dJ0_checkIndex_df160_5 mb_J3_checkIndex_8e157 ms_J3_checkIndex_8e157 lk_J0_1059 rfl rfl rfl rfl rfl (Nat.le_of_ble_eq_true rfl) rfl (c_J3_checkIndex_8e157n h1 h2 (cpI ?_))
    refine r_pop (pc' := 9) dJ0_checkIndex_df160_8 rfl rfl ?_
    exact r_ret dJ0_checkIndex_df160_9 rfl (by decide) (by decide) hQ
  · refine r_callS (pc' := 8) (k' := 0) (n' := 0) (nn := 3) (As := [_, _, _]) dJ0_checkIndex_df160_5 mb_J3_checkIndex_8e157 ms_J3_checkIndex_8e157 lk_J0_1059 rfl rfl rfl rfl rfl (Nat.le_of_ble_eq_true rfl) rfl (c_J3_checkIndex_8e157r h1 h2 (cpI ?_))
    refine r_pop (pc' := 9) dJ0_checkIndex_df160_8 rfl rfl ?_
    exact r_ret dJ0_checkIndex_df160_9 rfl (by decide) (by decide) hQ
theorem in_lt {i : Int32} {N : Nat} (h : vp_in i N) : i.toNatClampNeg < N := Nat.not_le.mp fun q => h (Or.inr q)
theorem in_lti {i : Int32} {N : Nat} (h : vp_in i N) (hN : N < 2 ^ 31) : i < Int32.ofNat N := by
  have h1 := in_lt h
  have h0 : ¬ i.toInt < 0 := fun q => h (Or.inl (by rw [Int32.lt_iff_toInt_lt]; simpa using q))
  rw [Int32.lt_iff_toInt_lt, show (Int32.ofNat N).toInt = (N : Int) from nI_toInt hN]
  have : i.toInt.toNat < N := h1
  omega
set_option maxHeartbeats 2000000 in
theorem c_J1_charAt_3b067 {Ω : JO} {I : JI} {S : JS} {Q : JQ} {own : String} {sk : Nat} {tx : String} (ht : Cond.stringRef own sk tx ∈ lw_tbl) {i : Int32} (ha : asc tx) (hi : vp_in i tx.toList.length) (hN : tx.toList.length < 2 ^ 31) (hQ : Q (.inl (some (.int (chE tx i.toNatClampNeg)))) I S) : Call Ω m_J1_charAt_3b067 [.ref (Ω.2.2.2.2.1 own sk).2, .int i] I S Q := by
  refine call_of (by decide +kernel) rfl (Nat.le_of_ble_eq_true rfl) ?_
  change AA Ω m_J1_charAt_3b067 (FQ Ω m_J1_charAt_3b067 Q) 0 0 0 [(0, .ref (Ω.2.2.2.2.1 own sk).2), (1, .int i)] [] I S
  have hc := ha _ (in_lt hi)
  refine r_iload_n (pc' := 1) dJ1_charAt_3b067_0 rfl 1 rfl rfl ?_
  refine r_aload_n (pc' := 2) dJ1_charAt_3b067_1 rfl 0 rfl rfl ?_
  refine r_sLen (pc' := 3) dJ1_charAt_3b067_2 ht rfl rfl ?_
  refine r_callS (pc' := 6) (k' := 0) (n' := 0) (nn := 2) (As := [_, _]) dJ1_charAt_3b067_3 mb_J0_checkIndex_df160 ms_J0_checkIndex_df160 lk_J1_9 rfl rfl rfl rfl rfl (Nat.le_of_ble_eq_true rfl) rfl (c_J0_checkIndex_df160 (fun q => hi (Or.inl q)) (in_lti hi hN) (cpV ?_))
  refine r_aload_n (pc' := 7) dJ1_charAt_3b067_6 rfl 0 rfl rfl ?_
  refine r_iload_n (pc' := 8) dJ1_charAt_3b067_7 rfl 1 rfl rfl ?_
  refine r_sByte (pc' := 9) dJ1_charAt_3b067_8 ht hi rfl ?_
  refine r_sipush (pc' := 12) (v := 255) dJ1_charAt_3b067_9 (by decide) rfl ?_
  refine r_iand (pc' := 13) dJ1_charAt_3b067_12 rfl ?_
  rw [hc.1]
  refine r_i2c (pc' := 14) dJ1_charAt_3b067_13 hc.2 rfl ?_
  exact r_cret dJ1_charAt_3b067_14 rfl hc.2 (by decide) (by decide) hQ
set_option maxHeartbeats 2000000 in
theorem c_J0_charAt_5068e {Ω : JO} {I : JI} {S : JS} {Q : JQ} {own : String} {sk : Nat} {tx : String} (ht : Cond.stringRef own sk tx ∈ lw_tbl) {i : Int32} (ha : asc tx) (hi : vp_in i tx.toList.length) (hN : tx.toList.length < 2 ^ 31) (hQ : Q (.inl (some (.int (chE tx i.toNatClampNeg)))) I S) : Call Ω m_J0_charAt_5068e [.ref (Ω.2.2.2.2.1 own sk).1, .int i] I S Q := by
  refine call_of (by decide +kernel) rfl (Nat.le_of_ble_eq_true rfl) ?_
  change AA Ω m_J0_charAt_5068e (FQ Ω m_J0_charAt_5068e Q) 0 0 0 [(0, .ref (Ω.2.2.2.2.1 own sk).1), (1, .int i)] [] I S
  have hc := ha _ (in_lt hi)
  refine r_aload_n (pc' := 1) dJ0_charAt_5068e_0 rfl 0 rfl rfl ?_
  refine r_callT (pc' := 4) (k' := 0) (n' := 0) (nn := 0) (As := []) dJ0_charAt_5068e_1 mb_J0_isLatin1_aae02 mi_J0_isLatin1_aae02 rfl ht lk_J0_492 rfl rfl rfl rfl rfl (Nat.le_of_ble_eq_true rfl) rfl (c_J0_isLatin1_aae02 ht (cpI ?_))
  refine r_if_eq (tgt := 16) (pc' := 7) dJ0_charAt_5068e_4 rfl rfl (fun h4 => ?_) (fun h4 => ?_)
  · exact absurd h4 (by decide)
  · refine r_aload_n (pc' := 8) dJ0_charAt_5068e_7 rfl 0 rfl rfl ?_
    refine r_sValue (pc' := 11) dJ0_charAt_5068e_8 ht fs_9 rfl ?_
    refine r_iload_n (pc' := 12) dJ0_charAt_5068e_11 rfl 1 rfl rfl ?_
    refine r_callS (pc' := 15) (k' := 0) (n' := 0) (nn := 2) (As := [_, _]) dJ0_charAt_5068e_12 mb_J1_charAt_3b067 ms_J1_charAt_3b067 lk_J0_495 rfl rfl rfl rfl rfl (Nat.le_of_ble_eq_true rfl) rfl (c_J1_charAt_3b067 ht ha hi hN (cpI ?_))
    exact r_cret dJ0_charAt_5068e_15 rfl hc.2 (by decide) (by decide) hQ
section CALLT
variable {Ω : JO} {Y Z : JM} {F : JF} {k n k' n' pc pc' : Nat} {lv lv' : List (Nat × Value)} {rest : List Value} {I : JI} {S : JS} {a1 : Value}
theorem r_callT0 {own : String} {sk : Nat} {tx : String} {idx : Nat} (hd : decode Y.2.1 pc = .ok (.invokevirtual idx, 3)) (hb : SB Z 0) (hs : SI Z) (hc : Z.1.cls = "java/lang/String") (ht : Cond.stringRef own sk tx ∈ lw_tbl) (hlk : LK Y.1.cls idx Z) (hro : roomB Y Z k n = true) (hk : k + Z.2.2.2.2.2.cells = k') (hn : n + Z.2.2.2.2.2.slots = n') (hrs : (rest.map fun v => v.category).sum ≤ 8) (hp : pc + 3 = pc') (h : Call Ω Z [.ref (Ω.2.2.2.2.1 own sk).1] I S (CP Ω Y F k' n' pc pc' lv rest)) : AA Ω Y F k n pc lv (.ref (Ω.2.2.2.2.1 own sk).1 :: rest) I S :=
  r_callT (As := []) hd hb hs hc ht hlk rfl rfl hro hk hn hrs hp h
theorem r_callT1 {own : String} {sk : Nat} {tx : String} {idx : Nat} (hd : decode Y.2.1 pc = .ok (.invokevirtual idx, 3)) (hb : SB Z 1) (hs : SI Z) (hc : Z.1.cls = "java/lang/String") (ht : Cond.stringRef own sk tx ∈ lw_tbl) (hlk : LK Y.1.cls idx Z) (hro : roomB Y Z k n = true) (hk : k + Z.2.2.2.2.2.cells = k') (hn : n + Z.2.2.2.2.2.slots = n') (hrs : (rest.map fun v => v.category).sum ≤ 8) (hp : pc + 3 = pc') (h : Call Ω Z [.ref (Ω.2.2.2.2.1 own sk).1, a1] I S (CP Ω Y F k' n' pc pc' lv rest)) : AA Ω Y F k n pc lv (a1 :: .ref (Ω.2.2.2.2.1 own sk).1 :: rest) I S :=
  r_callT (As := [a1]) hd hb hs hc ht hlk rfl rfl hro hk hn hrs hp h
end CALLT
theorem sw_X5_91 : Cond.stringRef RX5 91 "loom" ∈ lw_tbl := List.mem_of_getElem? (i := 517) (by decide +kernel)
theorem sw_X5_102 : Cond.stringRef RX5 102 "warp" ∈ lw_tbl := List.mem_of_getElem? (i := 587) (by decide +kernel)
theorem sw_X5_107 : Cond.stringRef RX5 107 "card" ∈ lw_tbl := List.mem_of_getElem? (i := 611) (by decide +kernel)
theorem sw_X5_112 : Cond.stringRef RX5 112 "deck" ∈ lw_tbl := List.mem_of_getElem? (i := 623) (by decide +kernel)
theorem sw_X5_205 : Cond.stringRef RX5 205 "repeat" ∈ lw_tbl := List.mem_of_getElem? (i := 653) (by decide +kernel)
theorem sw_X5_207 : Cond.stringRef RX5 207 "mirror" ∈ lw_tbl := List.mem_of_getElem? (i := 654) (by decide +kernel)
theorem sw_X5_209 : Cond.stringRef RX5 209 "back" ∈ lw_tbl := List.mem_of_getElem? (i := 655) (by decide +kernel)
theorem sw_X5_117 : Cond.stringRef RX5 117 "yarn" ∈ lw_tbl := List.mem_of_getElem? (i := 691) (by decide +kernel)
theorem sw_X5_122 : Cond.stringRef RX5 122 "weave" ∈ lw_tbl := List.mem_of_getElem? (i := 706) (by decide +kernel)
theorem sw_X5_127 : Cond.stringRef RX5 127 "unweave" ∈ lw_tbl := List.mem_of_getElem? (i := 752) (by decide +kernel)
theorem sw_X5_132 : Cond.stringRef RX5 132 "swap" ∈ lw_tbl := List.mem_of_getElem? (i := 761) (by decide +kernel)
theorem sw_X5_137 : Cond.stringRef RX5 137 "punch" ∈ lw_tbl := List.mem_of_getElem? (i := 782) (by decide +kernel)
theorem sw_X5_142 : Cond.stringRef RX5 142 "dye" ∈ lw_tbl := List.mem_of_getElem? (i := 795) (by decide +kernel)
theorem sw_X5_147 : Cond.stringRef RX5 147 "oil" ∈ lw_tbl := List.mem_of_getElem? (i := 801) (by decide +kernel)
theorem sw_X5_152 : Cond.stringRef RX5 152 "invert" ∈ lw_tbl := List.mem_of_getElem? (i := 810) (by decide +kernel)
theorem sw_X5_157 : Cond.stringRef RX5 157 "strain" ∈ lw_tbl := List.mem_of_getElem? (i := 821) (by decide +kernel)
theorem sw_X5_162 : Cond.stringRef RX5 162 "motor" ∈ lw_tbl := List.mem_of_getElem? (i := 826) (by decide +kernel)
theorem sw_X5_167 : Cond.stringRef RX5 167 "mend" ∈ lw_tbl := List.mem_of_getElem? (i := 831) (by decide +kernel)
