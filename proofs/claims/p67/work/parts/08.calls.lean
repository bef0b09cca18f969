/-! methods, calls, ends, throws over the abstract memory -/
theorem goodIn_g {ws : List Cond} (h : ∀ w ∈ ws, w ∈ gTbl) : GoodIn gTbl ws := fun w hw => ⟨h w hw, good_of_word (gTbl_good (h w hw)).2⟩
/-- what the tables say of a method: its code, its class's start, how many arguments -/
def roomB (Y Z : JM) (k n : Nat) : Bool := Nat.ble (Z.2.2.2.2.2.frames + 1) Y.2.2.2.2.2.frames && Nat.ble (8 + (Z.2.2.1 + 11) + Z.2.2.2.2.2.locals) Y.2.2.2.2.2.locals && Nat.ble (k + Z.2.2.2.2.2.cells) Y.2.2.2.2.2.cells && Nat.ble (n + Z.2.2.2.2.2.slots) Y.2.2.2.2.2.slots
theorem roomB_of {Y Z : JM} {k n : Nat} (h : roomB Y Z k n = true) : Z.2.2.2.2.2.frames + 1 ≤ Y.2.2.2.2.2.frames ∧ 8 + (Z.2.2.1 + 11) + Z.2.2.2.2.2.locals ≤ Y.2.2.2.2.2.locals ∧ k + Z.2.2.2.2.2.cells ≤ Y.2.2.2.2.2.cells ∧ n + Z.2.2.2.2.2.slots ≤ Y.2.2.2.2.2.slots := by
  simp only [roomB, Bool.and_eq_true, Nat.ble_eq] at h
  exact ⟨h.1.1.1, h.1.1.2, h.1.2, h.2⟩
theorem pcJ_blind {Ω : JO} {I : JI} {S : JS} {As : List Value} : FrameBlind (PcJ Ω I S As) := fun a U g mk h => ⟨h.1, h.2.1, Ev.go (u := U) (U := U.calling g mk a) (H := U.heap) (State.WarmedH.refl U) h.2.2 (Nat.le_refl _) (fun _ _ _ => rfl)⟩
section CALLS
variable {Ω : JO} {Y Z : JM} {F : JF} {k n k' n' pc pc' : Nat} {lv lv' : List (Nat × Value)} {st : List Value} {I : JI} {S : JS} {Q : JQ}
theorem call_of {As : List Value} (hpl : plainName Y.1.cls = true) (hh : Y.2.2.2.2.1 = []) (hlen : (lg_sl As).length ≤ Y.2.2.1) (h : AA Ω Y (FQ Ω Y Q) 0 0 0 (lv_args 0 As) [] I S) : Call Ω Y As I S Q := by
  refine vx_ofW (cc := Y.2.1) (maxL := Y.2.2.1) (ret := Y.2.2.2.1) hpl rfl ?_
  intro p e s m args below meth c s₁ B hml htab hv
  obtain ⟨rfl, hw, hev⟩ := hv
  have hts := atoms_spec (ws := Cond.code Y.1 Y.2.1 Y.2.2.1 Y.2.2.2.1 :: gTbl) B.pre
  rw [lg_entry_eq]
  refine h p e s m As.toArray below meth c s.heap [] _ ⟨B.exec, B.bytes, hml, B.returns, findClass_of_methodNamed B.named, fun w hw => hts w (List.mem_cons_of_mem _ hw), B.notSynchronized, (name_of_methodNamed B.named B.method).1, ?_, hev⟩ hw va_S.rf (lv_entry As hlen)
  rw [hh]
  cases hq : c.exceptionTable.toList with
  | nil => rfl
  | cons x l => exact absurd (htab x (by rw [hq]; exact List.mem_cons_self)) id
/-- the goal behind a call -/
def CP (Ω : JO) (Y : JM) (F : JF) (k n pc pc' : Nat) (lv : List (Nat × Value)) (rest : List Value) : JQ := fun o I S => match o with
  | .inl r => AA Ω Y F k n pc' lv (r.toList ++ rest) I S
  | .inr E => AX Ω Y F k n pc lv rest I S E
theorem cpI {r : Int32} (h : AA Ω Y F k n pc' lv (.int r :: st) I S) : CP Ω Y F k n pc pc' lv st (.inl (some (.int r))) I S := h
theorem cpV (h : AA Ω Y F k n pc' lv st I S) : CP Ω Y F k n pc pc' lv st (.inl none) I S := h
theorem cpR {r : Value} (h : AA Ω Y F k n pc' lv (r :: st) I S) : CP Ω Y F k n pc pc' lv st (.inl (some r)) I S := h
theorem cpX {E : String} (h : AX Ω Y F k n pc lv st I S E) : CP Ω Y F k n pc pc' lv st (.inr E) I S := h
theorem aa_run {p : Program} {e : Env} {s : State} {m : MethodId} {args : Array Value} {below : List Frame} {meth : Method} {c : Code} {H : Heap} {locs : List Loc} {ls : Array Slot} {rest : List Value} {a' : Array Value} {Q' : JQ} {mc ms : Nat}
    (C : Cx Ω Y p s m args meth c) (hS : va_S (AR Ω) s.heap H locs) (hl : lv_has ls Y.2.2.1 lv) (hp : pc + 3 = pc') (hk : k + mc = k') (hn : n + ms = n')
    (hr : vx_Run p Ω.1 e Y.2.2.2.2.2 s m args below meth c H locs k n mc ms (F0 m pc ls st) rest (QcJ Ω Q' a') (XCJ Ω Q') (AR Ω)) (hq : ∀ o I S, Q' o I S → CP Ω Y F k' n' pc pc' lv rest o I S) :
    W p Ω.1 e Y.2.2.2.2.2 s m args below meth c H locs k n (F below args s) (F0 m pc ls st) := by
  subst hp; subst hk; subst hn
  intro T hT X
  rcases hr T hT X with ⟨v, st₀, t, T', L, h0, X', hL, e1, e2, ⟨⟨r, I', S', hv, hQ, hw⟩, hF⟩, go⟩ | ⟨q, st₀, t, T', L, E, ce, h0, X', hL, e1, e2, ⟨⟨I', S', hQ, hw⟩, hF⟩, hce, hcv, hcl, go⟩
  · cases hv
    obtain ⟨-, -, k3⟩ := vx_keep h0 e1 hS (fun q _ h => h) (fun q h => h) hL hF
    obtain ⟨t2, a1, b1⟩ := hq _ _ _ hQ p e s m args below meth c T'.heap (locs ++ L) ls C (by rw [e1]; exact hw) k3 hl T' rfl X'
    exact ⟨t2, go t2 a1, b1⟩
  · obtain ⟨-, -, k3⟩ := vx_keep h0 e1 hS (fun q _ h => h) (fun q h => h) hL hF
    obtain ⟨t2, a1, b1⟩ := hq _ _ _ hQ p e s m args below meth c T'.heap (locs ++ L) ls q ce C (by rw [e1]; exact hw) k3 hl (by rw [e1]; exact hce) hcv hcl T' rfl X'
    exact ⟨t2, go.trans a1, b1⟩
theorem callB_g {p : Program} {s : State} {m : MethodId} {args : Array Value} {meth : Method} {c : Code} {idx nn : Nat} (C : Cx Ω Y p s m args meth c) (hb : SB Z nn) (hl : LK Y.1.cls idx Z) (hro : roomB Y Z k n = true) :
    CallB Y.2.2.2.2.2 s args Y.1.cls idx Z.1 Z.2.1 Z.2.2.1 Z.2.2.2.1 (.code Z.1 Z.2.1 Z.2.2.1 Z.2.2.2.1 :: gTbl) Z.2.2.2.2.2 Z.2.2.2.2.2.cells Z.2.2.2.2.2.slots nn := by
  have hts := C.2.2.2.2.2.1
  obtain ⟨h1, h2, h3, -⟩ := roomB_of hro
  refine ⟨rfl, rfl, h1, h2, pay_in hts (goodIn_g fun w hw => ?_), List.mem_cons_self, hts _ hb.1, hts _ hb.2.1, hb.2.2.1, fun sig hs => ?_, hts _ hl⟩
  · rcases List.mem_cons.mp hw with rfl | hw
    · exact hb.1
    · exact hw
  · have h2 := hb.2.2.2
    rw [hs] at h2
    exact (Option.some.inj h2).symm
theorem callN_g {p : Program} {s : State} {m : MethodId} {args : Array Value} {meth : Method} {c : Code} {idx nn : Nat} {host : String} (C : Cx Ω Y p s m args meth c) (hb : SB Z nn) (hl : Cond.methodLinkNest Y.1.cls idx Z.1 host ∈ lw_tbl) (hro : roomB Y Z k n = true) :
    va_CN Y.2.2.2.2.2 s args Y.1.cls idx Z.1 host Z.2.1 Z.2.2.1 Z.2.2.2.1 (.code Z.1 Z.2.1 Z.2.2.1 Z.2.2.2.1 :: gTbl) Z.2.2.2.2.2 Z.2.2.2.2.2.cells Z.2.2.2.2.2.slots nn := by
  have hts := C.2.2.2.2.2.1
  have hev := C.2.2.2.2.2.2.2.2.2
  obtain ⟨h1, h2, h3, -⟩ := roomB_of hro
  refine ⟨⟨rfl, rfl, h1, h2, pay_in hts (goodIn_g fun w hw => ?_), List.mem_cons_self⟩, hts _ hb.1, hts _ hb.2.1, hb.2.2.1, fun sig hs => ?_, va_Nw.use rfl (hev.2.2.2.1 _ _ _ _ hl)⟩
  · rcases List.mem_cons.mp hw with rfl | hw
    · exact hb.1
    · exact hw
  · have h2 := hb.2.2.2
    rw [hs] at h2
    exact (Option.some.inj h2).symm
theorem preS_g {p : Program} {s : State} {m : MethodId} {args : Array Value} {meth : Method} {c : Code} {H : Heap} {locs : List Loc} {As : List Value} (C : Cx Ω Y p s m args meth c) (w : Wd Ω I S H) (hS : va_S (AR Ω) s.heap H locs) : PreS s H (PcJ Ω I S As) As :=
  ⟨pcJ_blind, fun U hU hW => ⟨rfl, by rw [hU]; exact w, by rw [hU]; exact C.2.2.2.2.2.2.2.2.2.go hW hS.1 hS.2.1⟩⟩
theorem preV_g {p : Program} {s : State} {m : MethodId} {args : Array Value} {meth : Method} {c : Code} {H : Heap} {locs : List Loc} {As : List Value} {b ci N : Nat} {T : u_T} {Cn : String} (C : Cx Ω Y p s m args meth c) (w : Wd Ω I S H) (hS : va_S (AR Ω) s.heap H locs) (ho : b ∈ sL S ∧ sK S b = ci) (hci : oK ci) (hc : vwCl[ci]? = some (Cn, T, N)) : PreV s H Cn b (PcJ Ω I S (.ref b :: As)) As := by
  obtain ⟨q0, hq0⟩ := va_pl_get (X := []) (f := cellE Ω I S) ho.1
  rw [cellE_obj ho.2 hci] at hq0
  exact ⟨pcJ_blind, va_recv C.2.2.2.2.2.2.2.2.2.1 w.1 hc hq0, fun U hU hW => ⟨rfl, by rw [hU]; exact w, by rw [hU]; exact C.2.2.2.2.2.2.2.2.2.go hW hS.1 hS.2.1⟩⟩

theorem r_callS {idx nn : Nat} {As rest : List Value} (hd : decode Y.2.1 pc = .ok (.invokestatic idx, 3)) (hb : SB Z nn) (hs : SS Z) (hlk : LK Y.1.cls idx Z) (hAs : As.length = nn) (hst : st = As.reverse ++ rest) (hro : roomB Y Z k n = true) (hk : k + Z.2.2.2.2.2.cells = k') (hn : n + Z.2.2.2.2.2.slots = n') (hrs : (rest.map fun v => v.category).sum ≤ 8) (hp : pc + 3 = pc') (h : Call Ω Z (As) I S (CP Ω Y F k' n' pc pc' lv rest)) : AA Ω Y F k n pc lv st I S := by
  subst hst
  intro p e s m args below meth c H locs ls C w hS hl
  obtain ⟨r1, r2, r3, r4⟩ := roomB_of hro
  exact aa_run C hS hl hp hk hn (vx_runS ⟨C.1, C.2.1, C.2.2.1, C.2.2.2.2.1, C.2.2.2.2.2.1⟩ h ⟨callB_g C hb hlk hro, C.2.2.2.2.2.1 _ hs⟩ (preS_g C w hS) rfl hAs hl.1 rfl (lv_room hrs) hd ⟨r3, r4⟩) (fun _ _ _ h => h)
theorem r_callSN {idx nn : Nat} {As rest : List Value} (hd : decode Y.2.1 pc = .ok (.invokestatic idx, 3)) (hb : SB Z nn) (hs : SS Z) (hlk : LN Y.1.cls idx Z) (hAs : As.length = nn) (hst : st = As.reverse ++ rest) (hro : roomB Y Z k n = true) (hk : k + Z.2.2.2.2.2.cells = k') (hn : n + Z.2.2.2.2.2.slots = n') (hrs : (rest.map fun v => v.category).sum ≤ 8) (hp : pc + 3 = pc') (h : Call Ω Z (As) I S (CP Ω Y F k' n' pc pc' lv rest)) : AA Ω Y F k n pc lv st I S := by
  subst hst
  intro p e s m args below meth c H locs ls C w hS hl
  obtain ⟨r1, r2, r3, r4⟩ := roomB_of hro
  obtain ⟨host, hlk⟩ := hlk
  exact aa_run C hS hl hp hk hn (vx_runSN ⟨C.1, C.2.1, C.2.2.1, C.2.2.2.2.1, C.2.2.2.2.2.1⟩ h ⟨callN_g C hb hlk hro, C.2.2.2.2.2.1 _ hs, trivial⟩ (preS_g C w hS) rfl hAs hl.1 rfl (lv_room hrs) hd ⟨r3, r4⟩) (fun _ _ _ h => h)
theorem r_callV {idx nn : Nat} {As rest : List Value} {b ci N : Nat} {T : u_T} (hd : decode Y.2.1 pc = .ok (.invokevirtual idx, 3)) (hb : SB Z nn) (hs : SI Z) (ho : b ∈ sL S ∧ sK S b = ci) (hci : oK ci) (hc : vwCl[ci]? = some (Z.1.cls, T, N)) (hlk : LK Y.1.cls idx Z) (hAs : As.length = nn) (hst : st = As.reverse ++ .ref b :: rest) (hro : roomB Y Z k n = true) (hk : k + Z.2.2.2.2.2.cells = k') (hn : n + Z.2.2.2.2.2.slots = n') (hrs : (rest.map fun v => v.category).sum ≤ 8) (hp : pc + 3 = pc') (h : Call Ω Z (.ref b :: As) I S (CP Ω Y F k' n' pc pc' lv rest)) : AA Ω Y F k n pc lv st I S := by
  subst hst
  intro p e s m args below meth c H locs ls C w hS hl
  obtain ⟨r1, r2, r3, r4⟩ := roomB_of hro
  exact aa_run C hS hl hp hk hn (vx_runV ⟨C.1, C.2.1, C.2.2.1, C.2.2.2.2.1, C.2.2.2.2.2.1⟩ h ⟨callB_g C hb hlk hro, C.2.2.2.2.2.1 _ hs.1, C.2.2.2.2.2.1 _ hs.2⟩ (preV_g C w hS ho hci hc) rfl hAs hl.1 rfl (lv_room hrs) hd ⟨r3, r4⟩) (fun _ _ _ h => h)
theorem r_callVN {idx nn : Nat} {As rest : List Value} {b ci N : Nat} {T : u_T} (hd : decode Y.2.1 pc = .ok (.invokevirtual idx, 3)) (hb : SB Z nn) (hs : SI Z) (ho : b ∈ sL S ∧ sK S b = ci) (hci : oK ci) (hc : vwCl[ci]? = some (Z.1.cls, T, N)) (hlk : LN Y.1.cls idx Z) (hAs : As.length = nn) (hst : st = As.reverse ++ .ref b :: rest) (hro : roomB Y Z k n = true) (hk : k + Z.2.2.2.2.2.cells = k') (hn : n + Z.2.2.2.2.2.slots = n') (hrs : (rest.map fun v => v.category).sum ≤ 8) (hp : pc + 3 = pc') (h : Call Ω Z (.ref b :: As) I S (CP Ω Y F k' n' pc pc' lv rest)) : AA Ω Y F k n pc lv st I S := by
  subst hst
  intro p e s m args below meth c H locs ls C w hS hl
  obtain ⟨r1, r2, r3, r4⟩ := roomB_of hro
  obtain ⟨host, hlk⟩ := hlk
  exact aa_run C hS hl hp hk hn (vx_runVN ⟨C.1, C.2.1, C.2.2.1, C.2.2.2.2.1, C.2.2.2.2.2.1⟩ h ⟨callN_g C hb hlk hro, C.2.2.2.2.2.1 _ hs.1, C.2.2.2.2.2.1 _ hs.2⟩ (preV_g C w hS ho hci hc) rfl hAs hl.1 rfl (lv_room hrs) hd ⟨r3, r4⟩) (fun _ _ _ h => h)
theorem mk_none {l : Launch} {Z : JM} {ws : List Cond} (h : Z.2.2.2.1 = none) : Cond.code Z.1 Z.2.1 Z.2.2.1 Z.2.2.2.1 = Cond.code Z.1 Z.2.1 Z.2.2.1 none := by rw [h]
theorem r_callI {idx nn : Nat} {As rest : List Value} {b : Nat} (hd : decode Y.2.1 pc = .ok (.invokespecial idx, 3)) (hb : SB Z nn) (hs : SC Z) (hlk : LK Y.1.cls idx Z) (hAs : As.length = nn) (hst : st = As.reverse ++ .ref b :: rest) (hro : roomB Y Z k n = true) (hk : k + Z.2.2.2.2.2.cells = k') (hn : n + Z.2.2.2.2.2.slots = n') (hrs : (rest.map fun v => v.category).sum ≤ 8) (hp : pc + 3 = pc') (h : Call Ω Z (.ref b :: As) I S (CP Ω Y F k' n' pc pc' lv rest)) : AA Ω Y F k n pc lv st I S := by
  subst hst
  intro p e s m args below meth c H locs ls C w hS hl
  obtain ⟨r1, r2, r3, r4⟩ := roomB_of hro
  have cb := callB_g (k := k) (n := n) C hb hlk hro
  unfold Call at h
  rw [hs.2.2] at cb h
  exact aa_run C hS hl hp hk hn (vx_runI ⟨C.1, C.2.1, C.2.2.1, C.2.2.2.2.1, C.2.2.2.2.2.1⟩ h ⟨cb, hs.2.1, C.2.2.2.2.2.1 _ hs.1⟩ (preS_g C w hS) rfl hAs hl.1 rfl (lv_room hrs) hd ⟨r3, r4⟩) (fun _ _ _ h => h)
theorem r_callIN {idx nn : Nat} {As rest : List Value} {b : Nat} (hd : decode Y.2.1 pc = .ok (.invokespecial idx, 3)) (hb : SB Z nn) (hs : SC Z) (hlk : LN Y.1.cls idx Z) (hAs : As.length = nn) (hst : st = As.reverse ++ .ref b :: rest) (hro : roomB Y Z k n = true) (hk : k + Z.2.2.2.2.2.cells = k') (hn : n + Z.2.2.2.2.2.slots = n') (hrs : (rest.map fun v => v.category).sum ≤ 8) (hp : pc + 3 = pc') (h : Call Ω Z (.ref b :: As) I S (CP Ω Y F k' n' pc pc' lv rest)) : AA Ω Y F k n pc lv st I S := by
  subst hst
  intro p e s m args below meth c H locs ls C w hS hl
  obtain ⟨r1, r2, r3, r4⟩ := roomB_of hro
  obtain ⟨host, hlk⟩ := hlk
  have cb := callN_g (k := k) (n := n) C hb hlk hro
  unfold Call at h
  rw [hs.2.2] at cb h
  exact aa_run C hS hl hp hk hn (vx_runIN ⟨C.1, C.2.1, C.2.2.1, C.2.2.2.2.1, C.2.2.2.2.2.1⟩ h ⟨cb, hs.2.1, C.2.2.2.2.2.1 _ hs.1⟩ (preS_g C w hS) rfl hAs hl.1 rfl (lv_room hrs) hd ⟨r3, r4⟩) (fun _ _ _ h => h)
theorem r_objInit {idx a : Nat} {rest : List Value} (hd : decode Y.2.1 pc = .ok (.invokespecial idx, 3)) (h1 : Cond.methodLink Y.1.cls idx Lib.objectInit ∈ gTbl) (h2 : Cond.instanceMethod Lib.objectInit ∈ gTbl) (h3 : Cond.code Lib.objectInit ⟨#[0xb1]⟩ 1 none ∈ gTbl) (hf : 1 ≤ Y.2.2.2.2.2.frames) (hlo : (rest.map fun v => v.category).sum + 12 ≤ Y.2.2.2.2.2.locals) (hp : pc + 3 = pc') (h : AA Ω Y F k n pc' lv rest I S) : AA Ω Y F k n pc lv (.ref a :: rest) I S := by
  subst hp
  intro p e s m args below meth c H locs ls C w hS hl
  exact W.objInit C.1 C.2.1 C.2.2.2.2.1 (C.2.2.2.2.2.1 _ h1) (C.2.2.2.2.2.1 _ h2) (C.2.2.2.2.2.1 _ h3) rfl (by rw [C.2.2.1]; exact hl.1) rfl hd hf (by show 2 * 0 + _ + 12 ≤ _; omega) (h p e s m args below meth c H locs ls C w hS hl)
theorem r_iret {v : Int32} (hd : decode Y.2.1 pc = .ok (.ireturn, 1)) (hr : Y.2.2.2.1 = some .int) (hk : k ≤ Y.2.2.2.2.2.cells) (hn : n ≤ Y.2.2.2.2.2.slots) (h : Q (.inl (some (.int v))) I S) : AA Ω Y (FQ Ω Y Q) k n pc lv [.int v] I S := by
  intro p e s m args below meth c H locs ls C w hS hl
  refine W.widen hk hn (vx_ret (W.iret C.1 C.2.1 (C.2.2.2.1.trans hr)  (fun t ht _ => ⟨⟨_, I, S, rfl, h, by rw [ht]; exact w⟩, va_SF hS ht⟩) hS.2.2 hd C.2.2.2.2.2.2.1))
theorem r_zret {v : Int32} (hd : decode Y.2.1 pc = .ok (.ireturn, 1)) (hr : Y.2.2.2.1 = some .boolean) (hv : v = 0 ∨ v = 1) (hk : k ≤ Y.2.2.2.2.2.cells) (hn : n ≤ Y.2.2.2.2.2.slots) (h : Q (.inl (some (.int v))) I S) : AA Ω Y (FQ Ω Y Q) k n pc lv [.int v] I S := by
  intro p e s m args below meth c H locs ls C w hS hl
  refine W.widen hk hn (vx_ret (W.zret C.1 C.2.1 (C.2.2.2.1.trans hr) (by rcases hv with rfl | rfl <;> rfl) (fun t ht _ => ⟨⟨_, I, S, rfl, h, by rw [ht]; exact w⟩, va_SF hS ht⟩) hS.2.2 hd C.2.2.2.2.2.2.1))
theorem r_fret {v : UInt32} (hd : decode Y.2.1 pc = .ok (.freturn, 1)) (hr : Y.2.2.2.1 = some .float) (hk : k ≤ Y.2.2.2.2.2.cells) (hn : n ≤ Y.2.2.2.2.2.slots) (h : Q (.inl (some (.float v))) I S) : AA Ω Y (FQ Ω Y Q) k n pc lv [.float v] I S := by
  intro p e s m args below meth c H locs ls C w hS hl
  refine W.widen hk hn (vx_ret (W.fret C.1 C.2.1 (C.2.2.2.1.trans hr)  (fun t ht _ => ⟨⟨_, I, S, rfl, h, by rw [ht]; exact w⟩, va_SF hS ht⟩) hS.2.2 hd C.2.2.2.2.2.2.1))
theorem r_dret {v : UInt64} (hd : decode Y.2.1 pc = .ok (.dreturn, 1)) (hr : Y.2.2.2.1 = some .double) (hk : k ≤ Y.2.2.2.2.2.cells) (hn : n ≤ Y.2.2.2.2.2.slots) (h : Q (.inl (some (.double v))) I S) : AA Ω Y (FQ Ω Y Q) k n pc lv [.double v] I S := by
  intro p e s m args below meth c H locs ls C w hS hl
  refine W.widen hk hn (vx_ret (W.dret C.1 C.2.1 (C.2.2.2.1.trans hr)  (fun t ht _ => ⟨⟨_, I, S, rfl, h, by rw [ht]; exact w⟩, va_SF hS ht⟩) hS.2.2 hd C.2.2.2.2.2.2.1))
theorem r_ret  (hd : decode Y.2.1 pc = .ok (.return_, 1)) (hr : Y.2.2.2.1 = none) (hk : k ≤ Y.2.2.2.2.2.cells) (hn : n ≤ Y.2.2.2.2.2.slots) (h : Q (.inl none) I S) : AA Ω Y (FQ Ω Y Q) k n pc lv [] I S := by
  intro p e s m args below meth c H locs ls C w hS hl
  refine W.widen hk hn (vx_ret (W.vret C.1 C.2.1 (C.2.2.2.1.trans hr)  (fun t ht _ => ⟨⟨_, I, S, rfl, h, by rw [ht]; exact w⟩, va_SF hS ht⟩) hS.2.2 hd C.2.2.2.2.2.2.1))
theorem r_aret {v : Value} {rt : FieldType} (hd : decode Y.2.1 pc = .ok (.areturn, 1)) (hr : Y.2.2.2.1 = some rt) (hrt : (∃ n, rt = .object n) ∨ ∃ t, rt = .array t) (hv : v = .null ∨ ∃ a, v = .ref a) (hk : k ≤ Y.2.2.2.2.2.cells) (hn : n ≤ Y.2.2.2.2.2.slots) (h : Q (.inl (some v)) I S) : AA Ω Y (FQ Ω Y Q) k n pc lv [v] I S := by
  intro p e s m args below meth c H locs ls C w hS hl
  refine W.widen hk hn (vx_ret (W.aret C.1 C.2.1 (C.2.2.2.1.trans hr) hrt hv (fun t ht _ => ⟨⟨_, I, S, rfl, h, by rw [ht]; exact w⟩, va_SF hS ht⟩) hS.2.2 hd C.2.2.2.2.2.2.1))
theorem ax_out {E : String} (hh : Y.2.2.2.2.1 = []) (hk : k ≤ Y.2.2.2.2.2.cells) (hn : n ≤ Y.2.2.2.2.2.slots) (h : Q (.inr E) I S) : AX Ω Y (FQ Ω Y Q) k n pc lv st I S E := by
  intro p e s m args below meth c H locs ls q ce C w hS hl hce hcv hcl
  refine vx_out (fun x hx => ?_) C.2.2.2.2.2.2.1 hce hcv hcl (fun t ht _ => ⟨⟨I, S, h, by rw [ht]; exact w⟩, va_SF hS ht⟩) hS.2.2 hk hn
  rw [C.2.2.2.2.2.2.2.2.1, hh] at hx
  cases hx
/-- what the tables say of a throw 'new E("text")' -/
theorem r_throw {ik is ic : Nat} {cls text : String} {rest : List Value} (d0 : decode Y.2.1 pc = .ok (.new ik, 3)) (d3 : decode Y.2.1 (pc + 3) = .ok (.dup, 1)) (d4 : decode Y.2.1 (pc + 4) = .ok (.ldc is, 2)) (d6 : decode Y.2.1 (pc + 6) = .ok (.invokespecial ic, 3)) (d9 : decode Y.2.1 (pc + 9) = .ok (.athrow, 1)) (ht : TH Y.1.cls ik is ic cls text) (hh : Y.2.2.2.2.1 = []) (hf : 5 < Y.2.2.2.2.2.frames) (hlo : (rest.map fun v => v.category).sum + 82 ≤ Y.2.2.2.2.2.locals) (hc : k + 1 ≤ Y.2.2.2.2.2.cells) (hs : n + 6 ≤ Y.2.2.2.2.2.slots) (hT : sT S = none) (h : Q (.inr cls) I S) : AA Ω Y (FQ Ω Y Q) k n pc lv rest I S := by
  intro p e s m args below meth c H locs ls C w hS hl
  obtain ⟨t1, t2, t3, t4, t5, t6, t7⟩ := ht
  have hev := C.2.2.2.2.2.2.2.2.2
  have hts := C.2.2.2.2.2.1
  have hstr := (hev.2.2.2.2.2.2.1 _ _ _ t3).1
  refine vx_throwS C.1 C.2.1 hev.2.2.2.2.2.2.2.2.2.1 C.2.2.2.2.1 t6 t7 (hts _ t1) (hts _ t2) hstr (fun w hw => ?_) t5 hev.2.1 hev.2.2.1 hS (hl.1.trans C.2.2.1.symm) d0 d3 d4 d6 d9 (fun x hx => ?_) (by simpa using hf) (by simpa using hlo) hc hs C.2.2.2.2.2.2.1 (fun t hal hz hq => ⟨⟨I, S, h, ?_, w.2.1, fun z hz => absurd (hT.symm.trans hz) (by simp)⟩, ?_, ?_⟩) hS.2.2 hc hs
  · rcases t4 w hw with h1 | ⟨h1, h2⟩
    · exact hts _ h1
    · cases w with
      | castable a b => exact va_Nw.use rfl (hev.2.2.2.2.1.1 a b h1)
      | declares y => exact va_Nw.use rfl (hev.2.2.2.2.1.2 y h1)
      | _ => exact absurd h2 Bool.false_ne_true
  · rw [C.2.2.2.2.2.2.2.2.1, hh] at hx
    cases hx
  · exact w.1.kept fun k9 q9 hk9 => hq _ (w.1 k9 q9 hk9).lt
  · exact Nat.le_trans hS.1 hz
  · intro q h1 h2
    rw [hq q (Nat.lt_of_lt_of_le h1 hS.1)]
    exact hS.2.1 q h1 h2
end CALLS
