/-! more rules of the machine over the abstract memory: longs, nest mates' fields, statics, references, calls of inherited methods, making things at an end of the heap that has no name -/
def jn (Q : Option Value → JI → JS → Prop) : JQ := fun o I S => match o with
  | .inl r => Q r I S
  | .inr _ => False
def wT (S : JS) (z : Nat) : JS := (S.1, S.2.1, S.2.2.1, S.2.2.2.1, S.2.2.2.2.1, S.2.2.2.2.2.1, some z)
section MORE
variable {Ω : JO} {Y Z : JM} {F : JF} {k n k' n' pc pc' : Nat} {lv lv' : List (Nat × Value)} {st rest : List Value} {I : JI} {S : JS}
theorem r_lload_n {i : Fin 4} {j : Nat} {x : Int64} (hd : decode Y.2.1 pc = .ok (.lload_n i, 1)) (hi : (i : Nat) = j) (pl : Nat) (hl0 : lv[pl]? = some (j, .long x)) (hp : pc + 1 = pc') (h : AA Ω Y F k n pc' lv (.long x :: st) I S) : AA Ω Y F k n pc lv (st) I S := by
  subst hp
  exact fun p e s m args below meth c H locs ls C w hS hl => lv_lload_n C.1 C.2.1 hd hi (lv_at hl pl hl0) (h p e s m args below meth c H locs ls C w hS hl)
theorem r_lload {i : Nat} {x : Int64} (hd : decode Y.2.1 pc = .ok (.lload i, 2)) (pl : Nat) (hl0 : lv[pl]? = some (i, .long x)) (hp : pc + 2 = pc') (h : AA Ω Y F k n pc' lv (.long x :: st) I S) : AA Ω Y F k n pc lv (st) I S := by
  subst hp
  exact fun p e s m args below meth c H locs ls C w hS hl => lv_lload C.1 C.2.1 hd (lv_at hl pl hl0) (h p e s m args below meth c H locs ls C w hS hl)
theorem r_lstore {i : Nat} {x : Int64} (hd : decode Y.2.1 pc = .ok (.lstore i, 2)) (hn : i + 1 < Y.2.2.1) (hlv : (i, Value.long x) :: lv.filter (fun q => !(q.1 == i) && (!(q.1 == i + 1) && !(q.1 + 1 == i && q.2.category == 2))) = lv') (hp : pc + 2 = pc') (h : AA Ω Y F k n pc' lv' st I S) : AA Ω Y F k n pc lv (.long x :: st) I S := by
  subst hp
  exact fun p e s m args below meth c H locs ls C w hS hl => lv_lstore C.1 C.2.1 hd hl hn hlv (fun ls' hl' => h p e s m args below meth c H locs ls' C w hS hl')
theorem r_ladd {x y : Int64} (hd : decode Y.2.1 pc = .ok (.ladd, 1)) (hp : pc + 1 = pc') (h : AA Ω Y F k n pc' lv (.long (x + y) :: st) I S) : AA Ω Y F k n pc lv (.long y :: .long x :: st) I S := by
  subst hp
  exact fun p e s m args below meth c H locs ls C w hS hl => lv_ladd C.1 C.2.1 hd (h p e s m args below meth c H locs ls C w hS hl)
theorem r_lmul {x y : Int64} (hd : decode Y.2.1 pc = .ok (.lmul, 1)) (hp : pc + 1 = pc') (h : AA Ω Y F k n pc' lv (.long (x * y) :: st) I S) : AA Ω Y F k n pc lv (.long y :: .long x :: st) I S := by
  subst hp
  exact fun p e s m args below meth c H locs ls C w hS hl => lv_lmul C.1 C.2.1 hd (h p e s m args below meth c H locs ls C w hS hl)
theorem r_land {x y : Int64} (hd : decode Y.2.1 pc = .ok (.land, 1)) (hp : pc + 1 = pc') (h : AA Ω Y F k n pc' lv (.long (x &&& y) :: st) I S) : AA Ω Y F k n pc lv (.long y :: .long x :: st) I S := by
  subst hp
  exact fun p e s m args below meth c H locs ls C w hS hl => lv_land C.1 C.2.1 hd (h p e s m args below meth c H locs ls C w hS hl)
theorem r_lshl {x v : Int64} {y : Int32} (hd : decode Y.2.1 pc = .ok (.lshl, 1)) (hv : x <<< (y.toInt64 &&& 63) = v) (hp : pc + 1 = pc') (h : AA Ω Y F k n pc' lv (.long v :: st) I S) : AA Ω Y F k n pc lv (.int y :: .long x :: st) I S := by
  subst hp
  exact fun p e s m args below meth c H locs ls C w hS hl => lv_lshl C.1 C.2.1 hd hv (h p e s m args below meth c H locs ls C w hS hl)
theorem r_lcmp {x y : Int64} (hd : decode Y.2.1 pc = .ok (.lcmp, 1)) (hp : pc + 1 = pc') (h : AA Ω Y F k n pc' lv (.int (lg_cmp x y) :: st) I S) : AA Ω Y F k n pc lv (.long y :: .long x :: st) I S := by
  subst hp
  exact fun p e s m args below meth c H locs ls C w hS hl => W.lcmp C.1 C.2.1 hd (h p e s m args below meth c H locs ls C w hS hl)
theorem r_ldc2 {idx : Nat} {v : Int64} (hd : decode Y.2.1 pc = .ok (.ldc2_w idx, 3)) (hc : Cond.constantLong Y.1.cls idx v ∈ gTbl) (hp : pc + 3 = pc') (h : AA Ω Y F k n pc' lv (.long v :: st) I S) : AA Ω Y F k n pc lv st I S := by
  subst hp
  exact fun p e s m args below meth c H locs ls C w hS hl => lv_ldc2 C.1 C.2.1 C.2.2.2.2.1 (C.2.2.2.2.2.1 _ hc) hd (h p e s m args below meth c H locs ls C w hS hl)
theorem r_ldc {idx : Nat} {v : Int32} (hd : decode Y.2.1 pc = .ok (.ldc idx, 2)) (hc : Cond.constant Y.1.cls idx v ∈ gTbl) (hp : pc + 2 = pc') (h : AA Ω Y F k n pc' lv (.int v :: st) I S) : AA Ω Y F k n pc lv st I S := by
  subst hp
  exact fun p e s m args below meth c H locs ls C w hS hl => lv_ldc C.1 C.2.1 C.2.2.2.2.1 (C.2.2.2.2.2.1 _ hc) hd (h p e s m args below meth c H locs ls C w hS hl)
theorem r_dup_x1 {a b : Value} (hd : decode Y.2.1 pc = .ok (.dup_x1, 1)) (h1 : a.category = 1) (h2 : b.category = 1) (hp : pc + 1 = pc') (h : AA Ω Y F k n pc' lv (a :: b :: a :: st) I S) : AA Ω Y F k n pc lv (a :: b :: st) I S := by
  subst hp
  exact fun p e s m args below meth c H locs ls C w hS hl => lv_dup_x1 C.1 C.2.1 hd h1 h2 (h p e s m args below meth c H locs ls C w hS hl)
theorem r_dup_x2 {a b d : Value} (hd : decode Y.2.1 pc = .ok (.dup_x2, 1)) (h1 : a.category = 1) (h2 : b.category = 1) (h3 : d.category = 1) (hp : pc + 1 = pc') (h : AA Ω Y F k n pc' lv (a :: b :: d :: a :: st) I S) : AA Ω Y F k n pc lv (a :: b :: d :: st) I S := by
  subst hp
  exact fun p e s m args below meth c H locs ls C w hS hl => lv_dup_x2 C.1 C.2.1 hd h1 h2 h3 (h p e s m args below meth c H locs ls C w hS hl)
theorem r_acmp_eq {x y : Nat} {off : Int} {tgt : Nat} (hd : decode Y.2.1 pc = .ok (.if_acmp .eq off, 3)) (ht : (pc : Int) + off = (tgt : Int)) (hp : pc + 3 = pc') (kt : x = y → AA Ω Y F k n tgt lv st I S) (kf : ¬ x = y → AA Ω Y F k n pc' lv st I S) : AA Ω Y F k n pc lv (.ref y :: .ref x :: st) I S := by
  subst hp
  exact fun p e s m args below meth c H locs ls C w hS hl => lv_acmp_eq (rx := some x) (ry := some y) C.1 C.2.1 hd ht (fun q => kt (Option.some.inj q) p e s m args below meth c H locs ls C w hS hl) (fun q => kf (fun q' => q (congrArg some q')) p e s m args below meth c H locs ls C w hS hl)
theorem r_acmp_ne {x y : Nat} {off : Int} {tgt : Nat} (hd : decode Y.2.1 pc = .ok (.if_acmp .ne off, 3)) (ht : (pc : Int) + off = (tgt : Int)) (hp : pc + 3 = pc') (kt : ¬ x = y → AA Ω Y F k n tgt lv st I S) (kf : x = y → AA Ω Y F k n pc' lv st I S) : AA Ω Y F k n pc lv (.ref y :: .ref x :: st) I S := by
  subst hp
  exact fun p e s m args below meth c H locs ls C w hS hl => lv_acmp_ne (rx := some x) (ry := some y) C.1 C.2.1 hd ht (fun q => kt (fun q' => q (congrArg some q')) p e s m args below meth c H locs ls C w hS hl) (fun q => kf (Option.some.inj q) p e s m args below meth c H locs ls C w hS hl)
theorem r_ifnull {x : Nat} {off : Int} (hd : decode Y.2.1 pc = .ok (.ifnull off, 3)) (hp : pc + 3 = pc') (h : AA Ω Y F k n pc' lv st I S) : AA Ω Y F k n pc lv (.ref x :: st) I S := by
  subst hp
  exact fun p e s m args below meth c H locs ls C w hS hl => lv_ifnull C.1 C.2.1 hd (h p e s m args below meth c H locs ls C w hS hl)
theorem r_lret {v : Int64} {Q : JQ} (hd : decode Y.2.1 pc = .ok (.lreturn, 1)) (hr : Y.2.2.2.1 = some .long) (hk : k ≤ Y.2.2.2.2.2.cells) (hn : n ≤ Y.2.2.2.2.2.slots) (h : Q (.inl (some (.long v))) I S) : AA Ω Y (FQ Ω Y Q) k n pc lv [.long v] I S := by
  intro p e s m args below meth c H locs ls C w hS hl
  refine W.widen hk hn (vx_ret (W.lret C.1 C.2.1 (C.2.2.2.1.trans hr) (fun t ht _ => ⟨⟨_, I, S, rfl, h, by rw [ht]; exact w⟩, va_SF hS ht⟩) hS.2.2 hd C.2.2.2.2.2.2.1))
/-! statics; nest mates' fields; a field by another class's name -/
theorem evx {p : Program} {s : State} {m : MethodId} {args : Array Value} {meth : Method} {c : Code} (C : Cx Ω Y p s m args meth c) : EvX Ω s s.heap := C.2.2.2.2.2.2.2.2.2.2.2.2.2.2.2.2.1.2
theorem r_gets {idx : Nat} {cn nm ds : String} {v : Value} (hd : decode Y.2.1 pc = .ok (.getstatic idx, 3)) (hf : Cond.fieldLink Y.1.cls idx cn nm ds ∈ gTbl) (hz : ∀ (U : State) (H : Heap), EvX Ω U H → va_Z cn nm ds v (AR Ω) U H) (hp : pc + 3 = pc') (h : AA Ω Y F k n pc' lv (v :: st) I S) : AA Ω Y F k n pc lv st I S := by
  subst hp
  exact fun p e s m args below meth c H locs ls C w hS hl => va_gets C.1 C.2.1 (hz _ _ (evx C)) hS C.2.2.2.2.1 (C.2.2.2.2.2.1 _ hf) (fun x h => h) hd (h p e s m args below meth c H locs ls C w hS hl)
theorem r_getNE {ci j idx a : Nat} {t : FieldType} {fin : Bool} (hd : decode Y.2.1 pc = .ok (.getfield idx, 3)) (hf : FN Y.1.cls idx ci j t fin) (ha : a ∈ sL S) (hk : sK S a = ci) (hp : pc + 3 = pc') (h : AA Ω Y F k n pc' lv (fvE ci I S a j :: st) I S) : AA Ω Y F k n pc lv (.ref a :: st) I S := by
  subst hp
  intro p e s m args below meth c H locs ls C w hS hl
  obtain ⟨Cn, T, N, ty, host, f1, f2, f3, f4, f5, f6, -⟩ := hf
  obtain ⟨q0, hq0⟩ := va_pl_get (X := []) (f := cellE Ω I S) ha
  rw [cellE_obj hk f3] at hq0
  exact va_getN C.1 C.2.1 C.2.2.2.2.2.1 f5 C.2.2.2.2.1 C.2.2.2.2.2.2.2.2.2.1 w.1 q0 hq0 f1 j f4 (va_Nw.use rfl ((evx C).2.2.2.2.1 _ _ _ _ _ _ f6)) (fun x h => h) (flE_get (by rw [← f2]; exact f4)) hd (h p e s m args below meth c H locs ls C w hS hl)
theorem r_getNI {ci j idx a : Nat} {t : FieldType} {fin : Bool} (hd : decode Y.2.1 pc = .ok (.getfield idx, 3)) (hf : FN Y.1.cls idx ci j t fin) (ho : a ∈ sL S ∧ sK S a = ci) (hr : isR ci j = false) (hp : pc + 3 = pc') (h : AA Ω Y F k n pc' lv (.int (I a j) :: st) I S) : AA Ω Y F k n pc lv (.ref a :: st) I S :=
  r_getNE hd hf ho.1 ho.2 hp (by unfold fvE; rw [hr]; exact h)
theorem r_getNO {ci j idx a v : Nat} {t : FieldType} {fin : Bool} (hd : decode Y.2.1 pc = .ok (.getfield idx, 3)) (hf : FN Y.1.cls idx ci j t fin) (ho : a ∈ sL S ∧ sK S a = ci) (hr : isR ci j = true) (hv : sR S a j = some v) (hp : pc + 3 = pc') (h : AA Ω Y F k n pc' lv (.ref v :: st) I S) : AA Ω Y F k n pc lv (.ref a :: st) I S :=
  r_getNE hd hf ho.1 ho.2 hp (by unfold fvE; rw [hr, hv]; exact h)
theorem r_putNE {ci j idx a : Nat} {t : FieldType} {v : Value} {I' : JI} {S' : JS} (hd : decode Y.2.1 pc = .ok (.putfield idx, 3)) (hf : FN Y.1.cls idx ci j t false) (ho : a ∈ sL S ∧ sK S a = ci) (hn : narrow t v = v) (hfit : fits t v = true) (hc : ∀ b, va_up (cellE Ω I S) a (.inr (ci, (flE ci I S a).set j v)) b = cellE Ω I' S' b) (hL : sL S' = sL S) (hT : sT S' = none) (hp : pc + 3 = pc') (h : AA Ω Y F k n pc' lv st I' S') : AA Ω Y F k n pc lv (v :: .ref a :: st) I S := by
  subst hp
  intro p e s m args below meth c H locs ls C w hS hl
  obtain ⟨ha, hk⟩ := ho
  obtain ⟨Cn, T, N, ty, host, f1, f2, f3, f4, f5, f6, f7, f8, f9, f10⟩ := hf
  obtain ⟨q0, hq1⟩ := va_pl_get (X := []) (f := cellE Ω I S) ha
  have hq0 := hq1
  rw [cellE_obj hk f3] at hq0
  refine va_putN C.1 C.2.1 C.2.2.2.2.2.1 f5 ty f7 f8 C.2.2.2.2.1 C.2.2.2.2.2.2.2.2.2.1 w.1 w.2.1 hS q0 hq0 f1 j f4 (va_Nw.use rfl ((evx C).2.2.2.2.1 _ _ _ _ _ _ f6)) (fun x h => h) f9 (by rw [f7 j f4, f10]) hn hfit (by simp [flE]; rw [← f2]; exact f4) hd fun H1 locs1 e1 e2 e3 => ?_
  rw [va_pl_set w.2.1 ha hq1, va_pl_congr hc] at e1 e2
  exact h p e s m args below meth c H1 locs1 ls C ⟨by rw [hL]; exact e1, by rw [hL]; exact e2, fun z hz => by rw [hT] at hz; cases hz⟩ e3 hl
theorem r_putNI {ci j idx a : Nat} {v : Int32} (hd : decode Y.2.1 pc = .ok (.putfield idx, 3)) (hf : FN Y.1.cls idx ci j .int false) (ho : a ∈ sL S ∧ sK S a = ci) (hT : sT S = none) (hr : isR ci j = false) (hp : pc + 3 = pc') (h : AA Ω Y F k n pc' lv st (stI I a j v) S) : AA Ω Y F k n pc lv (.int v :: .ref a :: st) I S :=
  r_putNE hd hf ho rfl rfl (up_I ho.2 (by obtain ⟨_, _, _, _, _, _, _, f3, _⟩ := hf; exact f3) hr) rfl hT hp h
theorem r_putNR {ci j idx a : Nat} {t : FieldType} {v : Nat} (hd : decode Y.2.1 pc = .ok (.putfield idx, 3)) (hf : FN Y.1.cls idx ci j t false) (ho : a ∈ sL S ∧ sK S a = ci) (hT : sT S = none) (hr : isR ci j = true) (ht : narrow t (.ref v) = .ref v ∧ fits t (.ref v) = true) (hp : pc + 3 = pc') (h : AA Ω Y F k n pc' lv st I (stR S a j (some v))) : AA Ω Y F k n pc lv (.ref v :: .ref a :: st) I S :=
  r_putNE hd hf ho ht.1 ht.2 (up_R (r := some v) ho.2 (by obtain ⟨_, _, _, _, _, _, _, f3, _⟩ := hf; exact f3) hr) rfl hT hp h
theorem fs_same {args : Array Value} {s : State} {ref o nm d : String} {ws : List Cond} (hts : ∀ w ∈ ws, w.before args s = true) (h : Cond.sameField ref o nm d ∈ ws) : ∀ x, s.fieldFound? o nm d = some x → s.fieldFound? ref nm d = some x := by
  have h1 := hts _ h
  intro x hx
  have h2 := h1
  unfold Cond.before at h2
  cases hq : s.fieldFound? ref nm d with
  | none => simp [Cond.before, Cond.holds, Cond.value, hq] at h1
  | some y =>
    obtain ⟨c, kk, i, f⟩ := y
    rw [← Cond.sameField_spec hq h2, hx]
theorem r_getSI {ci j idx a : Nat} {t : FieldType} {fin : Bool} (hd : decode Y.2.1 pc = .ok (.getfield idx, 3)) (hf : FS Y.1.cls idx ci j t fin) (ho : a ∈ sL S ∧ sK S a = ci) (hr : isR ci j = false) (hp : pc + 3 = pc') (h : AA Ω Y F k n pc' lv (.int (I a j) :: st) I S) : AA Ω Y F k n pc lv (.ref a :: st) I S := by
  subst hp
  intro p e s m args below meth c H locs ls C w hS hl
  obtain ⟨Cn, T, N, ty, ref, f1, f2, f3, f4, f5, f6, f7, f8, f9, f10, f11⟩ := hf
  obtain ⟨q0, hq0⟩ := va_pl_get (X := []) (f := cellE Ω I S) ho.1
  rw [cellE_obj ho.2 f3] at hq0
  exact va_get C.1 C.2.1 C.2.2.2.2.2.1 f5 C.2.2.2.2.1 C.2.2.2.2.2.2.2.2.2.1 w.1 q0 hq0 f1 j f4 (C.2.2.2.2.2.1 _ f6) (fs_same C.2.2.2.2.2.1 f11) (flE_get (by rw [← f2]; exact f4)) hd (by unfold fvE; rw [hr]; exact h p e s m args below meth c H locs ls C w hS hl)
theorem r_putSI {ci j idx a : Nat} {v : Int32} (hd : decode Y.2.1 pc = .ok (.putfield idx, 3)) (hf : FS Y.1.cls idx ci j .int false) (ho : a ∈ sL S ∧ sK S a = ci) (hT : sT S = none) (hr : isR ci j = false) (hp : pc + 3 = pc') (h : AA Ω Y F k n pc' lv st (stI I a j v) S) : AA Ω Y F k n pc lv (.int v :: .ref a :: st) I S := by
  subst hp
  intro p e s m args below meth c H locs ls C w hS hl
  obtain ⟨ha, hk⟩ := ho
  obtain ⟨Cn, T, N, ty, ref, f1, f2, f3, f4, f5, f6, f7, f8, f9, f10, f11⟩ := hf
  obtain ⟨q0, hq1⟩ := va_pl_get (X := []) (f := cellE Ω I S) ha
  have hq0 := hq1
  rw [cellE_obj hk f3] at hq0
  refine va_put C.1 C.2.1 C.2.2.2.2.2.1 f5 ty f7 f8 C.2.2.2.2.1 C.2.2.2.2.2.2.2.2.2.1 w.1 w.2.1 hS q0 hq0 f1 j f4 (C.2.2.2.2.2.1 _ f6) (fs_same C.2.2.2.2.2.1 f11) f9 (by rw [f7 j f4, f10]) (v := .int v) rfl rfl (by simp [flE]; rw [← f2]; exact f4) hd fun H1 locs1 e1 e2 e3 => ?_
  rw [va_pl_set w.2.1 ha hq1, va_pl_congr (up_I hk f3 hr)] at e1 e2
  exact h p e s m args below meth c H1 locs1 ls C ⟨e1, e2, fun z hz => by rw [hT] at hz; cases hz⟩ e3 hl
/-! the script, the empty row, the boxes: old things that are read -/
theorem r_scLen {v : Int32} (hd : decode Y.2.1 pc = .ok (.arraylength, 1)) (hv : Int32.ofNat (oS Ω).2.1 = v) (hp : pc + 1 = pc') (h : AA Ω Y F k n pc' lv (.int v :: st) I S) : AA Ω Y F k n pc lv (.ref (oS Ω).1 :: st) I S := by
  subst hp
  exact fun p e s m args below meth c H locs ls C w hS hl => va_tlen C.1 C.2.1 (evx C).1 hS hv hd (h p e s m args below meth c H locs ls C w hS hl)
theorem r_scAt {i : Int32} (hd : decode Y.2.1 pc = .ok (.iaload, 1)) (hin : vp_in i (oS Ω).2.1) (hp : pc + 1 = pc') (h : AA Ω Y F k n pc' lv (.int ((oS Ω).2.2 i.toNatClampNeg) :: st) I S) : AA Ω Y F k n pc lv (.int i :: .ref (oS Ω).1 :: st) I S := by
  subst hp
  exact fun p e s m args below meth c H locs ls C w hS hl => va_ti C.1 C.2.1 (evx C).1 hS hin rfl hd (h p e s m args below meth c H locs ls C w hS hl)
theorem r_e0Len {v : Int32} (hd : decode Y.2.1 pc = .ok (.arraylength, 1)) (hv : (0 : Int32) = v) (hp : pc + 1 = pc') (h : AA Ω Y F k n pc' lv (.int v :: st) I S) : AA Ω Y F k n pc lv (.ref (oE Ω) :: st) I S := by
  subst hp
  exact fun p e s m args below meth c H locs ls C w hS hl => va_tlen C.1 C.2.1 (evx C).2.1.2 hS hv hd (h p e s m args below meth c H locs ls C w hS hl)
theorem r_boxAt {i : Int32} (hd : decode Y.2.1 pc = .ok (.aaload, 1)) (hin : vp_in i 256) (hp : pc + 1 = pc') (h : AA Ω Y F k n pc' lv (.ref (oB Ω i.toNatClampNeg) :: st) I S) : AA Ω Y F k n pc lv (.int i :: .ref (oC Ω) :: st) I S := by
  subst hp
  exact fun p e s m args below meth c H locs ls C w hS hl => vb_tq C.1 C.2.1 (evx C).2.2.1.2.2.1 hS hin rfl hd (h p e s m args below meth c H locs ls C w hS hl)
theorem r_boxGet {idx i : Nat} (hd : decode Y.2.1 pc = .ok (.getfield idx, 3)) (hi : i < 256) (hf : Cond.fieldLink Y.1.cls idx "java/lang/Integer" "value" "I" ∈ gTbl) (hp : pc + 3 = pc') (h : AA Ω Y F k n pc' lv (.int (vb_c i) :: st) I S) : AA Ω Y F k n pc lv (.ref (oB Ω i) :: st) I S := by
  subst hp
  exact fun p e s m args below meth c H locs ls C w hS hl => va_getX (i := i) (v := fun k => .int (vb_c k)) C.1 C.2.1 (evx C).2.2.1.2.2.2.2 hi hS C.2.2.2.2.1 (C.2.2.2.2.2.1 _ hf) (fun x h => h) hd (h p e s m args below meth c H locs ls C w hS hl)
end MORE
