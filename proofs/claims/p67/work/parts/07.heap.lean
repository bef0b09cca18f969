/-! fields and arrays over the abstract memory -/
def stI (I : JI) (a k : Nat) (v : Int32) : JI := fun b j => if b = a then (if j = k then v else I b j) else I b j
def stR (S : JS) (a k : Nat) (r : Option Nat) : JS := (S.1, S.2.1, S.2.2.1, fun b j => if b = a then (if j = k then r else sR S b j) else sR S b j, S.2.2.2.2)
def stX (S : JS) (a k : Nat) (v : Int64) : JS := (S.1, S.2.1, S.2.2.1, S.2.2.2.1, fun b j => if b = a then (if j = k then v else sX S b j) else sX S b j, S.2.2.2.2.2)
def stY (S : JS) (a k : Nat) (v : UInt64) : JS := (S.1, S.2.1, S.2.2.1, S.2.2.2.1, S.2.2.2.2.1, fun b j => if b = a then (if j = k then v else sY S b j) else sY S b j, S.2.2.2.2.2.2)
/-- a row of ints of n places in the world (11 int, 10 byte, 12 boolean), of longs (14), of doubles (15), of references (13); no more is made by name -/
def ArE (ty : Nat) (S : JS) (a n : Nat) : Prop := a ∈ sL S ∧ sK S a = ty ∧ sN S a = n ∧ sT S = none
theorem cellE_obj {Ω : JO} {I : JI} {S : JS} {a ci : Nat} (hk : sK S a = ci) (hc : oK ci) : cellE Ω I S a = .inr (ci, flE ci I S a) := by
  subst hk
  unfold cellE
  rw [if_pos hc]
theorem flE_get {ci k : Nat} {I : JI} {S : JS} {a : Nat} (hk : k < nFd ci) : (flE ci I S a)[k]? = some (fvE ci I S a k) := by
  simp [flE, hk]
theorem flE_set {ci k : Nat} {I : JI} {S : JS} {a : Nat} {f : Nat → Value} (v : Value) (h : ∀ j, f j = if j = k then v else fvE ci I S a j) : (flE ci I S a).set k v = (List.range (nFd ci)).map f := by
  apply List.ext_getElem?
  intro j
  by_cases hj : j < nFd ci
  · by_cases hjk : j = k
    · subst hjk
      rw [List.getElem?_set_self (by simp [flE, hj])]
      simp [hj, h]
    · rw [List.getElem?_set_ne (Ne.symm hjk)]
      simp [flE, hj, h, hjk]
  · have h1 : ((flE ci I S a).set k v).length ≤ j := by simp [flE]; omega
    have h2 : ((List.range (nFd ci)).map f).length ≤ j := by simp; omega
    rw [List.getElem?_eq_none h1, List.getElem?_eq_none h2]
theorem cellE_cI {Ω : JO} {I I' : JI} {S : JS} {b : Nat} (h : I b = I' b) : cellE Ω I S b = cellE Ω I' S b := by
  have hf : ∀ k, flE k I S b = flE k I' S b := fun k => by
    unfold flE
    apply List.map_congr_left
    intro j _
    unfold fvE
    rw [h]
  unfold cellE
  rw [hf, h]
theorem cellE_cS {Ω : JO} {I : JI} {S S' : JS} {b : Nat} (hK : sK S b = sK S' b) (hN : sN S b = sN S' b) (hR : sR S b = sR S' b) (hX : sX S b = sX S' b) (hY : sY S b = sY S' b) : cellE Ω I S b = cellE Ω I S' b := by
  have hf : ∀ k, flE k I S b = flE k I S' b := fun k => by
    unfold flE
    apply List.map_congr_left
    intro j _
    unfold fvE
    rw [hR]
  unfold cellE
  rw [hf, hK, hN, hR, hX, hY]
theorem up_I {Ω : JO} {I : JI} {S : JS} {a ci k : Nat} {v : Int32} (hk : sK S a = ci) (hc : oK ci) (hr : isR ci k = false) : ∀ b, va_up (cellE Ω I S) a (.inr (ci, (flE ci I S a).set k (.int v))) b = cellE Ω (stI I a k v) S b := by
  intro b
  by_cases hb : b = a
  · subst hb
    rw [va_up_self, cellE_obj hk hc]
    congr 2
    refine flE_set _ fun j => ?_
    by_cases hj : j = k
    · subst hj
      simp [fvE, hr, stI]
    · simp [fvE, stI, hj]
  · rw [va_up_ne _ _ hb]
    exact cellE_cI (by funext j; simp [stI, hb])
theorem up_R {Ω : JO} {I : JI} {S : JS} {a ci k : Nat} {r : Option Nat} (hk : sK S a = ci) (hc : oK ci) (hr : isR ci k = true) : ∀ b, va_up (cellE Ω I S) a (.inr (ci, (flE ci I S a).set k (va_rf r))) b = cellE Ω I (stR S a k r) b := by
  intro b
  by_cases hb : b = a
  · subst hb
    rw [va_up_self, cellE_obj (S := stR S b k r) hk hc]
    congr 2
    refine flE_set _ fun j => ?_
    by_cases hj : j = k
    · subst hj
      simp [fvE, hr, stR, sR]
    · simp [fvE, stR, sR, hj]
  · rw [va_up_ne _ _ hb]
    exact cellE_cS rfl rfl (by funext j; simp [stR, sR, hb]) rfl rfl
section HEAP
variable {Ω : JO} {Y : JM} {F : JF} {k n pc pc' : Nat} {lv lv' : List (Nat × Value)} {st : List Value} {I : JI} {S : JS}
theorem r_getE {ci j idx a : Nat} {t : FieldType} {fin : Bool} (hd : decode Y.2.1 pc = .ok (.getfield idx, 3)) (hf : FA Y.1.cls idx ci j t fin) (ha : a ∈ sL S) (hk : sK S a = ci) (hp : pc + 3 = pc') (h : AA Ω Y F k n pc' lv (fvE ci I S a j :: st) I S) : AA Ω Y F k n pc lv (.ref a :: st) I S := by
  subst hp
  intro p e s m args below meth c H locs ls C w hS hl
  obtain ⟨Cn, T, N, ty, f1, f2, f3, f4, f5, f6, -⟩ := hf
  obtain ⟨q0, hq0⟩ := va_pl_get (X := []) (f := cellE Ω I S) ha
  rw [cellE_obj hk f3] at hq0
  exact va_get C.1 C.2.1 C.2.2.2.2.2.1 f5 C.2.2.2.2.1 C.2.2.2.2.2.2.2.2.2.1 w.1 q0 hq0 f1 j f4 (C.2.2.2.2.2.1 _ f6) (fun x h => h) (flE_get (by rw [← f2]; exact f4)) hd (h p e s m args below meth c H locs ls C w hS hl)
theorem r_getI {ci j idx a : Nat} {t : FieldType} {fin : Bool} (hd : decode Y.2.1 pc = .ok (.getfield idx, 3)) (hf : FA Y.1.cls idx ci j t fin) (ho : a ∈ sL S ∧ sK S a = ci) (hr : isR ci j = false) (hp : pc + 3 = pc') (h : AA Ω Y F k n pc' lv (.int (I a j) :: st) I S) : AA Ω Y F k n pc lv (.ref a :: st) I S :=
  r_getE hd hf ho.1 ho.2 hp (by unfold fvE; rw [hr]; exact h)
theorem r_getR {ci j idx a : Nat} {t : FieldType} {fin : Bool} {r : Option Nat} (hd : decode Y.2.1 pc = .ok (.getfield idx, 3)) (hf : FA Y.1.cls idx ci j t fin) (ho : a ∈ sL S ∧ sK S a = ci) (hr : isR ci j = true) (hv : sR S a j = r) (hp : pc + 3 = pc') (h : AA Ω Y F k n pc' lv (va_rf r :: st) I S) : AA Ω Y F k n pc lv (.ref a :: st) I S :=
  r_getE hd hf ho.1 ho.2 hp (by unfold fvE; rw [hr, hv]; exact h)
theorem r_putE {ci j idx a : Nat} {t : FieldType} {fin : Bool} {v : Value} {I' : JI} {S' : JS} (hd : decode Y.2.1 pc = .ok (.putfield idx, 3)) (hf : FA Y.1.cls idx ci j t fin) (ho : a ∈ sL S ∧ sK S a = ci) (hn : narrow t v = v) (hfit : fits t v = true) (hfin : fin = true → Y.1.name = "<init>" ∧ FD Y.1.cls ci j) (hc : ∀ b, va_up (cellE Ω I S) a (.inr (ci, (flE ci I S a).set j v)) b = cellE Ω I' S' b) (hL : sL S' = sL S) (hT : sT S' = sT S) (hp : pc + 3 = pc') (h : AA Ω Y F k n pc' lv st I' S') : AA Ω Y F k n pc lv (v :: .ref a :: st) I S := by
  subst hp
  intro p e s m args below meth c H locs ls C w hS hl
  obtain ⟨ha, hk⟩ := ho
  obtain ⟨Cn, T, N, ty, f1, f2, f3, f4, f5, f6, f7, f8, f9, f10⟩ := hf
  have hK := C.2.2.2.2.2.2.2.2.2.1
  have hts := C.2.2.2.2.2.1
  have hown := C.2.2.2.2.1
  obtain ⟨q0, hq1⟩ := va_pl_get (X := []) (f := cellE Ω I S) ha
  have hq0 := hq1
  rw [cellE_obj hk f3] at hq0
  have hap := va_apart (own := Y.1.cls) hts f5 ty f7 f8 hK f1
  obtain ⟨r, h1, cell, q1, q2, q3, q4⟩ := w.1 q0 _ hq0
  have hr : r = (Cn, T, N) := Option.some.inj (h1.symm.trans f1)
  subst hr
  obtain ⟨hSl, hfc, kC, hkC, hkind⟩ := hK.1 ci _ f1
  obtain ⟨cf, kf, fi, f, hi, hsl⟩ := hSl j f4
  have hlay := hts _ (f5 _ (u_in_lay f4))
  unfold u_lay at hlay
  have hst := (u_facts hfc hkC (u_lays hts f5 f4) hi).1
  have hlen : j < (flE ci I S a).length := by simp [flE]; rw [← f2]; exact f4
  have fini : ∀ (H' : Heap), H'[a]? = some (cell.setSlot f.slot v) → H'.size = H.size → (∀ q, q ≠ a → H'[q]? = H[q]?) → W p Ω.1 e Y.2.2.2.2.2 s m args below meth c H' (locs ++ [⟨a, f.slot⟩]) k n (F below args s) (F0 m (pc + 3) ls st) := fun H' e1 e2 e3 => by
    rw [hsl] at e1
    refine h p e s m args below meth c H' _ ls C ⟨?_, ?_, fun z hz => by rw [e2]; exact w.2.2 z (by rw [← hT]; exact hz)⟩ (hS.put e2 e3 (w.2.1.2 q0 _ hq1)) hl
    · have g := w.1.set w.2.1 hq1 (e := .inr (ci, (flE ci I S a).set j v)) ⟨_, f1, t_OB.to (V := updV (vp_V (flE ci I S a)) j v) ⟨_, e1, q2, q3, t_set q4 hap f4 v⟩ (fun j _ => vp_updV_set hlen v j)⟩ e3
      rw [va_pl_set w.2.1 ha hq1, va_pl_congr hc] at g
      rw [hL]; exact g
    · have g := w.2.1.set hq1 (e := .inr (ci, (flE ci I S a).set j v))
      rw [va_pl_set w.2.1 ha hq1, va_pl_congr hc] at g
      rw [hL]; exact g
  cases fin with
  | false =>
    rw [if_neg (by rw [f9]; decide)] at hlay
    have h6 := u_store hfc hkC hkind hlay hi (by rw [f7 j f4, f10]) hn hfit
    exact W.putK C.1 C.2.1 (f := f) ⟨hown, hts _ f6, ⟨_, _, _, hi⟩, hst⟩ (by rw [q2]; exact h6) q1 q3 (by rw [hsl]; exact k2_hasslot (q4 j f4)) rfl rfl hd fini
  | true =>
    rw [if_pos f9] at hlay
    have hcf : m.cls = cf := by
      obtain ⟨_, _, c', _, _, _, -, -, hf', -, -, -, hown2, -⟩ := Cond.laysFinal_spec hlay
      have e1 : c' = cf := by have := hi.symm.trans hf'; simp at this; exact this.1.symm
      obtain ⟨-, _, _, _, g1, g2⟩ := hfin rfl
      cases Option.some.inj (g1.symm.trans f1)
      rw [g2] at hown2
      rw [← e1]; exact Option.some.inj (hown.symm.trans hown2)
    have h6 := u_fits hfc hkC hkind (Or.inr hlay) hi (by rw [f7 j f4, f10]) hn hfit
    exact W.putFinK C.1 C.2.1 hown (hts _ f6) hi hst hcf (C.2.2.2.2.2.2.2.1.trans (hfin rfl).1) (by rw [q2]; exact h6) q1 q3 (by rw [hsl]; exact k2_hasslot (q4 j f4)) rfl rfl hd fini
theorem r_putI {ci j idx a : Nat} {v : Int32} (hd : decode Y.2.1 pc = .ok (.putfield idx, 3)) (hf : FA Y.1.cls idx ci j .int false) (ho : a ∈ sL S ∧ sK S a = ci) (hr : isR ci j = false) (hp : pc + 3 = pc') (h : AA Ω Y F k n pc' lv st (stI I a j v) S) : AA Ω Y F k n pc lv (.int v :: .ref a :: st) I S :=
  r_putE hd hf ho rfl rfl (fun h => by cases h) (up_I ho.2 (by obtain ⟨_, _, _, _, _, _, f3, _⟩ := hf; exact f3) hr) rfl rfl hp h
theorem r_putZ {ci j idx a : Nat} {v : Int32} (hd : decode Y.2.1 pc = .ok (.putfield idx, 3)) (hf : FA Y.1.cls idx ci j .boolean false) (ho : a ∈ sL S ∧ sK S a = ci) (hr : isR ci j = false) (hv : v = 0 ∨ v = 1) (hp : pc + 3 = pc') (h : AA Ω Y F k n pc' lv st (stI I a j v) S) : AA Ω Y F k n pc lv (.int v :: .ref a :: st) I S :=
  r_putE hd hf ho (by rcases hv with rfl | rfl <;> rfl) (by rcases hv with rfl | rfl <;> rfl) (fun h => by cases h) (up_I ho.2 (by obtain ⟨_, _, _, _, _, _, f3, _⟩ := hf; exact f3) hr) rfl rfl hp h
theorem r_putR {ci j idx a : Nat} {t : FieldType} {fin : Bool} {v : Nat} (hd : decode Y.2.1 pc = .ok (.putfield idx, 3)) (hf : FA Y.1.cls idx ci j t fin) (ho : a ∈ sL S ∧ sK S a = ci) (hr : isR ci j = true) (ht : narrow t (.ref v) = .ref v ∧ fits t (.ref v) = true) (hfin : fin = true → Y.1.name = "<init>" ∧ FD Y.1.cls ci j) (hp : pc + 3 = pc') (h : AA Ω Y F k n pc' lv st I (stR S a j (some v))) : AA Ω Y F k n pc lv (.ref v :: .ref a :: st) I S :=
  r_putE hd hf ho ht.1 ht.2 hfin (up_R (r := some v) ho.2 (by obtain ⟨_, _, _, _, _, _, f3, _⟩ := hf; exact f3) hr) rfl rfl hp h

theorem r_iaload {a N : Nat} {i : Int32} (hd : decode Y.2.1 pc = .ok (.iaload, 1)) (hA : ArE 11 S a N) (hin : vp_in i N) (hp : pc + 1 = pc') (h : AA Ω Y F k n pc' lv (.int (I a i.toNatClampNeg) :: st) I S) : AA Ω Y F k n pc lv (.int i :: .ref a :: st) I S := by
  subst hp
  intro p e s m args below meth c H locs ls C w hS hl
  obtain ⟨ha, hk, hN, -⟩ := hA
  subst hN
  obtain ⟨q0, hq0⟩ := va_pl_get (X := []) (f := cellE Ω I S) ha
  have hce : cellE Ω I S a = .inl (Ω.2.2.1 1, sN S a, .inl (I a)) := by simp [cellE, hk]
  rw [hce] at hq0
  exact va_iald C.1 C.2.1 C.2.2.2.2.2.2.2.2.2.1 w.1 q0 1 hq0 rfl hin hd (h p e s m args below meth c H locs ls C w hS hl)
theorem r_baload {a N : Nat} {i : Int32} (hd : decode Y.2.1 pc = .ok (.baload, 1)) (hA : ArE 10 S a N) (hin : vp_in i N) (hp : pc + 1 = pc') (h : AA Ω Y F k n pc' lv (.int (I a i.toNatClampNeg) :: st) I S) : AA Ω Y F k n pc lv (.int i :: .ref a :: st) I S := by
  subst hp
  intro p e s m args below meth c H locs ls C w hS hl
  obtain ⟨ha, hk, hN, -⟩ := hA
  subst hN
  obtain ⟨q0, hq0⟩ := va_pl_get (X := []) (f := cellE Ω I S) ha
  have hce : cellE Ω I S a = .inl (Ω.2.2.1 0, sN S a, .inl (I a)) := by simp [cellE, hk]
  rw [hce] at hq0
  exact va_bald C.1 C.2.1 C.2.2.2.2.2.2.2.2.2.1 w.1 q0 0 hq0 rfl hin hd (h p e s m args below meth c H locs ls C w hS hl)
theorem r_zaload {a N : Nat} {i : Int32} (hd : decode Y.2.1 pc = .ok (.baload, 1)) (hA : ArE 12 S a N) (hin : vp_in i N) (hp : pc + 1 = pc') (h : AA Ω Y F k n pc' lv (.int (I a i.toNatClampNeg) :: st) I S) : AA Ω Y F k n pc lv (.int i :: .ref a :: st) I S := by
  subst hp
  intro p e s m args below meth c H locs ls C w hS hl
  obtain ⟨ha, hk, hN, -⟩ := hA
  subst hN
  obtain ⟨q0, hq0⟩ := va_pl_get (X := []) (f := cellE Ω I S) ha
  have hce : cellE Ω I S a = .inl (Ω.2.2.1 2, sN S a, .inl (I a)) := by simp [cellE, hk]
  rw [hce] at hq0
  exact va_zald C.1 C.2.1 C.2.2.2.2.2.2.2.2.2.1 w.1 q0 2 hq0 rfl hin hd (h p e s m args below meth c H locs ls C w hS hl)
theorem r_laload {a N : Nat} {i : Int32} (hd : decode Y.2.1 pc = .ok (.laload, 1)) (hA : ArE 14 S a N) (hin : vp_in i N) (hp : pc + 1 = pc') (h : AA Ω Y F k n pc' lv (.long (sX S a i.toNatClampNeg) :: st) I S) : AA Ω Y F k n pc lv (.int i :: .ref a :: st) I S := by
  subst hp
  intro p e s m args below meth c H locs ls C w hS hl
  obtain ⟨ha, hk, hN, -⟩ := hA
  subst hN
  obtain ⟨q0, hq0⟩ := va_pl_get (X := []) (f := cellE Ω I S) ha
  have hce : cellE Ω I S a = .inl (Ω.2.2.1 4, sN S a, .inr (.inl (sX S a))) := by simp [cellE, hk]
  rw [hce] at hq0
  exact va_lald C.1 C.2.1 C.2.2.2.2.2.2.2.2.2.1 w.1 q0 4 hq0 rfl hin hd (h p e s m args below meth c H locs ls C w hS hl)
theorem r_aaload {a N : Nat} {i : Int32} (hd : decode Y.2.1 pc = .ok (.aaload, 1)) (hA : ArE 13 S a N) (hin : vp_in i N) (hp : pc + 1 = pc') (h : AA Ω Y F k n pc' lv (va_rf (sR S a i.toNatClampNeg) :: st) I S) : AA Ω Y F k n pc lv (.int i :: .ref a :: st) I S := by
  subst hp
  intro p e s m args below meth c H locs ls C w hS hl
  obtain ⟨ha, hk, hN, -⟩ := hA
  subst hN
  obtain ⟨q0, hq0⟩ := va_pl_get (X := []) (f := cellE Ω I S) ha
  have hce : cellE Ω I S a = .inl (Ω.2.2.1 3, sN S a, .inr (.inr (.inr (.inr (sR S a))))) := by simp [cellE, hk]
  rw [hce] at hq0
  exact va_aldq C.1 C.2.1 C.2.2.2.2.2.2.2.2.2.1 w.1 q0 3 hq0 rfl hin hd (h p e s m args below meth c H locs ls C w hS hl)
theorem up_ai {Ω : JO} {I : JI} {S : JS} {a j : Nat} {x : Int32} (hk : sK S a = 11) : ∀ b, va_up (cellE Ω I S) a (.inl (Ω.2.2.1 1, sN S a, .inl (upd (I a) j x))) b = cellE Ω (stI I a j x) (S) b := by
  intro b
  by_cases hb : b = a
  · subst hb
    have hk' : sK (S) b = 11 := hk
    rw [va_up_self]
    simp only [cellE, hk']
    congr 3
    refine congrArg Sum.inl (funext fun i => ?_)
    by_cases hi : i = j <;> simp [upd, stI, hi]
  · rw [va_up_ne _ _ hb]
    exact cellE_cI (by funext j; simp [stI, hb])
theorem r_iastore {a N : Nat} {i : Int32} {x : Int32} (hd : decode Y.2.1 pc = .ok (.iastore, 1)) (hA : ArE 11 S a N) (hin : vp_in i N) (hp : pc + 1 = pc') (h : AA Ω Y F k n pc' lv st (stI I a i.toNatClampNeg x) (S)) : AA Ω Y F k n pc lv (.int x :: .int i :: .ref a :: st) I S := by
  subst hp
  intro p e s m args below meth c H locs ls C w hS hl
  obtain ⟨ha, hk, hN, hT⟩ := hA
  subst hN
  obtain ⟨q0, hq1⟩ := va_pl_get (X := []) (f := cellE Ω I S) ha
  have hq0 := hq1
  have hce : cellE Ω I S a = .inl (Ω.2.2.1 1, sN S a, .inl (I a)) := by simp [cellE, hk]
  rw [hce] at hq0
  refine va_iast C.1 C.2.1 C.2.2.2.2.2.2.2.2.2.1 w.1 w.2.1 hS q0 1 hq0 rfl hin hd fun H1 locs1 e1 e2 e3 => ?_
  rw [va_pl_set w.2.1 ha hq1, va_pl_congr (up_ai hk)] at e1 e2
  exact h p e s m args below meth c H1 locs1 ls C ⟨e1, e2, fun z hz => absurd (hT.symm.trans hz) (by simp)⟩ e3 hl
theorem up_ab {Ω : JO} {I : JI} {S : JS} {a j : Nat} {x : Int32} (hk : sK S a = 10) : ∀ b, va_up (cellE Ω I S) a (.inl (Ω.2.2.1 0, sN S a, .inl (upd (I a) j x))) b = cellE Ω (stI I a j x) (S) b := by
  intro b
  by_cases hb : b = a
  · subst hb
    have hk' : sK (S) b = 10 := hk
    rw [va_up_self]
    simp only [cellE, hk']
    congr 3
    refine congrArg Sum.inl (funext fun i => ?_)
    by_cases hi : i = j <;> simp [upd, stI, hi]
  · rw [va_up_ne _ _ hb]
    exact cellE_cI (by funext j; simp [stI, hb])
theorem r_bastore {a N : Nat} {i : Int32} {x : Int32} (hd : decode Y.2.1 pc = .ok (.bastore, 1)) (hA : ArE 10 S a N) (hin : vp_in i N) (hp : pc + 1 = pc') (h : AA Ω Y F k n pc' lv st (stI I a i.toNatClampNeg (vp_nar .byte x)) (S)) : AA Ω Y F k n pc lv (.int x :: .int i :: .ref a :: st) I S := by
  subst hp
  intro p e s m args below meth c H locs ls C w hS hl
  obtain ⟨ha, hk, hN, hT⟩ := hA
  subst hN
  obtain ⟨q0, hq1⟩ := va_pl_get (X := []) (f := cellE Ω I S) ha
  have hq0 := hq1
  have hce : cellE Ω I S a = .inl (Ω.2.2.1 0, sN S a, .inl (I a)) := by simp [cellE, hk]
  rw [hce] at hq0
  refine va_bast C.1 C.2.1 C.2.2.2.2.2.2.2.2.2.1 w.1 w.2.1 hS q0 0 hq0 rfl hin hd fun H1 locs1 e1 e2 e3 => ?_
  rw [va_pl_set w.2.1 ha hq1, va_pl_congr (up_ab hk)] at e1 e2
  exact h p e s m args below meth c H1 locs1 ls C ⟨e1, e2, fun z hz => absurd (hT.symm.trans hz) (by simp)⟩ e3 hl
theorem up_az {Ω : JO} {I : JI} {S : JS} {a j : Nat} {x : Int32} (hk : sK S a = 12) : ∀ b, va_up (cellE Ω I S) a (.inl (Ω.2.2.1 2, sN S a, .inl (upd (I a) j x))) b = cellE Ω (stI I a j x) (S) b := by
  intro b
  by_cases hb : b = a
  · subst hb
    have hk' : sK (S) b = 12 := hk
    rw [va_up_self]
    simp only [cellE, hk']
    congr 3
    refine congrArg Sum.inl (funext fun i => ?_)
    by_cases hi : i = j <;> simp [upd, stI, hi]
  · rw [va_up_ne _ _ hb]
    exact cellE_cI (by funext j; simp [stI, hb])
theorem r_zastore {a N : Nat} {i : Int32} {x : Int32} (hd : decode Y.2.1 pc = .ok (.bastore, 1)) (hA : ArE 12 S a N) (hin : vp_in i N) (hp : pc + 1 = pc') (h : AA Ω Y F k n pc' lv st (stI I a i.toNatClampNeg (vp_nar .boolean x)) (S)) : AA Ω Y F k n pc lv (.int x :: .int i :: .ref a :: st) I S := by
  subst hp
  intro p e s m args below meth c H locs ls C w hS hl
  obtain ⟨ha, hk, hN, hT⟩ := hA
  subst hN
  obtain ⟨q0, hq1⟩ := va_pl_get (X := []) (f := cellE Ω I S) ha
  have hq0 := hq1
  have hce : cellE Ω I S a = .inl (Ω.2.2.1 2, sN S a, .inl (I a)) := by simp [cellE, hk]
  rw [hce] at hq0
  refine va_zast C.1 C.2.1 C.2.2.2.2.2.2.2.2.2.1 w.1 w.2.1 hS q0 2 hq0 rfl hin hd fun H1 locs1 e1 e2 e3 => ?_
  rw [va_pl_set w.2.1 ha hq1, va_pl_congr (up_az hk)] at e1 e2
  exact h p e s m args below meth c H1 locs1 ls C ⟨e1, e2, fun z hz => absurd (hT.symm.trans hz) (by simp)⟩ e3 hl
theorem up_al {Ω : JO} {I : JI} {S : JS} {a j : Nat} {x : Int64} (hk : sK S a = 14) : ∀ b, va_up (cellE Ω I S) a (.inl (Ω.2.2.1 4, sN S a, .inr (.inl (vp_updL (sX S a) j x)))) b = cellE Ω (I) (stX S a j x) b := by
  intro b
  by_cases hb : b = a
  · subst hb
    have hk' : sK (stX S b j x) b = 14 := hk
    rw [va_up_self]
    simp only [cellE, hk']
    congr 3
    congr 2
    funext i
    by_cases hi : i = j <;> simp [vp_updL, stX, sX, hi]
  · rw [va_up_ne _ _ hb]
    exact cellE_cS rfl rfl rfl (by funext j; simp [stX, sX, hb]) rfl
theorem r_lastore {a N : Nat} {i : Int32} {x : Int64} (hd : decode Y.2.1 pc = .ok (.lastore, 1)) (hA : ArE 14 S a N) (hin : vp_in i N) (hp : pc + 1 = pc') (h : AA Ω Y F k n pc' lv st (I) (stX S a i.toNatClampNeg x)) : AA Ω Y F k n pc lv (.long x :: .int i :: .ref a :: st) I S := by
  subst hp
  intro p e s m args below meth c H locs ls C w hS hl
  obtain ⟨ha, hk, hN, hT⟩ := hA
  subst hN
  obtain ⟨q0, hq1⟩ := va_pl_get (X := []) (f := cellE Ω I S) ha
  have hq0 := hq1
  have hce : cellE Ω I S a = .inl (Ω.2.2.1 4, sN S a, .inr (.inl (sX S a))) := by simp [cellE, hk]
  rw [hce] at hq0
  refine va_last C.1 C.2.1 C.2.2.2.2.2.2.2.2.2.1 w.1 w.2.1 hS q0 4 hq0 rfl hin hd fun H1 locs1 e1 e2 e3 => ?_
  rw [va_pl_set w.2.1 ha hq1, va_pl_congr (up_al hk)] at e1 e2
  exact h p e s m args below meth c H1 locs1 ls C ⟨e1, e2, fun z hz => absurd (hT.symm.trans hz) (by simp)⟩ e3 hl
theorem r_alen {a N ty : Nat} {v : Int32} (hd : decode Y.2.1 pc = .ok (.arraylength, 1)) (hA : ArE ty S a N) (hty : ty = 10 ∨ ty = 11 ∨ ty = 13) (hv : Int32.ofNat N = v) (hp : pc + 1 = pc') (h : AA Ω Y F k n pc' lv (.int v :: st) I S) : AA Ω Y F k n pc lv (.ref a :: st) I S := by
  subst hp
  intro p e s m args below meth c H locs ls C w hS hl
  obtain ⟨ha, hk, hN, -⟩ := hA
  subst hN
  obtain ⟨q0, hq0⟩ := va_pl_get (X := []) (f := cellE Ω I S) ha
  rcases hty with rfl | rfl | rfl
  · have hce : cellE Ω I S a = .inl (Ω.2.2.1 0, sN S a, .inl (I a)) := by simp [cellE, hk]
    rw [hce] at hq0
    exact va_alen C.1 C.2.1 C.2.2.2.2.2.2.2.2.2.1 w.1 q0 0 hq0 rfl hv hd (h p e s m args below meth c H locs ls C w hS hl)
  · have hce : cellE Ω I S a = .inl (Ω.2.2.1 1, sN S a, .inl (I a)) := by simp [cellE, hk]
    rw [hce] at hq0
    exact va_alen C.1 C.2.1 C.2.2.2.2.2.2.2.2.2.1 w.1 q0 1 hq0 rfl hv hd (h p e s m args below meth c H locs ls C w hS hl)
  · have hce : cellE Ω I S a = .inl (Ω.2.2.1 3, sN S a, .inr (.inr (.inr (.inr (sR S a))))) := by simp [cellE, hk]
    rw [hce] at hq0
    exact va_alen C.1 C.2.1 C.2.2.2.2.2.2.2.2.2.1 w.1 q0 3 hq0 rfl hv hd (h p e s m args below meth c H locs ls C w hS hl)
end HEAP
