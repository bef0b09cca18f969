/-! objects and rows are made, at the next address -/
def nwI (I : JI) (z : Nat) : JI := fun b j => if b = z then 0 else I b j
def nwS (S : JS) (z ki n : Nat) : JS := (sL S ++ [z], fun b => if b = z then ki else sK S b, fun b => if b = z then n else sN S b, fun b j => if b = z then none else sR S b j, fun b j => if b = z then 0 else sX S b j, fun b j => if b = z then 0 else sY S b j, some (z + 1))
def NW (ci : Nat) (C : String) : Prop := ∃ (T : u_T) (N : Nat) (ty : Nat → FieldType), vwCl[ci]? = some (C, T, N) ∧ N = nFd ci ∧ oK ci ∧ (∀ w ∈ u_ws C T N, w ∈ gTbl) ∧ (∀ j, j < N → parseFieldDescriptor (T j).2.2.1 = some (ty j)) ∧ (∀ j, j < N → defaultValue (ty j) = if isR ci j = true then Value.null else .int 0) ∧ Cond.instantiable C N ∈ gTbl ∧ Cond.initialized C ∈ gTbl
section NEWS
variable {Ω : JO} {Y : JM} {F : JF} {k n pc pc' : Nat} {lv : List (Nat × Value)} {st : List Value} {I : JI} {S : JS}
theorem nwS_K {z ki m b : Nat} : sK (nwS S z ki m) b = if b = z then ki else sK S b := rfl
theorem nwS_N {z ki m b : Nat} : sN (nwS S z ki m) b = if b = z then m else sN S b := rfl
theorem nwS_R {z ki m b j : Nat} : sR (nwS S z ki m) b j = if b = z then none else sR S b j := rfl
theorem nwS_X {z ki m b j : Nat} : sX (nwS S z ki m) b j = if b = z then 0 else sX S b j := rfl
theorem nwS_Y {z ki m b j : Nat} : sY (nwS S z ki m) b j = if b = z then 0 else sY S b j := rfl
theorem nwI_z {z : Nat} : nwI I z z = fun _ => 0 := by funext j; simp [nwI]
theorem cellE_nw {z ki m b : Nat} (hb : b ≠ z) : cellE Ω (nwI I z) (nwS S z ki m) b = cellE Ω I S b := by
  have e1 : nwI I z b = I b := by funext j; simp [nwI, hb]
  rw [cellE_cI e1]
  exact cellE_cS (by rw [nwS_K, if_neg hb]) (by rw [nwS_N, if_neg hb]) (by funext j; rw [nwS_R, if_neg hb]) (by funext j; rw [nwS_X, if_neg hb]) (by funext j; rw [nwS_Y, if_neg hb])
/-- the world after something is made at its end -/
theorem Wd_new {H H1 : Heap} {z ki m : Nat} (w : Wd Ω I S H) (hT : sT S = some z) (hz : AR Ω z) (h1 : H1.size = z + 1) (h2 : ∀ q, q < z → H1[q]? = H[q]?) (h3 : va_at Ω.2.1 vwCl (z, cellE Ω (nwI I z) (nwS S z ki m) z) H1) : Wd Ω (nwI I z) (nwS S z ki m) H1 := by
  have hs := w.2.2 z hT
  have hlt : ∀ a, a ∈ sL S → a < z := fun a ha => by
    obtain ⟨q0, hq0⟩ := va_pl_get (X := []) (f := cellE Ω I S) ha
    rw [← hs]; exact (w.1 q0 _ hq0).lt
  have e : ([] : va_W) ++ va_pl (sL (nwS S z ki m)) (cellE Ω (nwI I z) (nwS S z ki m)) = ([] ++ va_pl (sL S) (cellE Ω I S)) ++ [(z, cellE Ω (nwI I z) (nwS S z ki m) z)] := by
    show va_pl (sL S ++ [z]) _ = va_pl (sL S) _ ++ _
    unfold va_pl
    rw [List.map_append]
    congr 1
    apply List.map_congr_left
    intro a ha
    rw [cellE_nw (Nat.ne_of_lt (hlt a ha))]
  refine ⟨?_, ?_, fun y hy => by cases hy; exact h1⟩
  · rw [e]
    refine (w.1.kept fun k x hx => ?_).app fun k x hx => ?_
    · exact h2 x.1 (by rw [← hs]; exact (w.1 k x hx).lt)
    · have hk : k = 0 := by
        have := (List.getElem?_eq_some_iff.mp hx).1
        simp at this
        exact this
      subst hk
      cases hx
      exact h3
  · rw [e]
    exact w.2.1.push w.1 hs.symm hz
theorem AR_z {s : State} {H : Heap} {z : Nat} {locs : List Loc} (hev : Ev Ω s s.heap) (hS : va_S (AR Ω) s.heap H locs) (h : H.size = z) : AR Ω z := by
  have h9 := hev.2.2.2.2.2.2.2.2.1
  show Ω.2.2.2.1 ≤ z
  have := hS.1
  omega
theorem va_S_new {s : State} {H H1 : Heap} {z : Nat} {locs : List Loc} (hS : va_S (AR Ω) s.heap H locs) (h : H.size = z) (h1 : H1.size = z + 1) (h2 : ∀ q, q < z → H1[q]? = H[q]?) : va_S (AR Ω) s.heap H1 locs := by
  refine ⟨?_, fun q q1 q2 => ?_, hS.2.2⟩
  · have := hS.1; omega
  · rw [h2 q (by have := hS.1; omega)]; exact hS.2.1 q q1 q2
theorem r_new {ci idx z : Nat} {C : String} (hd : decode Y.2.1 pc = .ok (.new idx, 3)) (hl : Cond.classLink Y.1.cls idx C ∈ gTbl) (hw : NW ci C) (hT : sT S = some z) (hc : k + 1 ≤ Y.2.2.2.2.2.cells) (hs : n + nFd ci ≤ Y.2.2.2.2.2.slots) (hp : pc + 3 = pc') (h : AA Ω Y F (k + 1) (n + nFd ci) pc' lv (.ref z :: st) (nwI I z) (nwS S z ci 0)) : AA Ω Y F k n pc lv st I S := by
  subst hp
  intro p e s m args below meth c H locs ls CC w hS hlv
  obtain ⟨T, N, ty, f1, f2, f3, f4, f5, f6, f7, f8⟩ := hw
  have hev := CC.2.2.2.2.2.2.2.2.2
  have hts := CC.2.2.2.2.2.1
  have hz := w.2.2 z hT
  have hKn := hev.1.1 ci _ f1
  subst f2
  refine W.newcK CC.1 CC.2.1 CC.2.2.2.2.1 (hts _ hl) (hts _ f7) (hts _ f8) rfl hd hc hs hKn.2.1 hz fun H1 kC hkC e1 z1 o1 => ?_
  refine h p e s m args below meth c H1 locs ls CC (Wd_new w hT (AR_z hev hS hz) z1 o1 ?_) (va_S_new hS hz z1 o1) hlv
  have hce : cellE Ω (nwI I z) (nwS S z ci 0) z = .inr (ci, flE ci (nwI I z) (nwS S z ci 0) z) := cellE_obj (by rw [nwS_K, if_pos rfl]) f3
  rw [hce]
  refine ⟨_, f1, (u_born ty hts f4 hKn hkC e1 f5).to fun j hj => ?_⟩
  rw [f6 j hj]
  unfold vp_V
  rw [List.getD_eq_getElem?_getD, flE_get hj]
  unfold fvE
  by_cases q : isR ci j = true
  · rw [if_pos q, if_pos q, nwS_R, if_pos rfl]; rfl
  · rw [if_neg q, if_neg q, nwI_z]; rfl
theorem r_newI {z N : Nat} {cnt : Int32} (hd : decode Y.2.1 pc = .ok (.newarray .int, 2)) (hT : sT S = some z) (hn : ¬ cnt < 0) (hN : cnt.toNatClampNeg = N) (hb : N * 4 ≤ 536870912) (hc : k + 1 ≤ Y.2.2.2.2.2.cells) (hs : n + N ≤ Y.2.2.2.2.2.slots) (hp : pc + 2 = pc') (h : AA Ω Y F (k + 1) (n + N) pc' lv (.ref z :: st) (nwI I z) (nwS S z 11 N)) : AA Ω Y F k n pc lv (.int cnt :: st) I S := by
  subst hp
  intro p e s m args below meth c H locs ls CC w hS hlv
  have hev := CC.2.2.2.2.2.2.2.2.2
  have hts := CC.2.2.2.2.2.1
  have hz := w.2.2 z hT
  refine va_newaK (atype := .int) CC.1 CC.2.1 (hts _ yw_int) rfl hd rfl hn hN hb hc hs hz fun H1 cA e1 z1 o1 hAr hNm => ?_
  refine h p e s m args below meth c H1 locs ls CC (Wd_new w hT (AR_z hev hS hz) z1 o1 ?_) (va_S_new hS hz z1 o1) hlv
  have hcA : cA = Ω.2.2.1 1 := Option.some.inj (hNm.symm.trans (hev.1.2 1 _ rfl).2)
  have hK9 : sK (nwS S z 11 N) z = 11 := by rw [nwS_K, if_pos rfl]
  have hN9 : sN (nwS S z 11 N) z = N := by rw [nwS_N, if_pos rfl]
  have hX9 : sX (nwS S z 11 N) z = fun _ => 0 := by funext j; rw [nwS_X, if_pos rfl]
  have hY9 : sY (nwS S z 11 N) z = fun _ => 0 := by funext j; rw [nwS_Y, if_pos rfl]
  have hce : cellE Ω (nwI I z) (nwS S z 11 N) z = .inl (Ω.2.2.1 1, N, .inl (fun _ => 0)) := by
    unfold cellE
    rw [hK9, hN9, nwI_z, hX9, hY9]
    rfl
  rw [hce]
  show H1[z]? = some (vp_cell (Ω.2.2.1 1) (N, .inl (fun _ => 0)))
  rw [e1, hcA]
  rfl
theorem r_newB {z N : Nat} {cnt : Int32} (hd : decode Y.2.1 pc = .ok (.newarray .byte, 2)) (hT : sT S = some z) (hn : ¬ cnt < 0) (hN : cnt.toNatClampNeg = N) (hb : N * 1 ≤ 536870912) (hc : k + 1 ≤ Y.2.2.2.2.2.cells) (hs : n + N ≤ Y.2.2.2.2.2.slots) (hp : pc + 2 = pc') (h : AA Ω Y F (k + 1) (n + N) pc' lv (.ref z :: st) (nwI I z) (nwS S z 10 N)) : AA Ω Y F k n pc lv (.int cnt :: st) I S := by
  subst hp
  intro p e s m args below meth c H locs ls CC w hS hlv
  have hev := CC.2.2.2.2.2.2.2.2.2
  have hts := CC.2.2.2.2.2.1
  have hz := w.2.2 z hT
  refine va_newaK (atype := .byte) CC.1 CC.2.1 (hts _ yw_byte) rfl hd rfl hn hN hb hc hs hz fun H1 cA e1 z1 o1 hAr hNm => ?_
  refine h p e s m args below meth c H1 locs ls CC (Wd_new w hT (AR_z hev hS hz) z1 o1 ?_) (va_S_new hS hz z1 o1) hlv
  have hcA : cA = Ω.2.2.1 0 := Option.some.inj (hNm.symm.trans (hev.1.2 0 _ rfl).2)
  have hK9 : sK (nwS S z 10 N) z = 10 := by rw [nwS_K, if_pos rfl]
  have hN9 : sN (nwS S z 10 N) z = N := by rw [nwS_N, if_pos rfl]
  have hX9 : sX (nwS S z 10 N) z = fun _ => 0 := by funext j; rw [nwS_X, if_pos rfl]
  have hY9 : sY (nwS S z 10 N) z = fun _ => 0 := by funext j; rw [nwS_Y, if_pos rfl]
  have hce : cellE Ω (nwI I z) (nwS S z 10 N) z = .inl (Ω.2.2.1 0, N, .inl (fun _ => 0)) := by
    unfold cellE
    rw [hK9, hN9, nwI_z, hX9, hY9]
    rfl
  rw [hce]
  show H1[z]? = some (vp_cell (Ω.2.2.1 0) (N, .inl (fun _ => 0)))
  rw [e1, hcA]
  rfl
theorem r_newZ {z N : Nat} {cnt : Int32} (hd : decode Y.2.1 pc = .ok (.newarray .boolean, 2)) (hT : sT S = some z) (hn : ¬ cnt < 0) (hN : cnt.toNatClampNeg = N) (hb : N * 1 ≤ 536870912) (hc : k + 1 ≤ Y.2.2.2.2.2.cells) (hs : n + N ≤ Y.2.2.2.2.2.slots) (hp : pc + 2 = pc') (h : AA Ω Y F (k + 1) (n + N) pc' lv (.ref z :: st) (nwI I z) (nwS S z 12 N)) : AA Ω Y F k n pc lv (.int cnt :: st) I S := by
  subst hp
  intro p e s m args below meth c H locs ls CC w hS hlv
  have hev := CC.2.2.2.2.2.2.2.2.2
  have hts := CC.2.2.2.2.2.1
  have hz := w.2.2 z hT
  refine va_newaK (atype := .boolean) CC.1 CC.2.1 (hts _ yw_boolean) rfl hd rfl hn hN hb hc hs hz fun H1 cA e1 z1 o1 hAr hNm => ?_
  refine h p e s m args below meth c H1 locs ls CC (Wd_new w hT (AR_z hev hS hz) z1 o1 ?_) (va_S_new hS hz z1 o1) hlv
  have hcA : cA = Ω.2.2.1 2 := Option.some.inj (hNm.symm.trans (hev.1.2 2 _ rfl).2)
  have hK9 : sK (nwS S z 12 N) z = 12 := by rw [nwS_K, if_pos rfl]
  have hN9 : sN (nwS S z 12 N) z = N := by rw [nwS_N, if_pos rfl]
  have hX9 : sX (nwS S z 12 N) z = fun _ => 0 := by funext j; rw [nwS_X, if_pos rfl]
  have hY9 : sY (nwS S z 12 N) z = fun _ => 0 := by funext j; rw [nwS_Y, if_pos rfl]
  have hce : cellE Ω (nwI I z) (nwS S z 12 N) z = .inl (Ω.2.2.1 2, N, .inl (fun _ => 0)) := by
    unfold cellE
    rw [hK9, hN9, nwI_z, hX9, hY9]
    rfl
  rw [hce]
  show H1[z]? = some (vp_cell (Ω.2.2.1 2) (N, .inl (fun _ => 0)))
  rw [e1, hcA]
  rfl
theorem r_newL {z N : Nat} {cnt : Int32} (hd : decode Y.2.1 pc = .ok (.newarray .long, 2)) (hT : sT S = some z) (hn : ¬ cnt < 0) (hN : cnt.toNatClampNeg = N) (hb : N * 8 ≤ 536870912) (hc : k + 1 ≤ Y.2.2.2.2.2.cells) (hs : n + N ≤ Y.2.2.2.2.2.slots) (hp : pc + 2 = pc') (h : AA Ω Y F (k + 1) (n + N) pc' lv (.ref z :: st) (nwI I z) (nwS S z 14 N)) : AA Ω Y F k n pc lv (.int cnt :: st) I S := by
  subst hp
  intro p e s m args below meth c H locs ls CC w hS hlv
  have hev := CC.2.2.2.2.2.2.2.2.2
  have hts := CC.2.2.2.2.2.1
  have hz := w.2.2 z hT
  refine va_newaK (atype := .long) CC.1 CC.2.1 (hts _ yw_long) rfl hd rfl hn hN hb hc hs hz fun H1 cA e1 z1 o1 hAr hNm => ?_
  refine h p e s m args below meth c H1 locs ls CC (Wd_new w hT (AR_z hev hS hz) z1 o1 ?_) (va_S_new hS hz z1 o1) hlv
  have hcA : cA = Ω.2.2.1 4 := Option.some.inj (hNm.symm.trans (hev.1.2 4 _ rfl).2)
  have hK9 : sK (nwS S z 14 N) z = 14 := by rw [nwS_K, if_pos rfl]
  have hN9 : sN (nwS S z 14 N) z = N := by rw [nwS_N, if_pos rfl]
  have hX9 : sX (nwS S z 14 N) z = fun _ => 0 := by funext j; rw [nwS_X, if_pos rfl]
  have hY9 : sY (nwS S z 14 N) z = fun _ => 0 := by funext j; rw [nwS_Y, if_pos rfl]
  have hce : cellE Ω (nwI I z) (nwS S z 14 N) z = .inl (Ω.2.2.1 4, N, .inr (.inl (fun _ => 0))) := by
    unfold cellE
    rw [hK9, hN9, nwI_z, hX9, hY9]
    rfl
  rw [hce]
  show H1[z]? = some (vp_cell (Ω.2.2.1 4) (N, .inr (.inl (fun _ => 0))))
  rw [e1, hcA]
  rfl
theorem r_anew {z N idx : Nat} {cnt : Int32} (hd : decode Y.2.1 pc = .ok (.anewarray idx, 3)) (hl : Cond.classLink Y.1.cls idx RX7 ∈ gTbl) (hT : sT S = some z) (hn : ¬ cnt < 0) (hN : cnt.toNatClampNeg = N) (hb : N * 4 ≤ 536870912) (hc : k + 1 ≤ Y.2.2.2.2.2.cells) (hs : n + N ≤ Y.2.2.2.2.2.slots) (hp : pc + 3 = pc') (h : AA Ω Y F (k + 1) (n + N) pc' lv (.ref z :: st) (nwI I z) (nwS S z 13 N)) : AA Ω Y F k n pc lv (.int cnt :: st) I S := by
  subst hp
  subst hN
  intro p e s m args below meth c H locs ls CC w hS hlv
  have hev := CC.2.2.2.2.2.2.2.2.2
  have hts := CC.2.2.2.2.2.1
  have hz := w.2.2 z hT
  refine W.anew CC.1 CC.2.1 CC.2.2.2.2.1 (hts _ hl) (va_AO.use hev.2.2.2.2.2.2.2.1.1) rfl hd rfl hn hb hc hs fun cA kA comp f1 f2 f3 f4 => ?_
  generalize hH1 : H.push ({ cls := cA, slots := Array.replicate cnt.toNatClampNeg .null, vm := .none } : Cell) = H1
  have z1 : H1.size = z + 1 := by rw [← hH1, Array.size_push, hz]
  have o1 : ∀ q : Nat, q < z → H1[q]? = H[q]? := fun q hq => by rw [← hH1, Array.getElem?_push, if_neg (by omega)]
  rw [hz]
  refine h p e s m args below meth c H1 locs ls CC (Wd_new w hT (AR_z hev hS hz) z1 o1 ?_) (va_S_new hS hz z1 o1) hlv
  obtain ⟨-, kA', comp', g1, g2, g3, g4⟩ := hev.1.2 3 _ rfl
  have hcA : cA = Ω.2.2.1 3 := Option.some.inj (f1.symm.trans g4)
  have hK9 : sK (nwS S z 13 cnt.toNatClampNeg) z = 13 := by rw [nwS_K, if_pos rfl]
  have hN9 : sN (nwS S z 13 cnt.toNatClampNeg) z = cnt.toNatClampNeg := by rw [nwS_N, if_pos rfl]
  have hR9 : sR (nwS S z 13 cnt.toNatClampNeg) z = fun _ => none := by funext j; rw [nwS_R, if_pos rfl]
  have hce : cellE Ω (nwI I z) (nwS S z 13 cnt.toNatClampNeg) z = .inl (Ω.2.2.1 3, cnt.toNatClampNeg, .inr (.inr (.inr (.inr (fun _ => none))))) := by
    unfold cellE
    rw [hK9, hN9, hR9]
    rfl
  rw [hce]
  show H1[z]? = some (vp_cell (Ω.2.2.1 3) (cnt.toNatClampNeg, .inr (.inr (.inr (.inr (fun _ => none))))))
  rw [← hH1, ← hz, Array.getElem?_push_size, hcA, vp_cell_q, ← arrV_new]
  rfl
theorem up_q {a j : Nat} {r : Option Nat} (hk : sK S a = 13) : ∀ b, va_up (cellE Ω I S) a (.inl (Ω.2.2.1 3, sN S a, .inr (.inr (.inr (.inr (va_up (sR S a) j r)))))) b = cellE Ω I (stR S a j r) b := by
  intro b
  by_cases hb : b = a
  · subst hb
    have e : cellE Ω I (stR S b j r) b = .inl (Ω.2.2.1 3, sN S b, .inr (.inr (.inr (.inr (sR (stR S b j r) b))))) := by
      have hk' : sK (stR S b j r) b = 13 := hk
      unfold cellE
      rw [hk']
      rfl
    rw [va_up_self, e]
    congr 7
    funext q
    simp [va_up, stR, sR]
  · rw [va_up_ne _ _ hb]
    exact cellE_cS rfl rfl (by funext q; simp [stR, sR, hb]) rfl rfl
/-- a state is stored into the row of states -/
theorem r_aast0 {a N v : Nat} {i : Int32} (hd : decode Y.2.1 pc = .ok (.aastore, 1)) (hA : a ∈ sL S ∧ sK S a = 13 ∧ sN S a = N) (hv : v ∈ sL S ∧ sK S v = 7) (hin : vp_in i N) (hp : pc + 1 = pc') (h : AA Ω Y F k n pc' lv st I (stR S a i.toNatClampNeg (some v))) : AA Ω Y F k n pc lv (.ref v :: .int i :: .ref a :: st) I S := by
  subst hp
  intro p e s m args below meth c H locs ls CC w hS hlv
  obtain ⟨ha, hk, hN⟩ := hA
  obtain ⟨hv1, hv2⟩ := hv
  subst hN
  have hK := CC.2.2.2.2.2.2.2.2.2.1
  obtain ⟨q0, hq1⟩ := va_pl_get (X := []) (f := cellE Ω I S) ha
  have hq0 := hq1
  have hce : cellE Ω I S a = .inl (Ω.2.2.1 3, sN S a, .inr (.inr (.inr (.inr (sR S a))))) := by simp [cellE, hk]
  rw [hce] at hq0
  obtain ⟨qk, hqk⟩ := va_pl_get (X := []) (f := cellE Ω I S) hv1
  rw [cellE_obj hv2 (by decide)] at hqk
  have hlt : i.toNatClampNeg < sN S a := Nat.not_le.mp fun q => hin (Or.inr q)
  have h0 : ¬ i < 0 := fun q => hin (Or.inl q)
  obtain ⟨r', hr', cellV, g1, g2, g3, -⟩ := w.1 qk _ hqk
  have hcls := (hK.1 7 _ rfl).2
  obtain ⟨kA, comp, k1, k2, k3, -⟩ := (hK.2 3 _ rfl).2
  have hcomp : comp = Ω.2.1.1 7 := Option.some.inj (k3.symm.trans hcls.1)
  subst hcomp
  obtain ⟨kC, hkC, -⟩ := hcls.2
  have hcell : H[a]? = some (vp_cell (Ω.2.2.1 3) (sN S a, .inr (.inr (.inr (.inr (sR S a)))))) := w.1 q0 _ hq0
  refine W.aast CC.1 CC.2.1 hcell (fun q h => by cases h) (fun h => by cases h) k1 k2 rfl hkC ⟨h0, by show _ < (arrV _ _ _).slots.size; rw [arrV_size]; exact hlt⟩ g1 (fun q h => by rw [g3] at h; cases h) (by rw [g2]; exact hkC) (by rw [g2]; exact va_assign hcls) rfl rfl hd fun H1 e1 z1 oq => ?_
  have hnew : H1[a]? = some (vp_cell (Ω.2.2.1 3) (sN S a, .inr (.inr (.inr (.inr (va_up (sR S a) i.toNatClampNeg (some v))))))) := by
    rw [e1, vp_cell_q, vp_cell_q, arrV_store]
    congr 2
    funext q
    by_cases hq : q = i.toNatClampNeg
    · subst hq
      simp [updV, va_up, va_rf]
    · simp [updV, va_up, hq]
  refine h p e s m args below meth c H1 _ ls CC ⟨?_, ?_, fun y hy => by rw [z1]; exact w.2.2 y hy⟩ (hS.put z1 oq (w.2.1.2 q0 _ hq1)) hlv
  · have g := w.1.set w.2.1 hq0 (e := .inl (Ω.2.2.1 3, sN S a, .inr (.inr (.inr (.inr (va_up (sR S a) i.toNatClampNeg (some v))))))) hnew oq
    rw [va_pl_set w.2.1 ha hq1, va_pl_congr (up_q hk)] at g
    exact g
  · have g := w.2.1.set hq0 (e := .inl (Ω.2.2.1 3, sN S a, .inr (.inr (.inr (.inr (va_up (sR S a) i.toNatClampNeg (some v)))))))
    rw [va_pl_set w.2.1 ha hq1, va_pl_congr (up_q hk)] at g
    exact g
theorem r_alen0 {a N : Nat} {v : Int32} (hd : decode Y.2.1 pc = .ok (.arraylength, 1)) (hA : a ∈ sL S ∧ sK S a = 13 ∧ sN S a = N) (hv : Int32.ofNat N = v) (hp : pc + 1 = pc') (h : AA Ω Y F k n pc' lv (.int v :: st) I S) : AA Ω Y F k n pc lv (.ref a :: st) I S := by
  subst hp
  intro p e s m args below meth c H locs ls CC w hS hl
  obtain ⟨ha, hk, hN⟩ := hA
  subst hN
  obtain ⟨q0, hq0⟩ := va_pl_get (X := []) (f := cellE Ω I S) ha
  have hce : cellE Ω I S a = .inl (Ω.2.2.1 3, sN S a, .inr (.inr (.inr (.inr (sR S a))))) := by simp [cellE, hk]
  rw [hce] at hq0
  exact va_alen CC.1 CC.2.1 CC.2.2.2.2.2.2.2.2.2.1 w.1 q0 3 hq0 rfl hv hd (h p e s m args below meth c H locs ls CC w hS hl)
/-- the end of the heap is forgotten -/
def noT (S : JS) : JS := (S.1, S.2.1, S.2.2.1, S.2.2.2.1, S.2.2.2.2.1, S.2.2.2.2.2.1, none)
theorem Wd_noT {H : Heap} (w : Wd Ω I S H) : Wd Ω I (noT S) H := by
  have e : va_pl (sL (noT S)) (cellE Ω I (noT S)) = va_pl (sL S) (cellE Ω I S) := va_pl_congr fun a => cellE_cS rfl rfl rfl rfl rfl
  refine ⟨?_, ?_, fun z hz => by cases hz⟩
  · rw [e]; exact w.1
  · rw [e]; exact w.2.1
theorem aa_noT (h : AA Ω Y F k n pc lv st I (noT S)) : AA Ω Y F k n pc lv st I S := fun p e s m args below meth c H locs ls CC w hS hl => h p e s m args below meth c H locs ls CC (Wd_noT w) hS hl
end NEWS
theorem dfX0 : ∀ j, j < 8 → defaultValue (tyX0 j) = if isR 0 j = true then Value.null else .int 0 := fun j hj => match j, hj with | 0, _ => rfl | 1, _ => rfl | 2, _ => rfl | 3, _ => rfl | 4, _ => rfl | 5, _ => rfl | 6, _ => rfl | 7, _ => rfl | j + 8, h => absurd h (by omega)
theorem nwX0 : NW 0 RX0 := ⟨TX0, 8, tyX0, rfl, rfl, by decide, uw_X0, tyX0_ok, dfX0, iw_8_CardLoom_Deck, nw_X0⟩
theorem dfX1 : ∀ j, j < 3 → defaultValue (tyX1 j) = if isR 1 j = true then Value.null else .int 0 := fun j hj => match j, hj with | 0, _ => rfl | 1, _ => rfl | 2, _ => rfl | j + 3, h => absurd h (by omega)
theorem nwX1 : NW 1 RX1 := ⟨TX1, 3, tyX1, rfl, rfl, by decide, uw_X1, tyX1_ok, dfX1, iw_3_CardLoom_History, nw_X1⟩
theorem dfX2 : ∀ j, j < 7 → defaultValue (tyX2 j) = if isR 2 j = true then Value.null else .int 0 := fun j hj => match j, hj with | 0, _ => rfl | 1, _ => rfl | 2, _ => rfl | 3, _ => rfl | 4, _ => rfl | 5, _ => rfl | 6, _ => rfl | j + 7, h => absurd h (by omega)
theorem nwX2 : NW 2 RX2 := ⟨TX2, 7, tyX2, rfl, rfl, by decide, uw_X2, tyX2_ok, dfX2, iw_7_CardLoom_Input, nw_X2⟩
theorem dfX3 : ∀ j, j < 13 → defaultValue (tyX3 j) = if isR 3 j = true then Value.null else .int 0 := fun j hj => match j, hj with | 0, _ => rfl | 1, _ => rfl | 2, _ => rfl | 3, _ => rfl | 4, _ => rfl | 5, _ => rfl | 6, _ => rfl | 7, _ => rfl | 8, _ => rfl | 9, _ => rfl | 10, _ => rfl | 11, _ => rfl | 12, _ => rfl | j + 13, h => absurd h (by omega)
theorem nwX3 : NW 3 RX3 := ⟨TX3, 13, tyX3, rfl, rfl, by decide, uw_X3, tyX3_ok, dfX3, iw_13_CardLoom_Loom, nw_X3⟩
theorem dfX4 : ∀ j, j < 2 → defaultValue (tyX4 j) = if isR 4 j = true then Value.null else .int 0 := fun j hj => match j, hj with | 0, _ => rfl | 1, _ => rfl | j + 2, h => absurd h (by omega)
theorem nwX4 : NW 4 RX4 := ⟨TX4, 2, tyX4, rfl, rfl, by decide, uw_X4, tyX4_ok, dfX4, iw_2_CardLoom_Output, nw_X4⟩
theorem dfX5 : ∀ j, j < 5 → defaultValue (tyX5 j) = if isR 5 j = true then Value.null else .int 0 := fun j hj => match j, hj with | 0, _ => rfl | 1, _ => rfl | 2, _ => rfl | 3, _ => rfl | 4, _ => rfl | j + 5, h => absurd h (by omega)
theorem nwX5 : NW 5 RX5 := ⟨TX5, 5, tyX5, rfl, rfl, by decide, uw_X5, tyX5_ok, dfX5, iw_5_CardLoom_Parser, nw_X5⟩
theorem dfX6 : ∀ j, j < 2 → defaultValue (tyX6 j) = if isR 6 j = true then Value.null else .int 0 := fun j hj => match j, hj with | 0, _ => rfl | 1, _ => rfl | j + 2, h => absurd h (by omega)
theorem nwX6 : NW 6 RX6 := ⟨TX6, 2, tyX6, rfl, rfl, by decide, uw_X6, tyX6_ok, dfX6, iw_2_CardLoom_Slot, nw_X6⟩
theorem dfX7 : ∀ j, j < 12 → defaultValue (tyX7 j) = if isR 7 j = true then Value.null else .int 0 := fun j hj => match j, hj with | 0, _ => rfl | 1, _ => rfl | 2, _ => rfl | 3, _ => rfl | 4, _ => rfl | 5, _ => rfl | 6, _ => rfl | 7, _ => rfl | 8, _ => rfl | 9, _ => rfl | 10, _ => rfl | 11, _ => rfl | j + 12, h => absurd h (by omega)
theorem nwX7 : NW 7 RX7 := ⟨TX7, 12, tyX7, rfl, rfl, by decide, uw_X7, tyX7_ok, dfX7, iw_12_CardLoom_State, nw_X7⟩
theorem dfX8 : ∀ j, j < 7 → defaultValue (tyX8 j) = if isR 8 j = true then Value.null else .int 0 := fun j hj => match j, hj with | 0, _ => rfl | 1, _ => rfl | 2, _ => rfl | 3, _ => rfl | 4, _ => rfl | 5, _ => rfl | 6, _ => rfl | j + 7, h => absurd h (by omega)
theorem nwX8 : NW 8 RX8 := ⟨TX8, 7, tyX8, rfl, rfl, by decide, uw_X8, tyX8_ok, dfX8, iw_7_CardLoom, nw_X8⟩
theorem dfX9 : ∀ j, j < 15 → defaultValue (tyX9 j) = if isR 9 j = true then Value.null else .int 0 := fun j hj => match j, hj with | 0, _ => rfl | 1, _ => rfl | 2, _ => rfl | 3, _ => rfl | 4, _ => rfl | 5, _ => rfl | 6, _ => rfl | 7, _ => rfl | 8, _ => rfl | 9, _ => rfl | 10, _ => rfl | 11, _ => rfl | 12, _ => rfl | 13, _ => rfl | 14, _ => rfl | j + 15, h => absurd h (by omega)
theorem nwX9 : NW 9 RX9 := ⟨TX9, 15, tyX9, rfl, rfl, by decide, uw_X9, tyX9_ok, dfX9, iw_15_CardLoomLaw_Loom, nw_X9⟩
theorem dfJ4 : ∀ j, j < 4 → defaultValue (tyJ4 j) = if isR 16 j = true then Value.null else .int 0 := fun j hj => match j, hj with | 0, _ => rfl | 1, _ => rfl | 2, _ => rfl | 3, _ => rfl | j + 4, h => absurd h (by omega)
theorem nwJ4 : NW 16 RJ4 := ⟨TJ4, 4, tyJ4, rfl, rfl, by decide, uw_J4, tyJ4_ok, dfJ4, iw_4_java_lang_StringBuilder, nw_J4⟩
theorem dfJ0 : ∀ j, j < 4 → defaultValue (tyJ0 j) = if isR 17 j = true then Value.null else .int 0 := fun j hj => match j, hj with | 0, _ => rfl | 1, _ => rfl | 2, _ => rfl | 3, _ => rfl | j + 4, h => absurd h (by omega)
theorem nwJ0 : NW 17 RJ0 := ⟨TJ0, 4, tyJ0, rfl, rfl, by decide, uw_J0, tyJ0_ok, dfJ0, iw_4_java_lang_String, nw_J0⟩
theorem dfJx4a65c : ∀ j, j < 3 → defaultValue (tyJx4a65c j) = if isR 18 j = true then Value.null else .int 0 := fun j hj => match j, hj with | 0, _ => rfl | 1, _ => rfl | 2, _ => rfl | j + 3, h => absurd h (by omega)
theorem nwJx4a65c : NW 18 RJx4a65c := ⟨TJx4a65c, 3, tyJx4a65c, rfl, rfl, by decide, uw_Jx4a65c, tyJx4a65c_ok, dfJx4a65c, iw_3_java_util_ArrayList, nw_Jx4a65c⟩
