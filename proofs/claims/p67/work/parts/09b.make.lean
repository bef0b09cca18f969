/-! making at an end of the heap without a name -/
def nwN (S : JS) (z ki n : Nat) : JS := noT (nwS S z ki n)
section MAKE
variable {Ω : JO} {Y Z : JM} {F : JF} {k n k' n' pc pc' : Nat} {lv lv' : List (Nat × Value)} {st rest : List Value} {I : JI} {S : JS}
theorem Wd_lt {H : Heap} (w : Wd Ω I S H) : ∀ a, a ∈ sL S → a < H.size := fun a ha => by
  obtain ⟨q0, hq0⟩ := va_pl_get (X := []) (f := cellE Ω I S) ha
  exact (w.1 q0 _ hq0).lt
theorem Wd_wT {H : Heap} (w : Wd Ω I S H) : Wd Ω I (wT S H.size) H := by
  have e : va_pl (sL (wT S H.size)) (cellE Ω I (wT S H.size)) = va_pl (sL S) (cellE Ω I S) := va_pl_congr fun a => cellE_cS rfl rfl rfl rfl rfl
  refine ⟨?_, ?_, fun z hz => by cases hz; rfl⟩
  · rw [e]; exact w.1
  · rw [e]; exact w.2.1
theorem aa_name (h : ∀ z, (∀ a, a ∈ sL S → a < z) → AA Ω Y F k n pc lv st I (wT S z)) : AA Ω Y F k n pc lv st I S := fun p e s m args below meth c H locs ls CC w hS hl => h H.size (Wd_lt w) p e s m args below meth c H locs ls CC (Wd_wT w) hS hl
theorem r_newG {ci idx : Nat} {C : String} (hd : decode Y.2.1 pc = .ok (.new idx, 3)) (hl : Cond.classLink Y.1.cls idx C ∈ gTbl) (hw : NW ci C) (hc : k + 1 ≤ Y.2.2.2.2.2.cells) (hs : n + nFd ci ≤ Y.2.2.2.2.2.slots) (hp : pc + 3 = pc') (h : ∀ z, (∀ a, a ∈ sL S → a < z) → AA Ω Y F (k + 1) (n + nFd ci) pc' lv (.ref z :: st) (nwI I z) (nwN S z ci 0)) : AA Ω Y F k n pc lv st I S :=
  aa_name fun z hz => r_new hd hl hw rfl hc hs hp (aa_noT (h z hz))
theorem r_newIG {N : Nat} {cnt : Int32} (hd : decode Y.2.1 pc = .ok (.newarray .int, 2)) (hn : ¬ cnt < 0) (hN : cnt.toNatClampNeg = N) (hb : N * 4 ≤ 536870912) (hc : k + 1 ≤ Y.2.2.2.2.2.cells) (hs : n + N ≤ Y.2.2.2.2.2.slots) (hp : pc + 2 = pc') (h : ∀ z, (∀ a, a ∈ sL S → a < z) → AA Ω Y F (k + 1) (n + N) pc' lv (.ref z :: st) (nwI I z) (nwN S z 11 N)) : AA Ω Y F k n pc lv (.int cnt :: st) I S :=
  aa_name fun z hz => r_newI hd rfl hn hN hb hc hs hp (aa_noT (h z hz))
theorem r_newBG {N : Nat} {cnt : Int32} (hd : decode Y.2.1 pc = .ok (.newarray .byte, 2)) (hn : ¬ cnt < 0) (hN : cnt.toNatClampNeg = N) (hb : N * 1 ≤ 536870912) (hc : k + 1 ≤ Y.2.2.2.2.2.cells) (hs : n + N ≤ Y.2.2.2.2.2.slots) (hp : pc + 2 = pc') (h : ∀ z, (∀ a, a ∈ sL S → a < z) → AA Ω Y F (k + 1) (n + N) pc' lv (.ref z :: st) (nwI I z) (nwN S z 10 N)) : AA Ω Y F k n pc lv (.int cnt :: st) I S :=
  aa_name fun z hz => r_newB hd rfl hn hN hb hc hs hp (aa_noT (h z hz))
theorem r_newZG {N : Nat} {cnt : Int32} (hd : decode Y.2.1 pc = .ok (.newarray .boolean, 2)) (hn : ¬ cnt < 0) (hN : cnt.toNatClampNeg = N) (hb : N * 1 ≤ 536870912) (hc : k + 1 ≤ Y.2.2.2.2.2.cells) (hs : n + N ≤ Y.2.2.2.2.2.slots) (hp : pc + 2 = pc') (h : ∀ z, (∀ a, a ∈ sL S → a < z) → AA Ω Y F (k + 1) (n + N) pc' lv (.ref z :: st) (nwI I z) (nwN S z 12 N)) : AA Ω Y F k n pc lv (.int cnt :: st) I S :=
  aa_name fun z hz => r_newZ hd rfl hn hN hb hc hs hp (aa_noT (h z hz))
theorem r_newLG {N : Nat} {cnt : Int32} (hd : decode Y.2.1 pc = .ok (.newarray .long, 2)) (hn : ¬ cnt < 0) (hN : cnt.toNatClampNeg = N) (hb : N * 8 ≤ 536870912) (hc : k + 1 ≤ Y.2.2.2.2.2.cells) (hs : n + N ≤ Y.2.2.2.2.2.slots) (hp : pc + 2 = pc') (h : ∀ z, (∀ a, a ∈ sL S → a < z) → AA Ω Y F (k + 1) (n + N) pc' lv (.ref z :: st) (nwI I z) (nwN S z 14 N)) : AA Ω Y F k n pc lv (.int cnt :: st) I S :=
  aa_name fun z hz => r_newL hd rfl hn hN hb hc hs hp (aa_noT (h z hz))
theorem r_anew19 {N idx : Nat} {cnt : Int32} (hd : decode Y.2.1 pc = .ok (.anewarray idx, 3)) (hl : Cond.classLink Y.1.cls idx "java/lang/Object" ∈ gTbl) (hn : ¬ cnt < 0) (hN : cnt.toNatClampNeg = N) (hb : N * 4 ≤ 536870912) (hc : k + 1 ≤ Y.2.2.2.2.2.cells) (hs : n + N ≤ Y.2.2.2.2.2.slots) (hp : pc + 3 = pc') (h : ∀ z, (∀ a, a ∈ sL S → a < z) → AA Ω Y F (k + 1) (n + N) pc' lv (.ref z :: st) (nwI I z) (nwN S z 19 N)) : AA Ω Y F k n pc lv (.int cnt :: st) I S := by
  subst hp
  subst hN
  refine aa_name fun z hz0 => ?_
  have h := h z hz0
  intro p e s m args below meth c H locs ls CC w hS hlv
  have hev := CC.2.2.2.2.2.2.2.2.2
  have hts := CC.2.2.2.2.2.1
  have hz := w.2.2 z rfl
  refine W.anew CC.1 CC.2.1 CC.2.2.2.2.1 (hts _ hl) (va_AO.use hev.2.2.2.2.2.2.2.1.2.2.2.2.2.2.1) rfl hd rfl hn hb hc hs fun cA kA comp f1 f2 f3 f4 => ?_
  generalize hH1 : H.push ({ cls := cA, slots := Array.replicate cnt.toNatClampNeg .null, vm := .none } : Cell) = H1
  have z1 : H1.size = z + 1 := by rw [← hH1, Array.size_push, hz]
  have o1 : ∀ q : Nat, q < z → H1[q]? = H[q]? := fun q hq => by rw [← hH1, Array.getElem?_push, if_neg (by omega)]
  rw [hz]
  have h3 : va_at Ω.2.1 vwCl (z, cellE Ω (nwI I z) (nwS (wT S z) z 19 cnt.toNatClampNeg) z) H1 := by
    obtain ⟨-, kA', comp', g1, g2, g3, g4⟩ := hev.1.2 5 _ rfl
    have hcA : cA = Ω.2.2.1 6 := Option.some.inj (f1.symm.trans g4)
    have hK9 : sK (nwS (wT S z) z 19 cnt.toNatClampNeg) z = 19 := by rw [nwS_K, if_pos rfl]
    have hN9 : sN (nwS (wT S z) z 19 cnt.toNatClampNeg) z = cnt.toNatClampNeg := by rw [nwS_N, if_pos rfl]
    have hR9 : sR (nwS (wT S z) z 19 cnt.toNatClampNeg) z = fun _ => none := by funext j; rw [nwS_R, if_pos rfl]
    have hce : cellE Ω (nwI I z) (nwS (wT S z) z 19 cnt.toNatClampNeg) z = .inl (Ω.2.2.1 6, cnt.toNatClampNeg, .inr (.inr (.inr (.inr (fun _ => none))))) := by
      unfold cellE
      rw [hK9, hN9, hR9]
      rfl
    rw [hce]
    show H1[z]? = some (vp_cell (Ω.2.2.1 6) (cnt.toNatClampNeg, .inr (.inr (.inr (.inr (fun _ => none))))))
    rw [← hH1, ← hz, Array.getElem?_push_size, hcA, vp_cell_q, ← arrV_new]
    rfl
  exact h p e s m args below meth c H1 locs ls CC (Wd_noT (Wd_new (S := wT S z) w rfl (AR_z hev hS hz) z1 o1 h3)) (va_S_new hS hz z1 o1) hlv
theorem up_q19 {a j : Nat} {r : Option Nat} (hk : sK S a = 19) : ∀ b, va_up (cellE Ω I S) a (.inl (Ω.2.2.1 6, sN S a, .inr (.inr (.inr (.inr (va_up (sR S a) j r)))))) b = cellE Ω I (stR S a j r) b := by
  intro b
  by_cases hb : b = a
  · subst hb
    have e : cellE Ω I (stR S b j r) b = .inl (Ω.2.2.1 6, sN S b, .inr (.inr (.inr (.inr (sR (stR S b j r) b))))) := by
      have hk' : sK (stR S b j r) b = 19 := hk
      unfold cellE
      rw [hk']
      rfl
    rw [va_up_self, e]
    congr 7
    funext q
    simp [va_up, stR, sR]
  · rw [va_up_ne _ _ hb]
    exact cellE_cS rfl rfl (by funext q; simp [stR, sR, hb]) rfl rfl
theorem r_aald19 {a N : Nat} {i : Int32} {v : Nat} (hd : decode Y.2.1 pc = .ok (.aaload, 1)) (hA : ArE 19 S a N) (hin : vp_in i N) (hv : sR S a i.toNatClampNeg = some v) (hp : pc + 1 = pc') (h : AA Ω Y F k n pc' lv (.ref v :: st) I S) : AA Ω Y F k n pc lv (.int i :: .ref a :: st) I S := by
  subst hp
  intro p e s m args below meth c H locs ls C w hS hl
  obtain ⟨ha, hk, hN, -⟩ := hA
  subst hN
  obtain ⟨q0, hq0⟩ := va_pl_get (X := []) (f := cellE Ω I S) ha
  have hce : cellE Ω I S a = .inl (Ω.2.2.1 6, sN S a, .inr (.inr (.inr (.inr (sR S a))))) := by simp [cellE, hk]
  rw [hce] at hq0
  have hlt : i.toNatClampNeg < sN S a := Nat.not_le.mp fun q => hin (Or.inr q)
  have hcell : H[a]? = some (arrV (Ω.2.2.1 6) (sN S a) (fun j => va_rf (sR S a j))) := w.1 q0 _ hq0
  exact W.aald (v := .ref v) (ty := .object "java/lang/Object") C.1 C.2.1 hcell ((C.2.2.2.2.2.2.2.2.2.1.2 5 _ rfl).1 (sN S a) (fun j => va_rf (sR S a j))) rfl (fun q => by cases q) (by rw [arrV_size]; exact hin) (by rw [arrV_read _ _ hlt, hv]; rfl) rfl rfl hd (h p e s m args below meth c H locs ls C w hS hl)
theorem r_alen19 {a N : Nat} {v : Int32} (hd : decode Y.2.1 pc = .ok (.arraylength, 1)) (hA : ArE 19 S a N) (hv : Int32.ofNat N = v) (hp : pc + 1 = pc') (h : AA Ω Y F k n pc' lv (.int v :: st) I S) : AA Ω Y F k n pc lv (.ref a :: st) I S := by
  subst hp
  intro p e s m args below meth c H locs ls C w hS hl
  obtain ⟨ha, hk, hN, -⟩ := hA
  subst hN
  obtain ⟨q0, hq0⟩ := va_pl_get (X := []) (f := cellE Ω I S) ha
  have hce : cellE Ω I S a = .inl (Ω.2.2.1 6, sN S a, .inr (.inr (.inr (.inr (sR S a))))) := by simp [cellE, hk]
  rw [hce] at hq0
  exact va_alen C.1 C.2.1 C.2.2.2.2.2.2.2.2.2.1 w.1 q0 5 hq0 rfl hv hd (h p e s m args below meth c H locs ls C w hS hl)
theorem r_anew20 {N idx : Nat} {cnt : Int32} (hd : decode Y.2.1 pc = .ok (.anewarray idx, 3)) (hl : Cond.classLink Y.1.cls idx (FieldType.array .int).toString ∈ gTbl) (hn : ¬ cnt < 0) (hN : cnt.toNatClampNeg = N) (hb : N * 4 ≤ 536870912) (hc : k + 1 ≤ Y.2.2.2.2.2.cells) (hs : n + N ≤ Y.2.2.2.2.2.slots) (hp : pc + 3 = pc') (h : ∀ z, (∀ a, a ∈ sL S → a < z) → AA Ω Y F (k + 1) (n + N) pc' lv (.ref z :: st) (nwI I z) (nwN S z 20 N)) : AA Ω Y F k n pc lv (.int cnt :: st) I S := by
  subst hp
  subst hN
  refine aa_name fun z hz0 => ?_
  have h := h z hz0
  intro p e s m args below meth c H locs ls CC w hS hlv
  have hev := CC.2.2.2.2.2.2.2.2.2
  have hts := CC.2.2.2.2.2.1
  have hz := w.2.2 z rfl
  refine W.anewA (t := .int) CC.1 CC.2.1 CC.2.2.2.2.1 (hts _ hl) hev.2.2.2.2.2.2.2.1.2.2.2.2.2.2.2.1 rfl hd rfl hn hb hc hs fun cA kA comp f1 f2 f3 f4 => ?_
  generalize hH1 : H.push ({ cls := cA, slots := Array.replicate cnt.toNatClampNeg .null, vm := .none } : Cell) = H1
  have z1 : H1.size = z + 1 := by rw [← hH1, Array.size_push, hz]
  have o1 : ∀ q : Nat, q < z → H1[q]? = H[q]? := fun q hq => by rw [← hH1, Array.getElem?_push, if_neg (by omega)]
  rw [hz]
  have h3 : va_at Ω.2.1 vwCl (z, cellE Ω (nwI I z) (nwS (wT S z) z 20 cnt.toNatClampNeg) z) H1 := by
    have g4 := (hev.1.2 6 _ rfl).2
    have hcA : cA = Ω.2.2.1 7 := Option.some.inj (f1.symm.trans g4)
    have hK9 : sK (nwS (wT S z) z 20 cnt.toNatClampNeg) z = 20 := by rw [nwS_K, if_pos rfl]
    have hN9 : sN (nwS (wT S z) z 20 cnt.toNatClampNeg) z = cnt.toNatClampNeg := by rw [nwS_N, if_pos rfl]
    have hR9 : sR (nwS (wT S z) z 20 cnt.toNatClampNeg) z = fun _ => none := by funext j; rw [nwS_R, if_pos rfl]
    have hce : cellE Ω (nwI I z) (nwS (wT S z) z 20 cnt.toNatClampNeg) z = .inl (Ω.2.2.1 7, cnt.toNatClampNeg, .inr (.inr (.inr (.inr (fun _ => none))))) := by
      unfold cellE
      rw [hK9, hN9, hR9]
      rfl
    rw [hce]
    show H1[z]? = some (vp_cell (Ω.2.2.1 7) (cnt.toNatClampNeg, .inr (.inr (.inr (.inr (fun _ => none))))))
    rw [← hH1, ← hz, Array.getElem?_push_size, hcA, vp_cell_q, ← arrV_new]
    rfl
  exact h p e s m args below meth c H1 locs ls CC (Wd_noT (Wd_new (S := wT S z) w rfl (AR_z hev hS hz) z1 o1 h3)) (va_S_new hS hz z1 o1) hlv
theorem up_q20 {a j : Nat} {r : Option Nat} (hk : sK S a = 20) : ∀ b, va_up (cellE Ω I S) a (.inl (Ω.2.2.1 7, sN S a, .inr (.inr (.inr (.inr (va_up (sR S a) j r)))))) b = cellE Ω I (stR S a j r) b := by
  intro b
  by_cases hb : b = a
  · subst hb
    have e : cellE Ω I (stR S b j r) b = .inl (Ω.2.2.1 7, sN S b, .inr (.inr (.inr (.inr (sR (stR S b j r) b))))) := by
      have hk' : sK (stR S b j r) b = 20 := hk
      unfold cellE
      rw [hk']
      rfl
    rw [va_up_self, e]
    congr 7
    funext q
    simp [va_up, stR, sR]
  · rw [va_up_ne _ _ hb]
    exact cellE_cS rfl rfl (by funext q; simp [stR, sR, hb]) rfl rfl
theorem r_aald20 {a N : Nat} {i : Int32} {v : Nat} (hd : decode Y.2.1 pc = .ok (.aaload, 1)) (hA : ArE 20 S a N) (hin : vp_in i N) (hv : sR S a i.toNatClampNeg = some v) (hp : pc + 1 = pc') (h : AA Ω Y F k n pc' lv (.ref v :: st) I S) : AA Ω Y F k n pc lv (.int i :: .ref a :: st) I S := by
  subst hp
  intro p e s m args below meth c H locs ls C w hS hl
  obtain ⟨ha, hk, hN, -⟩ := hA
  subst hN
  obtain ⟨q0, hq0⟩ := va_pl_get (X := []) (f := cellE Ω I S) ha
  have hce : cellE Ω I S a = .inl (Ω.2.2.1 7, sN S a, .inr (.inr (.inr (.inr (sR S a))))) := by simp [cellE, hk]
  rw [hce] at hq0
  have hlt : i.toNatClampNeg < sN S a := Nat.not_le.mp fun q => hin (Or.inr q)
  have hcell : H[a]? = some (arrV (Ω.2.2.1 7) (sN S a) (fun j => va_rf (sR S a j))) := w.1 q0 _ hq0
  exact W.aald (v := .ref v) (ty := .array .int) C.1 C.2.1 hcell ((C.2.2.2.2.2.2.2.2.2.1.2 6 _ rfl).1 (sN S a) (fun j => va_rf (sR S a j))) rfl (fun q => by cases q) (by rw [arrV_size]; exact hin) (by rw [arrV_read _ _ hlt, hv]; rfl) rfl rfl hd (h p e s m args below meth c H locs ls C w hS hl)
theorem r_alen20 {a N : Nat} {v : Int32} (hd : decode Y.2.1 pc = .ok (.arraylength, 1)) (hA : ArE 20 S a N) (hv : Int32.ofNat N = v) (hp : pc + 1 = pc') (h : AA Ω Y F k n pc' lv (.int v :: st) I S) : AA Ω Y F k n pc lv (.ref a :: st) I S := by
  subst hp
  intro p e s m args below meth c H locs ls C w hS hl
  obtain ⟨ha, hk, hN, -⟩ := hA
  subst hN
  obtain ⟨q0, hq0⟩ := va_pl_get (X := []) (f := cellE Ω I S) ha
  have hce : cellE Ω I S a = .inl (Ω.2.2.1 7, sN S a, .inr (.inr (.inr (.inr (sR S a))))) := by simp [cellE, hk]
  rw [hce] at hq0
  exact va_alen C.1 C.2.1 C.2.2.2.2.2.2.2.2.2.1 w.1 q0 6 hq0 rfl hv hd (h p e s m args below meth c H locs ls C w hS hl)
theorem r_alen14 {a N : Nat} {v : Int32} (hd : decode Y.2.1 pc = .ok (.arraylength, 1)) (hA : ArE 14 S a N) (hv : Int32.ofNat N = v) (hp : pc + 1 = pc') (h : AA Ω Y F k n pc' lv (.int v :: st) I S) : AA Ω Y F k n pc lv (.ref a :: st) I S := by
  subst hp
  intro p e s m args below meth c H locs ls C w hS hl
  obtain ⟨ha, hk, hN, -⟩ := hA
  subst hN
  obtain ⟨q0, hq0⟩ := va_pl_get (X := []) (f := cellE Ω I S) ha
  have hce : cellE Ω I S a = .inl (Ω.2.2.1 4, sN S a, .inr (.inl (sX S a))) := by simp [cellE, hk]
  rw [hce] at hq0
  exact va_alen C.1 C.2.1 C.2.2.2.2.2.2.2.2.2.1 w.1 q0 4 hq0 rfl hv hd (h p e s m args below meth c H locs ls C w hS hl)
/-! references are stored: a row of ints into a row of rows, a row of ints or a box into a row of objects, null -/
theorem r_aast20 {a N v : Nat} {i : Int32} (hd : decode Y.2.1 pc = .ok (.aastore, 1)) (hA : ArE 20 S a N) (hv : v ∈ sL S ∧ sK S v = 11) (hin : vp_in i N) (hp : pc + 1 = pc') (h : AA Ω Y F k n pc' lv st I (stR S a i.toNatClampNeg (some v))) : AA Ω Y F k n pc lv (.ref v :: .int i :: .ref a :: st) I S := by
  subst hp
  intro p e s m args below meth c H locs ls C w hS hl
  obtain ⟨ha, hk, hN, hT⟩ := hA
  obtain ⟨hv1, hv2⟩ := hv
  subst hN
  have hK := C.2.2.2.2.2.2.2.2.2.1
  obtain ⟨q0, hq1⟩ := va_pl_get (X := []) (f := cellE Ω I S) ha
  have hq0 := hq1
  rw [show cellE Ω I S a = .inl (Ω.2.2.1 7, sN S a, .inr (.inr (.inr (.inr (sR S a))))) by simp [cellE, hk]] at hq0
  obtain ⟨qk, hqk⟩ := va_pl_get (X := []) (f := cellE Ω I S) hv1
  rw [show cellE Ω I S v = .inl (Ω.2.2.1 1, sN S v, .inl (I v)) by simp [cellE, hv2]] at hqk
  have hlt : i.toNatClampNeg < sN S a := Nat.not_le.mp fun q => hin (Or.inr q)
  have h0 : ¬ i < 0 := fun q => hin (Or.inl q)
  obtain ⟨comp, cA, kA, k3, -, k1, k2, k4⟩ := arrayOverA_spec (evx C).2.2.2.2.2.2.1
  have hcA : cA = Ω.2.2.1 7 := Option.some.inj (k4.symm.trans (hK.2 6 _ rfl).2)
  subst hcA
  have b4 : s.vm.findClass ("[" ++ FieldType.int.toString) = some (Ω.2.2.1 1) := (hK.2 1 _ rfl).2
  have hcomp : comp = Ω.2.2.1 1 := Option.some.inj (k3.symm.trans b4)
  subst hcomp
  obtain ⟨kB, b1, -⟩ := Vm.findClass_spec b4
  have hcell : H[a]? = some (vp_cell (Ω.2.2.1 7) (sN S a, .inr (.inr (.inr (.inr (sR S a)))))) := w.1 q0 _ hq0
  have hcellv : H[v]? = some (vp_cell (Ω.2.2.1 1) (sN S v, .inl (I v))) := w.1 qk _ hqk
  refine W.aast C.1 C.2.1 hcell (fun q h => by cases h) (fun h => by cases h) k1 k2 rfl b1 ⟨h0, by show _ < (arrV _ _ _).slots.size; rw [arrV_size]; exact hlt⟩ hcellv (fun q h => by cases h) b1 (va_asg _ _) rfl rfl hd fun H1 e1 z1 oq => ?_
  have hnew : H1[a]? = some (vp_cell (Ω.2.2.1 7) (sN S a, .inr (.inr (.inr (.inr (va_up (sR S a) i.toNatClampNeg (some v))))))) := by
    rw [e1, vp_cell_q, vp_cell_q, arrV_store]
    congr 2
    funext q
    by_cases hq : q = i.toNatClampNeg
    · subst hq
      simp [updV, va_up, va_rf]
    · simp [updV, va_up, hq]
  refine h p e s m args below meth c H1 _ ls C ⟨?_, ?_, fun y hy => absurd (hT.symm.trans hy) (by simp)⟩ (hS.put z1 oq (w.2.1.2 q0 _ hq1)) hl
  · have g := w.1.set w.2.1 hq0 (e := .inl (Ω.2.2.1 7, sN S a, .inr (.inr (.inr (.inr (va_up (sR S a) i.toNatClampNeg (some v))))))) hnew oq
    rw [va_pl_set w.2.1 ha hq1, va_pl_congr (up_q20 hk)] at g
    exact g
  · have g := w.2.1.set hq0 (e := .inl (Ω.2.2.1 7, sN S a, .inr (.inr (.inr (.inr (va_up (sR S a) i.toNatClampNeg (some v)))))))
    rw [va_pl_set w.2.1 ha hq1, va_pl_congr (up_q20 hk)] at g
    exact g
/-- what a row of objects takes -/
def AnyO (Ω : JO) (S : JS) (v : Nat) : Prop := (v ∈ sL S ∧ sK S v = 11) ∨ ∃ j, j < 256 ∧ v = oB Ω j
theorem anyO_of {p : Program} {s : State} {m : MethodId} {args : Array Value} {meth : Method} {c : Code} {H : Heap} {locs : List Loc} {v : Nat} (C : Cx Ω Y p s m args meth c) (w : Wd Ω I S H) (hS : va_S (AR Ω) s.heap H locs) (h : AnyO Ω S v) (h1 : Cond.castable "[I" "java/lang/Object" ∈ lw_tbl) (h2 : Cond.castable "java/lang/Integer" "java/lang/Object" ∈ lw_tbl) : va_Any "java/lang/Object" s H v := by
  have hev := C.2.2.2.2.2.2.2.2.2
  rcases h with ⟨hv1, hv2⟩ | ⟨j, hj, rfl⟩
  · obtain ⟨qk, hqk⟩ := va_pl_get (X := []) (f := cellE Ω I S) hv1
    rw [show cellE Ω I S v = .inl (Ω.2.2.1 1, sN S v, .inl (I v)) by simp [cellE, hv2]] at hqk
    have b4 : s.vm.findClass ("[" ++ FieldType.int.toString) = some (Ω.2.2.1 1) := (hev.1.2 1 _ rfl).2
    obtain ⟨kB, b1, -⟩ := Vm.findClass_spec b4
    exact ⟨_, w.1 qk _ hqk, rfl, ⟨kB, b1⟩, fun comp hc => vb_asgC (hev.2.2.2.2.1.1 _ _ h1) comp _ hc b4⟩
  · obtain ⟨cell, g1, g2, g3, -⟩ := ((evx C).2.2.1.2.2.2.1 j hj).kept hS.2.1
    obtain ⟨kC, hkC, -⟩ := Vm.findClass_spec g3
    exact ⟨cell, g1, g2, ⟨kC, hkC⟩, fun comp hc => vb_asgC (hev.2.2.2.2.1.1 _ _ h2) comp _ hc g3⟩
theorem r_aast19 {a N v : Nat} {i : Int32} (hd : decode Y.2.1 pc = .ok (.aastore, 1)) (hA : ArE 19 S a N) (hv : AnyO Ω S v) (h1 : Cond.castable "[I" "java/lang/Object" ∈ lw_tbl) (h2 : Cond.castable "java/lang/Integer" "java/lang/Object" ∈ lw_tbl) (hin : vp_in i N) (hp : pc + 1 = pc') (h : AA Ω Y F k n pc' lv st I (stR S a i.toNatClampNeg (some v))) : AA Ω Y F k n pc lv (.ref v :: .int i :: .ref a :: st) I S := by
  subst hp
  intro p e s m args below meth c H locs ls C w hS hl
  obtain ⟨ha, hk, hN, hT⟩ := hA
  subst hN
  obtain ⟨q0, hq1⟩ := va_pl_get (X := []) (f := cellE Ω I S) ha
  have hq0 := hq1
  rw [show cellE Ω I S a = .inl (Ω.2.2.1 6, sN S a, .inr (.inr (.inr (.inr (sR S a))))) by simp [cellE, hk]] at hq0
  refine va_astqM C.1 C.2.1 C.2.2.2.2.2.2.2.2.2.1 w.1 w.2.1 hS q0 5 hq0 rfl (anyO_of C w hS hv h1 h2) hin hd fun H1 locs1 e1 e2 e3 => ?_
  rw [va_pl_set w.2.1 ha hq1, va_pl_congr (up_q19 hk)] at e1 e2
  exact h p e s m args below meth c H1 locs1 ls C ⟨e1, e2, fun y hy => absurd (hT.symm.trans hy) (by simp)⟩ e3 hl
theorem r_aast19N {a N : Nat} {i : Int32} (hd : decode Y.2.1 pc = .ok (.aastore, 1)) (hA : ArE 19 S a N) (hin : vp_in i N) (hp : pc + 1 = pc') (h : AA Ω Y F k n pc' lv st I (stR S a i.toNatClampNeg none)) : AA Ω Y F k n pc lv (.null :: .int i :: .ref a :: st) I S := by
  subst hp
  intro p e s m args below meth c H locs ls C w hS hl
  obtain ⟨ha, hk, hN, hT⟩ := hA
  subst hN
  obtain ⟨q0, hq1⟩ := va_pl_get (X := []) (f := cellE Ω I S) ha
  have hq0 := hq1
  rw [show cellE Ω I S a = .inl (Ω.2.2.1 6, sN S a, .inr (.inr (.inr (.inr (sR S a))))) by simp [cellE, hk]] at hq0
  refine va_astqN C.1 C.2.1 C.2.2.2.2.2.2.2.2.2.1 w.1 w.2.1 hS q0 5 hq0 rfl hin hd fun H1 locs1 e1 e2 e3 => ?_
  rw [va_pl_set w.2.1 ha hq1, va_pl_congr (up_q19 hk)] at e1 e2
  exact h p e s m args below meth c H1 locs1 ls C ⟨e1, e2, fun y hy => absurd (hT.symm.trans hy) (by simp)⟩ e3 hl
/-! clones of rows of numbers; casts of what is a row already -/
def clI (I : JI) (a z : Nat) : JI := fun b j => if b = z then I a j else I b j
theorem r_clone10 {a N idx : Nat} (hd : decode Y.2.1 pc = .ok (.invokevirtual idx, 3)) (hA : ArE 10 S a N) (h1 : Cond.methodLink Y.1.cls idx ⟨"[B", "clone", "()Ljava/lang/Object;"⟩ ∈ gTbl) (h2 : Cond.sameMethod "[B" "java/lang/Object" "clone" "()Ljava/lang/Object;" ∈ gTbl) (h3 : Cond.native ⟨"java/lang/Object", "clone", "()Ljava/lang/Object;"⟩ ∈ gTbl) (h4 : Cond.instanceMethod ⟨"java/lang/Object", "clone", "()Ljava/lang/Object;"⟩ ∈ gTbl) (h5 : Cond.selects "[B" ⟨"[B", "clone", "()Ljava/lang/Object;"⟩ ⟨"java/lang/Object", "clone", "()Ljava/lang/Object;"⟩ ∈ gTbl) (h6 : Cond.castable "[B" "java/lang/Cloneable" ∈ lw_tbl) (hfit : ∀ j, j < N → fits .byte (.int (I a j)) = true) (hf : 1 ≤ Y.2.2.2.2.2.frames) (hlo : (st.map fun v => v.category).sum + 14 ≤ Y.2.2.2.2.2.locals) (hc : k + 1 ≤ Y.2.2.2.2.2.cells) (hs : n + N ≤ Y.2.2.2.2.2.slots) (hp : pc + 3 = pc') (h : ∀ z, z ∉ sL S → AA Ω Y F (k + 1) (n + N) pc' lv (.ref z :: st) (clI I a z) (nwN S z 10 N)) : AA Ω Y F k n pc lv (.ref a :: st) I S := by
  subst hp
  intro p e s m args below meth c H locs ls C w hS hl
  obtain ⟨ha, hk, hN, hT⟩ := hA
  subst hN
  have hev := C.2.2.2.2.2.2.2.2.2
  have hts := C.2.2.2.2.2.1
  obtain ⟨q0, hq0⟩ := va_pl_get (X := []) (f := cellE Ω I S) ha
  have hce : cellE Ω I S a = .inl (Ω.2.2.1 0, sN S a, .inl (I a)) := by simp [cellE, hk]
  rw [hce] at hq0
  have hnm : s.vm.findClass "[B" = some (Ω.2.2.1 0) := by
    exact (hev.1.2 0 _ rfl).2
  refine va_clone C.1 C.2.1 (C.2.2.1.trans hl.1.symm) C.2.2.2.2.1 (hts _ h1) (hts _ h2) (hts _ h3) (hts _ h4) (hts _ h5) (hev.2.2.2.2.1.1 _ _ h6) hev.1 w.1 w.2.1 hS (fun q hq => Nat.le_trans hev.2.2.2.2.2.2.2.2.1 hq) q0 0 hq0 rfl hnm (va_fit fun j hj => hfit j hj) hf hlo hc hs hd fun q H1 e0 e1 e2 e3 => ?_
  have hq : q ∉ sL S := fun hm => by
    obtain ⟨k9, hk9⟩ := va_pl_get (X := []) (f := cellE Ω I S) hm
    have hlen := (List.getElem?_eq_some_iff.mp hk9).1
    have e9 := e2.1 k9 _ (q, cellE Ω I S q) (q, .inl (Ω.2.2.1 0, sN S a, .inl (I a))) (by rw [List.getElem?_append_left hlen]; exact hk9) (by rw [List.getElem?_append_right (Nat.le_refl _), Nat.sub_self]; rfl) rfl
    omega
  have eL : ([] : va_W) ++ va_pl (sL (nwN S q 10 (sN S a))) (cellE Ω (clI I a q) (nwN S q 10 (sN S a))) = ([] ++ va_pl (sL S) (cellE Ω I S)) ++ [(q, .inl (Ω.2.2.1 0, sN S a, .inl (I a)))] := by
    show va_pl (sL S ++ [q]) _ = va_pl (sL S) _ ++ _
    unfold va_pl
    rw [List.map_append]
    congr 1
    · apply List.map_congr_left
      intro b hb
      have hbq : b ≠ q := fun h => hq (h ▸ hb)
      rw [cellE_cI (I' := I) (by funext j; simp [clI, hbq])]
      rw [cellE_cS (S' := S) (by show sK (nwS S q 10 (sN S a)) b = _; rw [nwS_K, if_neg hbq]) (by show sN (nwS S q 10 (sN S a)) b = _; rw [nwS_N, if_neg hbq]) (by funext j; show sR (nwS S q 10 (sN S a)) b j = _; rw [nwS_R, if_neg hbq]) (by funext j; show sX (nwS S q 10 (sN S a)) b j = _; rw [nwS_X, if_neg hbq]) (by funext j; show sY (nwS S q 10 (sN S a)) b j = _; rw [nwS_Y, if_neg hbq])]
    · have hK9 : sK (nwN S q 10 (sN S a)) q = 10 := by show sK (nwS S q 10 (sN S a)) q = _; rw [nwS_K, if_pos rfl]
      have hN9 : sN (nwN S q 10 (sN S a)) q = sN S a := by show sN (nwS S q 10 (sN S a)) q = _; rw [nwS_N, if_pos rfl]
      have : cellE Ω (clI I a q) (nwN S q 10 (sN S a)) q = .inl (Ω.2.2.1 0, sN S a, .inl (I a)) := by
        have hI9 : clI I a q q = I a := by funext j; simp [clI]
        simp [cellE, hK9, hN9, hI9]
      rw [List.map_cons, List.map_nil, this]
  refine h q hq p e s m args below meth c H1 locs ls C ⟨by rw [eL]; exact e1, by rw [eL]; exact e2, fun y hy => by cases hy⟩ e3 hl
theorem r_cast10 {a N idx : Nat} (hd : decode Y.2.1 pc = .ok (.checkcast idx, 3)) (hlk : Cond.classLink Y.1.cls idx "[B" ∈ gTbl) (hA : ArE 10 S a N) (hp : pc + 3 = pc') (h : AA Ω Y F k n pc' lv (.ref a :: st) I S) : AA Ω Y F k n pc lv (.ref a :: st) I S := by
  subst hp
  intro p e s m args below meth c H locs ls C w hS hl
  obtain ⟨ha, hk, hN, hT⟩ := hA
  subst hN
  have hev := C.2.2.2.2.2.2.2.2.2
  obtain ⟨q0, hq0⟩ := va_pl_get (X := []) (f := cellE Ω I S) ha
  have hce : cellE Ω I S a = .inl (Ω.2.2.1 0, sN S a, .inl (I a)) := by simp [cellE, hk]
  rw [hce] at hq0
  have hnm : s.vm.findClass "[B" = some (Ω.2.2.1 0) := by
    exact (hev.1.2 0 _ rfl).2
  exact va_castA C.1 C.2.1 C.2.2.2.2.1 (C.2.2.2.2.2.1 _ hlk) w.1 q0 hq0 hnm hd (h p e s m args below meth c H locs ls C w hS hl)
theorem r_clone11 {a N idx : Nat} (hd : decode Y.2.1 pc = .ok (.invokevirtual idx, 3)) (hA : ArE 11 S a N) (h1 : Cond.methodLink Y.1.cls idx ⟨"[I", "clone", "()Ljava/lang/Object;"⟩ ∈ gTbl) (h2 : Cond.sameMethod "[I" "java/lang/Object" "clone" "()Ljava/lang/Object;" ∈ gTbl) (h3 : Cond.native ⟨"java/lang/Object", "clone", "()Ljava/lang/Object;"⟩ ∈ gTbl) (h4 : Cond.instanceMethod ⟨"java/lang/Object", "clone", "()Ljava/lang/Object;"⟩ ∈ gTbl) (h5 : Cond.selects "[I" ⟨"[I", "clone", "()Ljava/lang/Object;"⟩ ⟨"java/lang/Object", "clone", "()Ljava/lang/Object;"⟩ ∈ gTbl) (h6 : Cond.castable "[I" "java/lang/Cloneable" ∈ lw_tbl) (hfit : ∀ j, j < N → fits .int (.int (I a j)) = true) (hf : 1 ≤ Y.2.2.2.2.2.frames) (hlo : (st.map fun v => v.category).sum + 14 ≤ Y.2.2.2.2.2.locals) (hc : k + 1 ≤ Y.2.2.2.2.2.cells) (hs : n + N ≤ Y.2.2.2.2.2.slots) (hp : pc + 3 = pc') (h : ∀ z, z ∉ sL S → AA Ω Y F (k + 1) (n + N) pc' lv (.ref z :: st) (clI I a z) (nwN S z 11 N)) : AA Ω Y F k n pc lv (.ref a :: st) I S := by
  subst hp
  intro p e s m args below meth c H locs ls C w hS hl
  obtain ⟨ha, hk, hN, hT⟩ := hA
  subst hN
  have hev := C.2.2.2.2.2.2.2.2.2
  have hts := C.2.2.2.2.2.1
  obtain ⟨q0, hq0⟩ := va_pl_get (X := []) (f := cellE Ω I S) ha
  have hce : cellE Ω I S a = .inl (Ω.2.2.1 1, sN S a, .inl (I a)) := by simp [cellE, hk]
  rw [hce] at hq0
  have hnm : s.vm.findClass "[I" = some (Ω.2.2.1 1) := by
    exact (hev.1.2 1 _ rfl).2
  refine va_clone C.1 C.2.1 (C.2.2.1.trans hl.1.symm) C.2.2.2.2.1 (hts _ h1) (hts _ h2) (hts _ h3) (hts _ h4) (hts _ h5) (hev.2.2.2.2.1.1 _ _ h6) hev.1 w.1 w.2.1 hS (fun q hq => Nat.le_trans hev.2.2.2.2.2.2.2.2.1 hq) q0 1 hq0 rfl hnm (va_fit fun j hj => hfit j hj) hf hlo hc hs hd fun q H1 e0 e1 e2 e3 => ?_
  have hq : q ∉ sL S := fun hm => by
    obtain ⟨k9, hk9⟩ := va_pl_get (X := []) (f := cellE Ω I S) hm
    have hlen := (List.getElem?_eq_some_iff.mp hk9).1
    have e9 := e2.1 k9 _ (q, cellE Ω I S q) (q, .inl (Ω.2.2.1 1, sN S a, .inl (I a))) (by rw [List.getElem?_append_left hlen]; exact hk9) (by rw [List.getElem?_append_right (Nat.le_refl _), Nat.sub_self]; rfl) rfl
    omega
  have eL : ([] : va_W) ++ va_pl (sL (nwN S q 11 (sN S a))) (cellE Ω (clI I a q) (nwN S q 11 (sN S a))) = ([] ++ va_pl (sL S) (cellE Ω I S)) ++ [(q, .inl (Ω.2.2.1 1, sN S a, .inl (I a)))] := by
    show va_pl (sL S ++ [q]) _ = va_pl (sL S) _ ++ _
    unfold va_pl
    rw [List.map_append]
    congr 1
    · apply List.map_congr_left
      intro b hb
      have hbq : b ≠ q := fun h => hq (h ▸ hb)
      rw [cellE_cI (I' := I) (by funext j; simp [clI, hbq])]
      rw [cellE_cS (S' := S) (by show sK (nwS S q 11 (sN S a)) b = _; rw [nwS_K, if_neg hbq]) (by show sN (nwS S q 11 (sN S a)) b = _; rw [nwS_N, if_neg hbq]) (by funext j; show sR (nwS S q 11 (sN S a)) b j = _; rw [nwS_R, if_neg hbq]) (by funext j; show sX (nwS S q 11 (sN S a)) b j = _; rw [nwS_X, if_neg hbq]) (by funext j; show sY (nwS S q 11 (sN S a)) b j = _; rw [nwS_Y, if_neg hbq])]
    · have hK9 : sK (nwN S q 11 (sN S a)) q = 11 := by show sK (nwS S q 11 (sN S a)) q = _; rw [nwS_K, if_pos rfl]
      have hN9 : sN (nwN S q 11 (sN S a)) q = sN S a := by show sN (nwS S q 11 (sN S a)) q = _; rw [nwS_N, if_pos rfl]
      have : cellE Ω (clI I a q) (nwN S q 11 (sN S a)) q = .inl (Ω.2.2.1 1, sN S a, .inl (I a)) := by
        have hI9 : clI I a q q = I a := by funext j; simp [clI]
        simp [cellE, hK9, hN9, hI9]
      rw [List.map_cons, List.map_nil, this]
  refine h q hq p e s m args below meth c H1 locs ls C ⟨by rw [eL]; exact e1, by rw [eL]; exact e2, fun y hy => by cases hy⟩ e3 hl
theorem r_cast11 {a N idx : Nat} (hd : decode Y.2.1 pc = .ok (.checkcast idx, 3)) (hlk : Cond.classLink Y.1.cls idx "[I" ∈ gTbl) (hA : ArE 11 S a N) (hp : pc + 3 = pc') (h : AA Ω Y F k n pc' lv (.ref a :: st) I S) : AA Ω Y F k n pc lv (.ref a :: st) I S := by
  subst hp
  intro p e s m args below meth c H locs ls C w hS hl
  obtain ⟨ha, hk, hN, hT⟩ := hA
  subst hN
  have hev := C.2.2.2.2.2.2.2.2.2
  obtain ⟨q0, hq0⟩ := va_pl_get (X := []) (f := cellE Ω I S) ha
  have hce : cellE Ω I S a = .inl (Ω.2.2.1 1, sN S a, .inl (I a)) := by simp [cellE, hk]
  rw [hce] at hq0
  have hnm : s.vm.findClass "[I" = some (Ω.2.2.1 1) := by
    exact (hev.1.2 1 _ rfl).2
  exact va_castA C.1 C.2.1 C.2.2.2.2.1 (C.2.2.2.2.2.1 _ hlk) w.1 q0 hq0 hnm hd (h p e s m args below meth c H locs ls C w hS hl)
theorem r_clone12 {a N idx : Nat} (hd : decode Y.2.1 pc = .ok (.invokevirtual idx, 3)) (hA : ArE 12 S a N) (h1 : Cond.methodLink Y.1.cls idx ⟨"[Z", "clone", "()Ljava/lang/Object;"⟩ ∈ gTbl) (h2 : Cond.sameMethod "[Z" "java/lang/Object" "clone" "()Ljava/lang/Object;" ∈ gTbl) (h3 : Cond.native ⟨"java/lang/Object", "clone", "()Ljava/lang/Object;"⟩ ∈ gTbl) (h4 : Cond.instanceMethod ⟨"java/lang/Object", "clone", "()Ljava/lang/Object;"⟩ ∈ gTbl) (h5 : Cond.selects "[Z" ⟨"[Z", "clone", "()Ljava/lang/Object;"⟩ ⟨"java/lang/Object", "clone", "()Ljava/lang/Object;"⟩ ∈ gTbl) (h6 : Cond.castable "[Z" "java/lang/Cloneable" ∈ lw_tbl) (hfit : ∀ j, j < N → fits .boolean (.int (I a j)) = true) (hf : 1 ≤ Y.2.2.2.2.2.frames) (hlo : (st.map fun v => v.category).sum + 14 ≤ Y.2.2.2.2.2.locals) (hc : k + 1 ≤ Y.2.2.2.2.2.cells) (hs : n + N ≤ Y.2.2.2.2.2.slots) (hp : pc + 3 = pc') (h : ∀ z, z ∉ sL S → AA Ω Y F (k + 1) (n + N) pc' lv (.ref z :: st) (clI I a z) (nwN S z 12 N)) : AA Ω Y F k n pc lv (.ref a :: st) I S := by
  subst hp
  intro p e s m args below meth c H locs ls C w hS hl
  obtain ⟨ha, hk, hN, hT⟩ := hA
  subst hN
  have hev := C.2.2.2.2.2.2.2.2.2
  have hts := C.2.2.2.2.2.1
  obtain ⟨q0, hq0⟩ := va_pl_get (X := []) (f := cellE Ω I S) ha
  have hce : cellE Ω I S a = .inl (Ω.2.2.1 2, sN S a, .inl (I a)) := by simp [cellE, hk]
  rw [hce] at hq0
  have hnm : s.vm.findClass "[Z" = some (Ω.2.2.1 2) := by
    exact (hev.1.2 2 _ rfl).2
  refine va_clone C.1 C.2.1 (C.2.2.1.trans hl.1.symm) C.2.2.2.2.1 (hts _ h1) (hts _ h2) (hts _ h3) (hts _ h4) (hts _ h5) (hev.2.2.2.2.1.1 _ _ h6) hev.1 w.1 w.2.1 hS (fun q hq => Nat.le_trans hev.2.2.2.2.2.2.2.2.1 hq) q0 2 hq0 rfl hnm (va_fit fun j hj => hfit j hj) hf hlo hc hs hd fun q H1 e0 e1 e2 e3 => ?_
  have hq : q ∉ sL S := fun hm => by
    obtain ⟨k9, hk9⟩ := va_pl_get (X := []) (f := cellE Ω I S) hm
    have hlen := (List.getElem?_eq_some_iff.mp hk9).1
    have e9 := e2.1 k9 _ (q, cellE Ω I S q) (q, .inl (Ω.2.2.1 2, sN S a, .inl (I a))) (by rw [List.getElem?_append_left hlen]; exact hk9) (by rw [List.getElem?_append_right (Nat.le_refl _), Nat.sub_self]; rfl) rfl
    omega
  have eL : ([] : va_W) ++ va_pl (sL (nwN S q 12 (sN S a))) (cellE Ω (clI I a q) (nwN S q 12 (sN S a))) = ([] ++ va_pl (sL S) (cellE Ω I S)) ++ [(q, .inl (Ω.2.2.1 2, sN S a, .inl (I a)))] := by
    show va_pl (sL S ++ [q]) _ = va_pl (sL S) _ ++ _
    unfold va_pl
    rw [List.map_append]
    congr 1
    · apply List.map_congr_left
      intro b hb
      have hbq : b ≠ q := fun h => hq (h ▸ hb)
      rw [cellE_cI (I' := I) (by funext j; simp [clI, hbq])]
      rw [cellE_cS (S' := S) (by show sK (nwS S q 12 (sN S a)) b = _; rw [nwS_K, if_neg hbq]) (by show sN (nwS S q 12 (sN S a)) b = _; rw [nwS_N, if_neg hbq]) (by funext j; show sR (nwS S q 12 (sN S a)) b j = _; rw [nwS_R, if_neg hbq]) (by funext j; show sX (nwS S q 12 (sN S a)) b j = _; rw [nwS_X, if_neg hbq]) (by funext j; show sY (nwS S q 12 (sN S a)) b j = _; rw [nwS_Y, if_neg hbq])]
    · have hK9 : sK (nwN S q 12 (sN S a)) q = 12 := by show sK (nwS S q 12 (sN S a)) q = _; rw [nwS_K, if_pos rfl]
      have hN9 : sN (nwN S q 12 (sN S a)) q = sN S a := by show sN (nwS S q 12 (sN S a)) q = _; rw [nwS_N, if_pos rfl]
      have : cellE Ω (clI I a q) (nwN S q 12 (sN S a)) q = .inl (Ω.2.2.1 2, sN S a, .inl (I a)) := by
        have hI9 : clI I a q q = I a := by funext j; simp [clI]
        simp [cellE, hK9, hN9, hI9]
      rw [List.map_cons, List.map_nil, this]
  refine h q hq p e s m args below meth c H1 locs ls C ⟨by rw [eL]; exact e1, by rw [eL]; exact e2, fun y hy => by cases hy⟩ e3 hl
theorem r_cast12 {a N idx : Nat} (hd : decode Y.2.1 pc = .ok (.checkcast idx, 3)) (hlk : Cond.classLink Y.1.cls idx "[Z" ∈ gTbl) (hA : ArE 12 S a N) (hp : pc + 3 = pc') (h : AA Ω Y F k n pc' lv (.ref a :: st) I S) : AA Ω Y F k n pc lv (.ref a :: st) I S := by
  subst hp
  intro p e s m args below meth c H locs ls C w hS hl
  obtain ⟨ha, hk, hN, hT⟩ := hA
  subst hN
  have hev := C.2.2.2.2.2.2.2.2.2
  obtain ⟨q0, hq0⟩ := va_pl_get (X := []) (f := cellE Ω I S) ha
  have hce : cellE Ω I S a = .inl (Ω.2.2.1 2, sN S a, .inl (I a)) := by simp [cellE, hk]
  rw [hce] at hq0
  have hnm : s.vm.findClass "[Z" = some (Ω.2.2.1 2) := by
    exact (hev.1.2 2 _ rfl).2
  exact va_castA C.1 C.2.1 C.2.2.2.2.1 (C.2.2.2.2.2.1 _ hlk) w.1 q0 hq0 hnm hd (h p e s m args below meth c H locs ls C w hS hl)
theorem r_castBox {i idx : Nat} (hd : decode Y.2.1 pc = .ok (.checkcast idx, 3)) (hlk : Cond.classLink Y.1.cls idx "java/lang/Integer" ∈ gTbl) (hin : Cond.instantiable "java/lang/Integer" 1 ∈ gTbl) (hi : i < 256) (hp : pc + 3 = pc') (h : AA Ω Y F k n pc' lv (.ref (oB Ω i) :: st) I S) : AA Ω Y F k n pc lv (.ref (oB Ω i) :: st) I S := by
  subst hp
  intro p e s m args below meth c H locs ls C w hS hl
  obtain ⟨cC, kC, hfc, hk, hkind, -⟩ := Cond.instantiable_spec (C.2.2.2.2.2.1 _ hin)
  obtain ⟨cell, g1, g2, g3, -⟩ := ((evx C).2.2.1.2.2.2.1 i hi).kept hS.2.1
  exact va_castS C.1 C.2.1 C.2.2.2.2.1 (C.2.2.2.2.2.1 _ hlk) (cC := cC) ⟨hfc, kC, hk, hkind⟩ ⟨cell, g1, g2, g3⟩ hd (h p e s m args below meth c H locs ls C w hS hl)
/-! copies of bytes -/
def cyR (I : JI) (f : Nat → Int32) (a sp dp n : Nat) : JI := fun x j => if x = a then (if dp ≤ j ∧ j < dp + n then f (sp + (j - dp)) else I a j) else I x j
theorem up_cp {a sp dp m N : Nat} {f : Nat → Int32} (hk : sK S a = 10) (hN : sN S a = N) : ∀ b, va_up (cellE Ω I S) a (.inl (Ω.2.2.1 0, N, .inl (va_cpy f (I a) sp dp m))) b = cellE Ω (cyR I f a sp dp m) S b := by
  intro b
  by_cases hb : b = a
  · subst hb
    rw [va_up_self]
    simp only [cellE, hk, hN]
    congr 3
    refine congrArg Sum.inl (funext fun j => ?_)
    simp [va_cpy, cyR]
  · rw [va_up_ne _ _ hb]
    exact cellE_cI (by funext j; simp [cyR, hb])
theorem r_copyB {idx a0 a n0 n1 : Nat} {sp dp len : Int32} (hd : decode Y.2.1 pc = .ok (.invokestatic idx, 3)) (hw : AW Y.1.cls idx) (hA0 : ArE 10 S a0 n0) (hA : ArE 10 S a n1) (h1 : ¬ sp < 0) (h2 : ¬ dp < 0) (h3 : ¬ len < 0) (h4 : sp.toNatClampNeg + len.toNatClampNeg ≤ n0) (h5 : dp.toNatClampNeg + len.toNatClampNeg ≤ n1) (hfit : ∀ i, i < len.toNatClampNeg → fits .byte (.int (I a0 (sp.toNatClampNeg + i))) = true) (hf : 1 ≤ Y.2.2.2.2.2.frames) (hlo : (rest.map fun v => v.category).sum + (nativeFrameWords "java/lang/System" "arraycopy" 5 + 11) ≤ Y.2.2.2.2.2.locals) (hp : pc + 3 = pc') (h : AA Ω Y F k n pc' lv rest (cyR I (I a0) a sp.toNatClampNeg dp.toNatClampNeg len.toNatClampNeg) S) : AA Ω Y F k n pc lv (.int len :: .int dp :: .ref a :: .int sp :: .ref a0 :: rest) I S := by
  subst hp
  intro p e s m args below meth c H locs ls C w hS hl
  have hts := C.2.2.2.2.2.1
  obtain ⟨ha0, hk0, hN0, -⟩ := hA0
  obtain ⟨ha, hk, hN, hT⟩ := hA
  obtain ⟨q0, hq0⟩ := va_pl_get (X := []) (f := cellE Ω I S) ha0
  obtain ⟨q1, hq1⟩ := va_pl_get (X := []) (f := cellE Ω I S) ha
  have hq1' := hq1
  rw [show cellE Ω I S a0 = .inl (Ω.2.2.1 0, sN S a0, .inl (I a0)) by simp [cellE, hk0], hN0] at hq0
  rw [show cellE Ω I S a = .inl (Ω.2.2.1 0, sN S a, .inl (I a)) by simp [cellE, hk], hN] at hq1'
  refine va_copyi C.1 C.2.1 (C.2.2.1.trans hl.1.symm) C.2.2.2.2.1 (hts _ hw.1) (hts _ hw.2.1) (hts _ hw.2.2.1) (hts _ hw.2.2.2) C.2.2.2.2.2.2.2.2.2.1 w.1 w.2.1 hS q0 q1 0 0 hq0 hq1' rfl rfl rfl h1 h2 h3 h4 h5 hfit hf hlo hd fun H1 locs1 e1 e2 e3 => ?_
  rw [va_pl_set w.2.1 ha hq1, va_pl_congr (up_cp hk hN)] at e1 e2
  exact h p e s m args below meth c H1 locs1 ls C ⟨e1, e2, fun z hz => absurd (hT.symm.trans hz) (by simp)⟩ e3 hl
/-- out of a literal's bytes -/
theorem r_copyS {idx a n1 : Nat} {own : String} {sk : Nat} {tx : String} {dp len : Int32} (hd : decode Y.2.1 pc = .ok (.invokestatic idx, 3)) (hw : AW Y.1.cls idx) (ht : Cond.stringRef own sk tx ∈ lw_tbl) (hA : ArE 10 S a n1) (h2 : ¬ dp < 0) (h3 : ¬ len < 0) (h4 : len.toNatClampNeg ≤ tx.toList.length) (h5 : dp.toNatClampNeg + len.toNatClampNeg ≤ n1) (hfit : ∀ i, i < len.toNatClampNeg → fits .byte (.int (chE tx i)) = true) (hf : 1 ≤ Y.2.2.2.2.2.frames) (hlo : (rest.map fun v => v.category).sum + (nativeFrameWords "java/lang/System" "arraycopy" 5 + 11) ≤ Y.2.2.2.2.2.locals) (hp : pc + 3 = pc') (h : AA Ω Y F k n pc' lv rest (cyR I (chE tx) a 0 dp.toNatClampNeg len.toNatClampNeg) S) : AA Ω Y F k n pc lv (.int len :: .int dp :: .ref a :: .int 0 :: .ref (Ω.2.2.2.2.1 own sk).2 :: rest) I S := by
  subst hp
  intro p e s m args below meth c H locs ls C w hS hl
  have hts := C.2.2.2.2.2.1
  have hev := C.2.2.2.2.2.2.2.2.2
  obtain ⟨ha, hk, hN, hT⟩ := hA
  obtain ⟨q1, hq1⟩ := va_pl_get (X := []) (f := cellE Ω I S) ha
  have hq1' := hq1
  rw [show cellE Ω I S a = .inl (Ω.2.2.1 0, sN S a, .inl (I a)) by simp [cellE, hk], hN] at hq1'
  refine vk_copyt (f := chE tx) C.1 C.2.1 (C.2.2.1.trans hl.1.symm) C.2.2.2.2.1 (hts _ hw.1) (hts _ hw.2.1) (hts _ hw.2.2.1) (hts _ hw.2.2.2) hev.1 w.1 w.2.1 hS (hev.2.2.2.2.2.2.1 own sk tx ht).2.2.2.2 q1 0 hq1' rfl (sp := 0) (by decide) h2 h3 (by simpa using h4) h5 (fun i hi => by simpa using hfit i hi) hf hlo hd fun H1 locs1 e1 e2 e3 => ?_
  rw [va_pl_set w.2.1 ha hq1, va_pl_congr (up_cp hk hN)] at e1 e2
  exact h p e s m args below meth c H1 locs1 ls C ⟨e1, e2, fun z hz => absurd (hT.symm.trans hz) (by simp)⟩ e3 hl
/-! calls of inherited methods, of a superclass's, of an interface's: what they call doesn't throw -/
theorem met_n {As : List Value} {Q : Option Value → JI → JS → Prop} (h : Call Ω Z As I S (jn Q)) : Met Ω.1 Z.1 (.code Z.1 Z.2.1 Z.2.2.1 Z.2.2.2.1 :: gTbl) Z.2.2.2.2.2 (PcJ Ω I S As) (QcJ Ω (jn Q)) Z.2.2.2.2.2.cells Z.2.2.2.2.2.slots (AR Ω) := by
  unfold Call vx_Met at h
  refine h.mono (fun _ _ h => h) (fun _ _ _ _ _ h => h) fun a s o t _ hq => ?_
  rcases hq with hq | ⟨q, -, E, ce, L, ⟨⟨I', S', hx, -⟩, -⟩, -⟩
  · exact hq
  · exact absurd hx id
theorem aa_runN {p : Program} {e : Env} {s : State} {m : MethodId} {args : Array Value} {below : List Frame} {meth : Method} {c : Code} {H : Heap} {locs : List Loc} {ls : Array Slot} {rest : List Value} {a' : Array Value} {Q : Option Value → JI → JS → Prop} {mc ms : Nat}
    (C : Cx Ω Y p s m args meth c) (hS : va_S (AR Ω) s.heap H locs) (hl : lv_has ls Y.2.2.1 lv) (hp : pc + 3 = pc') (hk : k + mc = k') (hn : n + ms = n')
    (hr : va_Run p Ω.1 e Y.2.2.2.2.2 s m args below meth c H locs k n mc ms (F0 m pc ls st) rest (QcJ Ω (jn Q) a') (AR Ω)) (hq : ∀ r I S, Q r I S → AA Ω Y F k' n' pc' lv (r.toList ++ rest) I S) :
    W p Ω.1 e Y.2.2.2.2.2 s m args below meth c H locs k n (F below args s) (F0 m pc ls st) := by
  subst hp; subst hk; subst hn
  intro T hT X
  obtain ⟨v, st₀, t, T', L, h0, X', hL, e1, e2, ⟨⟨r, I', S', hv, hQ, hw⟩, hF⟩, go⟩ := hr T hT X
  cases hv
  obtain ⟨-, -, k3⟩ := vx_keep h0 e1 hS (fun q _ h => h) (fun q h => h) hL hF
  obtain ⟨t2, a1, b1⟩ := hq _ _ _ hQ p e s m args below meth c T'.heap (locs ++ L) ls C (by rw [e1]; exact hw) k3 hl T' rfl X'
  exact ⟨t2, go t2 a1, b1⟩
theorem aa_run5 {p : Program} {e : Env} {s : State} {m : MethodId} {args : Array Value} {below : List Frame} {meth : Method} {c : Code} {H : Heap} {locs : List Loc} {ls : Array Slot} {rest : List Value} {a' : Array Value} {Q : Option Value → JI → JS → Prop} {mc ms : Nat}
    (C : Cx Ω Y p s m args meth c) (hS : va_S (AR Ω) s.heap H locs) (hl : lv_has ls Y.2.2.1 lv) (hp : pc + 5 = pc') (hk : k + mc = k') (hn : n + ms = n')
    (hr : va_Run5 p Ω.1 e Y.2.2.2.2.2 s m args below meth c H locs k n mc ms (F0 m pc ls st) rest (QcJ Ω (jn Q) a') (AR Ω)) (hq : ∀ r I S, Q r I S → AA Ω Y F k' n' pc' lv (r.toList ++ rest) I S) :
    W p Ω.1 e Y.2.2.2.2.2 s m args below meth c H locs k n (F below args s) (F0 m pc ls st) := by
  subst hp; subst hk; subst hn
  intro T hT X
  obtain ⟨v, st₀, t, T', L, h0, X', hL, e1, e2, ⟨⟨r, I', S', hv, hQ, hw⟩, hF⟩, go⟩ := hr T hT X
  cases hv
  obtain ⟨-, -, k3⟩ := vx_keep h0 e1 hS (fun q _ h => h) (fun q h => h) hL hF
  obtain ⟨t2, a1, b1⟩ := hq _ _ _ hQ p e s m args below meth c T'.heap (locs ++ L) ls C (by rw [e1]; exact hw) k3 hl T' rfl X'
  exact ⟨t2, go t2 a1, b1⟩
/-- words of a call by reference x, of receivers of class Cn, that runs Z -/
def UW (own Cn owner : String) (idx nn : Nat) (x : MethodName) (Z : JM) : Prop := (Cond.code Z.1 Z.2.1 Z.2.2.1 Z.2.2.2.1 ∈ gTbl ∧ Cond.methodLink own idx x ∈ gTbl ∧ Cond.sameMethod x.cls owner x.name x.desc ∈ gTbl ∧ Cond.instanceMethod Z.1 ∈ gTbl ∧ Cond.initialized Z.1.cls ∈ gTbl) ∧ Cond.selects Cn x Z.1 ∈ gTbl ∧ (owner ≠ "java/lang/invoke/MethodHandle" ∧ owner ≠ "java/lang/invoke/VarHandle" ∧ (parseMethodDescriptor x.desc).map (fun d => d.parameters.length) = some nn) ∧ (Z.1 = ⟨owner, x.name, x.desc⟩ ∨ (Cond.instanceMethod ⟨owner, x.name, x.desc⟩ ∈ gTbl ∧ ∃ b0 m0 r0, Cond.code ⟨owner, x.name, x.desc⟩ b0 m0 r0 ∈ gTbl))
theorem sel_priv {Cn : String} {y y0 : MethodName} {s : State} {args : Array Value} (hy : y.cls ≠ "java/lang/invoke/MethodHandle" ∧ y.cls ≠ "java/lang/invoke/VarHandle") (hc : y0.cls = y.cls) (h0 : (Cond.selects Cn y0 y0).before args s = true) (hpriv : (Cond.privateMethod y).before args s = true) (hinst : (Cond.instanceMethod y).before args s = true) : (Cond.selects Cn y y).before args s = true := by
  obtain ⟨c, r, m0, q1, q2, q3, q4, mk0, q5, q6⟩ := Cond.selects_spec h0
  obtain ⟨mk, methM, hnamed, hmethM, -, -⟩ := Cond.instanceMethod_spec hinst
  have hfound : s.methodFound? y.cls y.name y.desc = some mk := State.methodFound?_of_named hnamed hy
  have hsel : selectMethod {} s.vm c mk = .method mk := selectMethod_private hmethM (Cond.privateMethod_at hpriv mk methM hnamed hmethM)
  have hcls : mk.cls = m0.cls := by
    have e1 := findClass_of_methodNamed hnamed
    have e2 := findClass_of_methodNamed q3
    rw [hc] at e2
    exact Option.some.inj (e1.symm.trans e2)
  simp only [Cond.before, Cond.holds, Cond.value, q1, hfound, hnamed, hsel, hcls, q5]
  simp [q6]
theorem r_callU {idx nn b ci N : Nat} {As rest : List Value} {T : u_T} {Cn owner : String} {x : MethodName} (hd : decode Y.2.1 pc = .ok (.invokevirtual idx, 3)) (hu : UW Y.1.cls Cn owner idx nn x Z) (ho : b ∈ sL S ∧ sK S b = ci) (hci : oK ci) (hc : vwCl[ci]? = some (Cn, T, N)) (hAs : As.length = nn) (hst : st = As.reverse ++ .ref b :: rest) (hro : roomB Y Z k n = true) (hk : k + Z.2.2.2.2.2.cells = k') (hn : n + Z.2.2.2.2.2.slots = n') (hrs : (rest.map fun v => v.category).sum ≤ 8) (hp : pc + 3 = pc') (h : Call Ω Z (.ref b :: As) I S (jn fun r I' S' => AA Ω Y F k' n' pc' lv (r.toList ++ rest) I' S')) : AA Ω Y F k n pc lv st I S := by
  subst hst
  intro p e s m args below meth c H locs ls C w hS hl
  obtain ⟨r1, r2, r3, r4⟩ := roomB_of hro
  obtain ⟨⟨u0, u1, u2, u3, u4⟩, u5, ⟨u6, u7, u8⟩, u9⟩ := hu
  have hts := C.2.2.2.2.2.1
  have hin : ∀ w ∈ Cond.code Z.1 Z.2.1 Z.2.2.1 Z.2.2.2.1 :: gTbl, w ∈ gTbl := fun w hw => by
    rcases List.mem_cons.mp hw with rfl | hw
    · exact u0
    · exact hw
  have hsel : (Cond.selects Cn x Z.1).before args s = true := hts _ u5
  have cw : va_CU Y.2.2.2.2.2 s args Y.1.cls Cn owner idx x Z.1 Z.2.1 Z.2.2.1 Z.2.2.2.1 (.code Z.1 Z.2.1 Z.2.2.1 Z.2.2.2.1 :: gTbl) Z.2.2.2.2.2 Z.2.2.2.2.2.cells Z.2.2.2.2.2.slots nn := by
    refine ⟨⟨rfl, rfl, r1, r2, pay_in hts (goodIn_g hin), List.mem_cons_self⟩, hts _ u0, hts _ u4, ⟨u6, u7⟩, fun sig h9 => ?_, hts _ u1, hts _ u2, ?_, hsel, hts _ u3⟩
    · rw [h9] at u8
      exact (Option.some.inj u8).symm
    · rcases u9 with u9 | ⟨u9, b0, m0, r0, u10⟩
      · rw [← u9]; exact va_Decl.of (hts _ u3) (hts _ u0)
      · exact va_Decl.of (hts _ u9) (hts _ u10)
  exact aa_runN C hS hl hp hk hn (va_runU ⟨C.1, C.2.1, C.2.2.1, C.2.2.2.2.1, C.2.2.2.2.2.1⟩ (met_n h) cw (preV_g C w hS ho hci hc) rfl hAs hl.1 rfl (lv_room hrs) hd ⟨r3, r4⟩) (fun _ _ _ h => h)
def SW (own : String) (idx nn : Nat) (Z : JM) : Prop := (Cond.code Z.1 Z.2.1 Z.2.2.1 Z.2.2.2.1 ∈ gTbl ∧ (∀ w ∈ ([.methodLink own idx Z.1, .sameMethod Z.1.cls Z.1.cls Z.1.name Z.1.desc, .superclass own Z.1.cls, .instanceMethod Z.1, .initialized Z.1.cls] : List Cond), w ∈ gTbl)) ∧ (Z.1.name ≠ "<init>" ∧ (parseMethodDescriptor Z.1.desc).map (fun d => d.parameters.length) = some nn)
theorem r_callSU {idx nn b ci N : Nat} {As rest : List Value} {T : u_T} {Cn : String} (hd : decode Y.2.1 pc = .ok (.invokespecial idx, 3)) (hu : SW Y.1.cls idx nn Z) (ho : b ∈ sL S ∧ sK S b = ci) (hci : oK ci) (hc : vwCl[ci]? = some (Cn, T, N)) (hAs : As.length = nn) (hst : st = As.reverse ++ .ref b :: rest) (hro : roomB Y Z k n = true) (hk : k + Z.2.2.2.2.2.cells = k') (hn : n + Z.2.2.2.2.2.slots = n') (hrs : (rest.map fun v => v.category).sum ≤ 8) (hp : pc + 3 = pc') (h : Call Ω Z (.ref b :: As) I S (jn fun r I' S' => AA Ω Y F k' n' pc' lv (r.toList ++ rest) I' S')) : AA Ω Y F k n pc lv st I S := by
  subst hst
  intro p e s m args below meth c H locs ls C w hS hl
  obtain ⟨r1, r2, r3, r4⟩ := roomB_of hro
  obtain ⟨⟨u0, u1⟩, u2⟩ := hu
  have cw : va_CS Y.2.2.2.2.2 s args Y.1.cls idx Z.1 Z.2.1 Z.2.2.1 Z.2.2.2.1 (.code Z.1 Z.2.1 Z.2.2.1 Z.2.2.2.1 :: gTbl) Z.2.2.2.2.2 Z.2.2.2.2.2.cells Z.2.2.2.2.2.slots nn := by
    refine va_cwSU nn C.2.2.2.2.2.1 (goodIn_g fun w hw => ?_) rfl rfl rfl u2 ⟨r1, r2⟩
    unfold va_wsSU at hw
    rcases List.mem_append.mp hw with hw | hw
    · exact u1 w hw
    · rcases List.mem_cons.mp hw with rfl | hw
      · exact u0
      · exact hw
  have hat : ClassAt s Cn (Ω.2.1.1 ci) := (C.2.2.2.2.2.2.2.2.2.1.1 ci _ hc).2
  exact aa_runN C hS hl hp hk hn (va_runSU hat ⟨C.1, C.2.1, C.2.2.1, C.2.2.2.2.1, C.2.2.2.2.2.1⟩ (met_n h) cw (preV_g C w hS ho hci hc) rfl hAs hl.1 rfl (lv_room hrs) hd ⟨r3, r4⟩) (fun _ _ _ h => h)
end MAKE
