/-! StringBuilder: what it holds, what its members do -/
def tb (tx : String) : List Nat := tx.toList.map Char.toNat
theorem chE_tb (tx : String) {j : Nat} (h : j < (tb tx).length) : chE tx j = nI ((tb tx).getD j 0) := by
  unfold tb at h ⊢
  rw [List.length_map] at h
  unfold chE
  rw [List.getD_eq_getElem?_getD, List.getD_eq_getElem?_getD, List.getElem?_map]
  rw [List.getElem?_eq_getElem h]
  rfl
theorem tb_len (tx : String) : (tb tx).length = tx.toList.length := List.length_map _
def SBk (S : JS) (I : JI) (b v cap : Nat) (t : List Nat) : Prop := (b ∈ sL S ∧ sK S b = 16) ∧ sR S b 0 = some v ∧ ArE 10 S v cap ∧ I b 1 = 0 ∧ I b 3 = nI t.length ∧ t.length ≤ cap ∧ cap ≤ 2002 ∧ (∀ j, j < t.length → I v j = nI (t.getD j 0)) ∧ (∀ x, x ∈ t → x < 128) ∧ ∀ j, j < cap → fits .byte (.int (I v j)) = true
section SBP
variable {S S' S1 S2 : JS} {I I' I1 I2 : JI} {b v cap z ki m a k : Nat} {t : List Nat} {P Q : Nat → Prop} {x : Int32}
theorem SBk.o (h : SBk S I b v cap t) : b ∈ sL S ∧ sK S b = 16 := h.1
theorem SBk.r (h : SBk S I b v cap t) : sR S b 0 = some v := h.2.1
theorem SBk.arr (h : SBk S I b v cap t) : ArE 10 S v cap := h.2.2.1
theorem SBk.cd (h : SBk S I b v cap t) : I b 1 = 0 := h.2.2.2.1
theorem SBk.n (h : SBk S I b v cap t) : I b 3 = nI t.length := h.2.2.2.2.1
theorem SBk.le (h : SBk S I b v cap t) : t.length ≤ cap := h.2.2.2.2.2.1
theorem SBk.hc (h : SBk S I b v cap t) : cap ≤ 2002 := h.2.2.2.2.2.2.1
theorem SBk.at (h : SBk S I b v cap t) : ∀ j, j < t.length → I v j = nI (t.getD j 0) := h.2.2.2.2.2.2.2.1
theorem SBk.sm (h : SBk S I b v cap t) : ∀ x, x ∈ t → x < 128 := h.2.2.2.2.2.2.2.2.1
theorem SBk.fit (h : SBk S I b v cap t) : ∀ j, j < cap → fits .byte (.int (I v j)) = true := h.2.2.2.2.2.2.2.2.2
theorem SBk.T (h : SBk S I b v cap t) : sT S = none := h.arr.2.2.2
theorem SBk.ne (h : SBk S I b v cap t) : b ≠ v := fun e => by
  have h1 := h.o.2; have h2 := h.arr.2.1; rw [e] at h1; omega
/-- what a walk keeps: all but the cells in P -/
def Kp (P : Nat → Prop) (I : JI) (S : JS) (I' : JI) (S' : JS) : Prop := ∀ a, a ∈ sL S → a ∈ sL S' ∧ sK S' a = sK S a ∧ sN S' a = sN S a ∧ (¬ P a → I' a = I a ∧ sR S' a = sR S a ∧ sX S' a = sX S a)
theorem Kp.rf : Kp P I S I S := fun a h => ⟨h, rfl, rfl, fun _ => ⟨rfl, rfl, rfl⟩⟩
theorem Kp.trans {P1 P2 : Nat → Prop} (h1 : Kp P1 I S I1 S1) (h2 : Kp P2 I1 S1 I2 S2) (h : ∀ a, a ∈ sL S → P1 a ∨ P2 a → P a) : Kp P I S I2 S2 := fun a ha => by
  obtain ⟨a1, a2, a3, a4⟩ := h1 a ha
  obtain ⟨b1, b2, b3, b4⟩ := h2 a a1
  refine ⟨b1, b2.trans a2, b3.trans a3, fun hn => ?_⟩
  obtain ⟨c1, c2, c3⟩ := a4 fun q => hn (h a ha (Or.inl q))
  obtain ⟨d1, d2, d3⟩ := b4 fun q => hn (h a ha (Or.inr q))
  exact ⟨d1.trans c1, d2.trans c2, d3.trans c3⟩
theorem Kp.mono (h1 : Kp P I S I' S') (h : ∀ a, a ∈ sL S → P a → Q a) : Kp Q I S I' S' := fun a ha => ⟨(h1 a ha).1, (h1 a ha).2.1, (h1 a ha).2.2.1, fun hn => (h1 a ha).2.2.2 fun q => hn (h a ha q)⟩
theorem Kp.st (hP : P a) : Kp P I S (stI I a k x) S := fun c hc => ⟨hc, rfl, rfl, fun hn => ⟨stI_ne fun e => hn (e ▸ hP), rfl, rfl⟩⟩
theorem Kp.stR {r : Option Nat} (hP : P a) : Kp P I S I (stR S a k r) := fun c hc => ⟨hc, rfl, rfl, fun hn => ⟨rfl, by funext j; exact stR_R3 fun e => hn (e ▸ hP), rfl⟩⟩
theorem Kp.cy {f : Nat → Int32} {sp dp n : Nat} (hP : P a) : Kp P I S (cyR I f a sp dp n) S := fun c hc => ⟨hc, rfl, rfl, fun hn => ⟨by funext j; simp [cyR, show c ≠ a from fun e => hn (e ▸ hP)], rfl, rfl⟩⟩
theorem nwN_L : sL (nwN S z ki m) = sL S ++ [z] := rfl
theorem nwN_K {b : Nat} : sK (nwN S z ki m) b = if b = z then ki else sK S b := rfl
theorem nwN_N {b : Nat} : sN (nwN S z ki m) b = if b = z then m else sN S b := rfl
theorem nwN_R {b j : Nat} : sR (nwN S z ki m) b j = if b = z then none else sR S b j := rfl
theorem nwN_X {b j : Nat} : sX (nwN S z ki m) b j = if b = z then 0 else sX S b j := rfl
theorem nwN_T : sT (nwN S z ki m) = none := rfl
theorem nwN_ar : ArE ki (nwN S z ki m) z m := ⟨List.mem_append_right _ (List.mem_singleton.mpr rfl), by rw [nwN_K, if_pos rfl], by rw [nwN_N, if_pos rfl], rfl⟩
theorem nwN_o : z ∈ sL (nwN S z ki m) ∧ sK (nwN S z ki m) z = ki := ⟨List.mem_append_right _ (List.mem_singleton.mpr rfl), by rw [nwN_K, if_pos rfl]⟩
theorem Kp.nw (hz : z ∉ sL S) : Kp P I S (nwI I z) (nwN S z ki m) := fun c hc => by
  have hne : c ≠ z := fun e => hz (e ▸ hc)
  exact ⟨List.mem_append_left _ hc, by rw [nwN_K, if_neg hne], by rw [nwN_N, if_neg hne], fun _ => ⟨nwI_o hne, by funext j; rw [nwN_R, if_neg hne], by funext j; rw [nwN_X, if_neg hne]⟩⟩
theorem notin_of (h : ∀ a, a ∈ sL S → a < z) : z ∉ sL S := fun hz => Nat.lt_irrefl z (h z hz)
theorem Kp.o {ci : Nat} (h : Kp P I S I' S') (ho : a ∈ sL S ∧ sK S a = ci) : a ∈ sL S' ∧ sK S' a = ci := ⟨(h a ho.1).1, (h a ho.1).2.1.trans ho.2⟩
theorem Kp.ar {ty n : Nat} (h : Kp P I S I' S') (hT : sT S' = none) (ho : ArE ty S a n) : ArE ty S' a n := ⟨(h a ho.1).1, (h a ho.1).2.1.trans ho.2.1, (h a ho.1).2.2.1.trans ho.2.2.1, hT⟩
theorem Kp.gI (h : Kp P I S I' S') (ha : a ∈ sL S) (hn : ¬ P a) : I' a = I a := ((h a ha).2.2.2 hn).1
theorem Kp.gR (h : Kp P I S I' S') (ha : a ∈ sL S) (hn : ¬ P a) : sR S' a = sR S a := ((h a ha).2.2.2 hn).2.1
theorem Kp.gX (h : Kp P I S I' S') (ha : a ∈ sL S) (hn : ¬ P a) : sX S' a = sX S a := ((h a ha).2.2.2 hn).2.2
theorem Kp.nin (h : Kp P I S I' S') (hz : z ∉ sL S') : z ∉ sL S := fun q => hz (h z q).1
theorem SBk.kp (h : SBk S I b v cap t) (x : Kp P I S I' S') (hT : sT S' = none) (hb : ¬ P b) (hv : ¬ P v) : SBk S' I' b v cap t := by
  obtain ⟨h1, h2, h3, h4, h5, h6, h7, h8, h9, h10⟩ := h
  refine ⟨x.o h1, by rw [x.gR h1.1 hb]; exact h2, x.ar hT h3, by rw [x.gI h1.1 hb]; exact h4, by rw [x.gI h1.1 hb]; exact h5, h6, h7, by rw [x.gI h3.1 hv]; exact h8, h9, by rw [x.gI h3.1 hv]; exact h10⟩
theorem fit_nI {q : Nat} (h : q < 128) : fits .byte (.int (nI q)) = true := by_fin (n := 128) (P := fun q => fits .byte (.int (nI q)) = true) (by decide +kernel) h
theorem fit_0 : fits .byte (.int 0) = true := by decide
theorem getD_app_l {l r : List Nat} {j : Nat} (h : j < l.length) : (l ++ r).getD j 0 = l.getD j 0 := by
  rw [List.getD_eq_getElem?_getD, List.getElem?_append_left h, List.getD_eq_getElem?_getD]
theorem getD_app_r {l r : List Nat} {j : Nat} : (l ++ r).getD (l.length + j) 0 = r.getD j 0 := by
  rw [List.getD_eq_getElem?_getD, List.getElem?_append_right (Nat.le_add_right _ _), Nat.add_sub_cancel_left, List.getD_eq_getElem?_getD]
/-- more bytes behind -/
theorem SBk.app {u : List Nat} (h : SBk S I b v cap t) (hle : (t ++ u).length ≤ cap) (hs : ∀ x, x ∈ u → x < 128) (hT : sT S' = none) (hb : b ∈ sL S' ∧ sK S' b = 16) (hr : sR S' b 0 = some v) (ha : ArE 10 S' v cap) (h1 : I' b 1 = 0) (h3 : I' b 3 = nI (t ++ u).length) (hlo : ∀ j, j < t.length → I' v j = I v j) (hhi : ∀ j, j < u.length → I' v (t.length + j) = nI (u.getD j 0)) (hrest : ∀ j, (t ++ u).length ≤ j → I' v j = I v j) : SBk S' I' b v cap (t ++ u) := by
  have hlen : (t ++ u).length = t.length + u.length := List.length_append
  refine ⟨hb, hr, ha, h1, h3, hle, h.hc, fun j hj => ?_, fun x hx => ?_, fun j hj => ?_⟩
  · by_cases q : j < t.length
    · rw [hlo j q, h.at j q, getD_app_l q]
    · obtain ⟨i, rfl⟩ : ∃ i, j = t.length + i := ⟨j - t.length, by omega⟩
      rw [hhi i (by omega), getD_app_r]
  · rcases List.mem_append.mp hx with hx | hx
    · exact h.sm x hx
    · exact hs x hx
  · by_cases q : j < t.length
    · rw [hlo j q]; exact h.fit j hj
    · by_cases q2 : j < (t ++ u).length
      · obtain ⟨i, rfl⟩ : ∃ i, j = t.length + i := ⟨j - t.length, by omega⟩
        rw [hhi i (by omega)]
        refine fit_nI (hs _ ?_)
        rw [List.getD_eq_getElem?_getD, List.getElem?_eq_getElem (show i < u.length by omega)]
        exact List.getElem_mem _
      · rw [hrest j (by omega)]; exact h.fit j hj
end SBP
section SBR
variable {Ω : JO} {Y Z : JM} {F : JF} {k n k' n' pc pc' : Nat} {lv lv' : List (Nat × Value)} {st rest : List Value} {I : JI} {S : JS}
theorem r_dig1 {i : Int32} {j : Nat} {v : Int32} (hd : decode Y.2.1 pc = .ok (.baload, 1)) (hin : j < 100) (hi : i = nI j) (hv : nI (48 + j % 10) = v) (hp : pc + 1 = pc') (h : AA Ω Y F k n pc' lv (.int v :: st) I S) : AA Ω Y F k n pc lv (.int i :: .ref (oD1 Ω) :: st) I S := by
  subst hp; subst hi; subst hv
  exact fun p e s m args below meth c H locs ls C w hS hl => va_tb C.1 C.2.1 (evx C).2.2.2.2.2.2.2.2.2.1.2 hS (vp_in_nI hin (by decide)) (by rw [nI_clamp (by omega)]) hd (h p e s m args below meth c H locs ls C w hS hl)
theorem r_dig2 {i : Int32} {j : Nat} {v : Int32} (hd : decode Y.2.1 pc = .ok (.baload, 1)) (hin : j < 100) (hi : i = nI j) (hv : nI (48 + j / 10) = v) (hp : pc + 1 = pc') (h : AA Ω Y F k n pc' lv (.int v :: st) I S) : AA Ω Y F k n pc lv (.int i :: .ref (oD2 Ω) :: st) I S := by
  subst hp; subst hi; subst hv
  exact fun p e s m args below meth c H locs ls C w hS hl => va_tb C.1 C.2.1 (evx C).2.2.2.2.2.2.2.2.2.2.2 hS (vp_in_nI hin (by decide)) (by rw [nI_clamp (by omega)]) hd (h p e s m args below meth c H locs ls C w hS hl)
theorem r_getIv {ci j idx a : Nat} {t : FieldType} {fin : Bool} {v : Int32} (hd : decode Y.2.1 pc = .ok (.getfield idx, 3)) (hf : FA Y.1.cls idx ci j t fin) (ho : a ∈ sL S ∧ sK S a = ci) (hr : isR ci j = false) (hv : I a j = v) (hp : pc + 3 = pc') (h : AA Ω Y F k n pc' lv (.int v :: st) I S) : AA Ω Y F k n pc lv (.ref a :: st) I S := by
  subst hv; exact r_getI hd hf ho hr hp h
theorem r_getNIv {ci j idx a : Nat} {t : FieldType} {fin : Bool} {v : Int32} (hd : decode Y.2.1 pc = .ok (.getfield idx, 3)) (hf : FN Y.1.cls idx ci j t fin) (ho : a ∈ sL S ∧ sK S a = ci) (hr : isR ci j = false) (hv : I a j = v) (hp : pc + 3 = pc') (h : AA Ω Y F k n pc' lv (.int v :: st) I S) : AA Ω Y F k n pc lv (.ref a :: st) I S := by
  subst hv; exact r_getNI hd hf ho hr hp h
theorem r_getSIv {ci j idx a : Nat} {t : FieldType} {fin : Bool} {v : Int32} (hd : decode Y.2.1 pc = .ok (.getfield idx, 3)) (hf : FS Y.1.cls idx ci j t fin) (ho : a ∈ sL S ∧ sK S a = ci) (hr : isR ci j = false) (hv : I a j = v) (hp : pc + 3 = pc') (h : AA Ω Y F k n pc' lv (.int v :: st) I S) : AA Ω Y F k n pc lv (.ref a :: st) I S := by
  subst hv; exact r_getSI hd hf ho hr hp h
theorem r_iaddv {x y v : Int32} (hd : decode Y.2.1 pc = .ok (.iadd, 1)) (hv : x + y = v) (hp : pc + 1 = pc') (h : AA Ω Y F k n pc' lv (.int v :: st) I S) : AA Ω Y F k n pc lv (.int y :: .int x :: st) I S := by
  subst hv; exact r_iadd hd hp h
theorem r_isubv {x y v : Int32} (hd : decode Y.2.1 pc = .ok (.isub, 1)) (hv : x - y = v) (hp : pc + 1 = pc') (h : AA Ω Y F k n pc' lv (.int v :: st) I S) : AA Ω Y F k n pc lv (.int y :: .int x :: st) I S := by
  subst hv; exact r_isub hd hp h
theorem r_imulv {x y v : Int32} (hd : decode Y.2.1 pc = .ok (.imul, 1)) (hv : x * y = v) (hp : pc + 1 = pc') (h : AA Ω Y F k n pc' lv (.int v :: st) I S) : AA Ω Y F k n pc lv (.int y :: .int x :: st) I S := by
  subst hv; exact r_imul hd hp h
theorem r_iandv {x y v : Int32} (hd : decode Y.2.1 pc = .ok (.iand, 1)) (hv : x &&& y = v) (hp : pc + 1 = pc') (h : AA Ω Y F k n pc' lv (.int v :: st) I S) : AA Ω Y F k n pc lv (.int y :: .int x :: st) I S := by
  subst hv; exact r_iand hd hp h
theorem r_iorv {x y v : Int32} (hd : decode Y.2.1 pc = .ok (.ior, 1)) (hv : x ||| y = v) (hp : pc + 1 = pc') (h : AA Ω Y F k n pc' lv (.int v :: st) I S) : AA Ω Y F k n pc lv (.int y :: .int x :: st) I S := by
  subst hv; exact r_ior hd hp h
theorem r_ishlv {x y v : Int32} (hd : decode Y.2.1 pc = .ok (.ishl, 1)) (hv : x <<< (y &&& 31) = v) (hp : pc + 1 = pc') (h : AA Ω Y F k n pc' lv (.int v :: st) I S) : AA Ω Y F k n pc lv (.int y :: .int x :: st) I S := by
  subst hv; exact r_ishl hd hp h
theorem r_ishrv {x y v : Int32} (hd : decode Y.2.1 pc = .ok (.ishr, 1)) (hv : x >>> (y &&& 31) = v) (hp : pc + 1 = pc') (h : AA Ω Y F k n pc' lv (.int v :: st) I S) : AA Ω Y F k n pc lv (.int y :: .int x :: st) I S := by
  subst hv; exact r_ishr hd hp h
theorem r_iushrv {x y v : Int32} (hd : decode Y.2.1 pc = .ok (.iushr, 1)) (hv : (x.toUInt32 >>> (y.toUInt32 &&& Int32.toUInt32 31)).toInt32 = v) (hp : pc + 1 = pc') (h : AA Ω Y F k n pc' lv (.int v :: st) I S) : AA Ω Y F k n pc lv (.int y :: .int x :: st) I S := by
  subst hv; exact r_iushr hd hp h
theorem r_iremv {x y v : Int32} (hd : decode Y.2.1 pc = .ok (.irem, 1)) (hne : ¬ y = 0) (hv : x - x / y * y = v) (hp : pc + 1 = pc') (h : AA Ω Y F k n pc' lv (.int v :: st) I S) : AA Ω Y F k n pc lv (.int y :: .int x :: st) I S := by
  subst hv; exact r_irem hd hne hp h
theorem r_idivv {x y v : Int32} (hd : decode Y.2.1 pc = .ok (.idiv, 1)) (hne : ¬ y = 0) (hv : x / y = v) (hp : pc + 1 = pc') (h : AA Ω Y F k n pc' lv (.int v :: st) I S) : AA Ω Y F k n pc lv (.int y :: .int x :: st) I S := by
  subst hv; exact r_idiv hd hne hp h
theorem r_inegv {x v : Int32} (hd : decode Y.2.1 pc = .ok (.ineg, 1)) (hv : -x = v) (hp : pc + 1 = pc') (h : AA Ω Y F k n pc' lv (.int v :: st) I S) : AA Ω Y F k n pc lv (.int x :: st) I S := by
  subst hv; exact r_ineg hd hp h
theorem r_putB {ci j idx a : Nat} {v : Int32} (hd : decode Y.2.1 pc = .ok (.putfield idx, 3)) (hf : FA Y.1.cls idx ci j .byte false) (ho : a ∈ sL S ∧ sK S a = ci) (hr : isR ci j = false) (hv : v = 0) (hp : pc + 3 = pc') (h : AA Ω Y F k n pc' lv st (stI I a j v) S) : AA Ω Y F k n pc lv (.int v :: .ref a :: st) I S := by
  subst hv
  exact r_putE hd hf ho rfl rfl (fun h => by cases h) (up_I ho.2 (by obtain ⟨_, _, _, _, _, _, f3, _⟩ := hf; exact f3) hr) rfl rfl hp h
end SBR
set_option maxHeartbeats 2000000 in
theorem c_J5_isLatin1_aae02 {Ω : JO} {I : JI} {S : JS} {Q : JQ} {b : Nat} (ho : b ∈ sL S ∧ sK S b = 16) (hc : I b 1 = 0) (hQ : Q (.inl (some (.int 1))) I S) : Call Ω m_J5_isLatin1_aae02 [.ref b] I S Q := by
  refine call_of (by decide +kernel) rfl (Nat.le_of_ble_eq_true rfl) ?_
  change AA Ω m_J5_isLatin1_aae02 (FQ Ω m_J5_isLatin1_aae02 Q) 0 0 0 [(0, .ref b)] [] I S
  refine r_sCompact (pc' := 3) dJ5_isLatin1_aae02_0 fl_J5_18 rfl ?_
  refine r_if_eq (tgt := 17) (pc' := 6) dJ5_isLatin1_aae02_3 rfl rfl (fun h3 => ?_) (fun h3 => ?_)
  · exact absurd h3 (by decide)
  · refine r_aload_n (pc' := 7) dJ5_isLatin1_aae02_6 rfl 0 rfl rfl ?_
    refine r_getIv (pc' := 10) dJ5_isLatin1_aae02_7 fa_J5_22 ho rfl hc rfl ?_
    refine r_if_ne (tgt := 17) (pc' := 13) dJ5_isLatin1_aae02_10 rfl rfl (fun h10 => ?_) (fun h10 => ?_)
    · exact absurd rfl h10
    · refine r_iconst (pc' := 14) (v := 1) dJ5_isLatin1_aae02_13 (by decide) rfl ?_
      refine r_goto (tgt := 18) dJ5_isLatin1_aae02_14 rfl ?_
      exact r_zret dJ5_isLatin1_aae02_18 rfl (by first | exact zb01 _ | decide) (by decide) (by decide) (hQ)
set_option maxHeartbeats 2000000 in
theorem c_J8_newLength_cabcc {Ω : JO} {I : JI} {S : JS} {Q : JQ} {a g h m : Nat} (hm : a + max g h = m) (h0 : 0 < m) (h1 : m < 10000) (hQ : Q (.inl (some (.int (nI m)))) I S) : Call Ω m_J8_newLength_cabcc [.int (nI a), .int (nI g), .int (nI h)] I S Q := by
  refine call_of (by decide +kernel) rfl (Nat.le_of_ble_eq_true rfl) ?_
  change AA Ω m_J8_newLength_cabcc (FQ Ω m_J8_newLength_cabcc Q) 0 0 0 [(0, .int (nI a)), (1, .int (nI g)), (2, .int (nI h))] [] I S
  have e : (nI a : Int32) + mxF (nI g) (nI h) = nI m := by
    unfold mxF
    by_cases q : g < h
    · rw [if_pos (nI_lt q (by omega)), nI_add]; congr 1; omega
    · rw [if_neg (nI_nlt (by omega) (by omega)), nI_add]; congr 1; omega
  refine r_iload_n (pc' := 1) dJ8_newLength_cabcc_0 rfl 0 rfl rfl ?_
  refine r_iload_n (pc' := 2) dJ8_newLength_cabcc_1 rfl 1 rfl rfl ?_
  refine r_iload_n (pc' := 3) dJ8_newLength_cabcc_2 rfl 2 rfl rfl ?_
  refine r_mmax (pc' := 6) dJ8_newLength_cabcc_3 mw_J8_194 (by decide) (Nat.le_of_ble_eq_true rfl) (by decide) (by decide) rfl ?_
  refine r_iaddv (pc' := 7) dJ8_newLength_cabcc_6 e rfl ?_
  refine r_istore_n (pc' := 8) (lv' := [(3, _), (0, _), (1, _), (2, _)]) dJ8_newLength_cabcc_7 rfl (by decide) rfl rfl ?_
  refine r_iconst (pc' := 9) (v := 0) dJ8_newLength_cabcc_8 (by decide) rfl ?_
  refine r_iload_n (pc' := 10) dJ8_newLength_cabcc_9 rfl 0 rfl rfl ?_
  refine r_icmp_ge (tgt := 21) (pc' := 13) dJ8_newLength_cabcc_10 rfl rfl (fun h10 => ?_) (fun h10 => ?_)
  · exact absurd h10 (show ¬ nI m ≤ nI 0 from nI_ge (show 0 < m by omega) (by omega))
  · refine r_iload_n (pc' := 14) dJ8_newLength_cabcc_13 rfl 0 rfl rfl ?_
    refine r_ldc (pc' := 16) (v := 2147483639) dJ8_newLength_cabcc_14 kw_J8_200 rfl ?_
    refine r_icmp_gt (tgt := 21) (pc' := 19) dJ8_newLength_cabcc_16 rfl rfl (fun h16 => ?_) (fun h16 => ?_)
    · exact absurd h16 (show ¬ nI 2147483639 < nI m from nI_nlt (by omega) (by decide))
    · refine r_iload_n (pc' := 20) dJ8_newLength_cabcc_19 rfl 0 rfl rfl ?_
      exact r_iret dJ8_newLength_cabcc_20 rfl (by decide) (by decide) (hQ)
set_option maxHeartbeats 2000000 in
theorem c_J5_newCapacity_0f7a4 {Ω : JO} {I : JI} {S : JS} {Q : JQ} {b v m q : Nat} (ho : b ∈ sL S ∧ sK S b = 16) (hr : sR S b 0 = some v) (ha : ArE 10 S v m) (hc : I b 1 = 0) (hq : m < q) (h1 : q ≤ 1001) (hQ : Q (.inl (some (.int (nI (m + max (q - m) (m + 2)))))) I S) : Call Ω m_J5_newCapacity_0f7a4 [.ref b, .int (nI q)] I S Q := by
  refine call_of (by decide +kernel) rfl (Nat.le_of_ble_eq_true rfl) ?_
  change AA Ω m_J5_newCapacity_0f7a4 (FQ Ω m_J5_newCapacity_0f7a4 Q) 0 0 0 [(0, .ref b), (1, .int (nI q))] [] I S
  refine r_aload_n (pc' := 1) dJ5_newCapacity_0f7a4_0 rfl 0 rfl rfl ?_
  refine r_getO (pc' := 4) dJ5_newCapacity_0f7a4_1 fa_J5_15 ho rfl hr rfl ?_
  refine r_alen (pc' := 5) dJ5_newCapacity_0f7a4_4 ha (by decide) rfl rfl ?_
  refine r_istore_n (pc' := 6) (lv' := [(2, _), (0, _), (1, _)]) dJ5_newCapacity_0f7a4_5 rfl (by decide) rfl rfl ?_
  refine r_iload_n (pc' := 7) dJ5_newCapacity_0f7a4_6 rfl 2 rfl rfl ?_
  refine r_aload_n (pc' := 8) dJ5_newCapacity_0f7a4_7 rfl 1 rfl rfl ?_
  refine r_getIv (pc' := 11) dJ5_newCapacity_0f7a4_8 fa_J5_22 ho rfl hc rfl ?_
  refine r_ishlv (pc' := 12) dJ5_newCapacity_0f7a4_11 (sb_shl0 _) rfl ?_
  refine r_istore_n (pc' := 13) (lv' := [(3, _), (2, _), (0, _), (1, _)]) dJ5_newCapacity_0f7a4_12 rfl (by decide) rfl rfl ?_
  refine r_iload_n (pc' := 14) dJ5_newCapacity_0f7a4_13 rfl 0 rfl rfl ?_
  refine r_iload_n (pc' := 15) dJ5_newCapacity_0f7a4_14 rfl 1 rfl rfl ?_
  refine r_isubv (pc' := 16) dJ5_newCapacity_0f7a4_15 (nI_sub (show m ≤ q by omega)) rfl ?_
  refine r_istore (pc' := 18) (lv' := [(4, _), (3, _), (2, _), (0, _), (1, _)]) dJ5_newCapacity_0f7a4_16 (by decide) rfl rfl ?_
  refine r_iload_n (pc' := 19) dJ5_newCapacity_0f7a4_18 rfl 2 rfl rfl ?_
  refine r_iload (pc' := 21) dJ5_newCapacity_0f7a4_19 0 rfl rfl ?_
  refine r_iload_n (pc' := 22) dJ5_newCapacity_0f7a4_21 rfl 2 rfl rfl ?_
  refine r_iconst (pc' := 23) (v := 2) dJ5_newCapacity_0f7a4_22 (by decide) rfl ?_
  refine r_aload_n (pc' := 24) dJ5_newCapacity_0f7a4_23 rfl 3 rfl rfl ?_
  refine r_getIv (pc' := 27) dJ5_newCapacity_0f7a4_24 fa_J5_22 ho rfl hc rfl ?_
  refine r_ishlv (pc' := 28) dJ5_newCapacity_0f7a4_27 (sb_shl0 _) rfl ?_
  refine r_iaddv (pc' := 29) dJ5_newCapacity_0f7a4_28 (nI_add m 2) rfl ?_
  refine r_callS (pc' := 32) (k' := 0) (n' := 0) (nn := 3) (As := [_, _, _]) (rest := []) dJ5_newCapacity_0f7a4_29 mb_J8_newLength_cabcc ms_J8_newLength_cabcc lk_J5_114 rfl rfl rfl rfl rfl (Nat.le_of_ble_eq_true rfl) rfl (c_J8_newLength_cabcc rfl (by omega) (by omega) (cpI ?_))
  refine r_istore (pc' := 34) (lv' := [(5, _), (4, _), (3, _), (2, _), (0, _), (1, _)]) dJ5_newCapacity_0f7a4_32 (by decide) rfl rfl ?_
  refine r_iload (pc' := 36) dJ5_newCapacity_0f7a4_34 0 rfl rfl ?_
  refine r_ldc (pc' := 38) (v := 2147483647) dJ5_newCapacity_0f7a4_36 kw_J5_39 rfl ?_
  refine r_icmp_ne (tgt := 51) (pc' := 41) dJ5_newCapacity_0f7a4_38 rfl rfl (fun h38 => ?_) (fun h38 => ?_)
  · refine r_iload (pc' := 53) dJ5_newCapacity_0f7a4_51 0 rfl rfl ?_
    refine r_aload_n (pc' := 54) dJ5_newCapacity_0f7a4_53 rfl 4 rfl rfl ?_
    refine r_getIv (pc' := 57) dJ5_newCapacity_0f7a4_54 fa_J5_22 ho rfl hc rfl ?_
    refine r_ishrv (pc' := 58) dJ5_newCapacity_0f7a4_57 (sb_shr0 _) rfl ?_
    exact r_iret dJ5_newCapacity_0f7a4_58 rfl (by decide) (by decide) (hQ)
  · exact absurd h38 (fun e => by have := (nI_eq (by omega) (by decide)).mp (show nI (m + max (q - m) (m + 2)) = nI 2147483647 from e); omega)
