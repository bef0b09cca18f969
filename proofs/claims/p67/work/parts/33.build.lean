/-! objects that are built: what stands of them -/
def BD (I0 : JI) (S0 : JS) (I : JI) (S : JS) (rs as : List (Nat × Nat × Nat)) (fs : List (Nat × Nat × Int32)) (os : List (Nat × Nat)) (ns : List Nat) : Prop :=
  Kp (fun c => c ∉ sL S0) I0 S0 I S ∧ sT S = none ∧ (∀ q, q ∈ rs → q.1 ∈ sL S ∧ sR S q.1 q.2.1 = some q.2.2) ∧ (∀ q, q ∈ as → ArE q.1 S q.2.1 q.2.2) ∧ (∀ q, q ∈ fs → q.1 ∈ sL S ∧ I q.1 q.2.1 = q.2.2) ∧ (∀ q, q ∈ os → q.2 ∈ sL S ∧ sK S q.2 = q.1) ∧ ns.Nodup ∧ ∀ q, q ∈ ns → q ∈ sL S ∧ q ∉ sL S0
section BDS
variable {I0 I I' : JI} {S0 S S' : JS} {rs as : List (Nat × Nat × Nat)} {fs : List (Nat × Nat × Int32)} {os : List (Nat × Nat)} {ns : List Nat} {a j v z ki m : Nat} {x : Int32}
theorem BD.K (h : BD I0 S0 I S rs as fs os ns) : Kp (fun c => c ∉ sL S0) I0 S0 I S := h.1
theorem BD.T (h : BD I0 S0 I S rs as fs os ns) : sT S = none := h.2.1
theorem BD.hr (h : BD I0 S0 I S rs as fs os ns) : ∀ q, q ∈ rs → q.1 ∈ sL S ∧ sR S q.1 q.2.1 = some q.2.2 := h.2.2.1
theorem BD.har (h : BD I0 S0 I S rs as fs os ns) : ∀ q, q ∈ as → ArE q.1 S q.2.1 q.2.2 := h.2.2.2.1
theorem BD.hf (h : BD I0 S0 I S rs as fs os ns) : ∀ q, q ∈ fs → q.1 ∈ sL S ∧ I q.1 q.2.1 = q.2.2 := h.2.2.2.2.1
theorem BD.ho (h : BD I0 S0 I S rs as fs os ns) : ∀ q, q ∈ os → q.2 ∈ sL S ∧ sK S q.2 = q.1 := h.2.2.2.2.2.1
theorem BD.nd (h : BD I0 S0 I S rs as fs os ns) : ns.Nodup := h.2.2.2.2.2.2.1
theorem BD.hn (h : BD I0 S0 I S rs as fs os ns) : ∀ q, q ∈ ns → q ∈ sL S ∧ q ∉ sL S0 := h.2.2.2.2.2.2.2
theorem BD.rf (hT : sT S = none) : BD I S I S [] [] [] [] [] := ⟨Kp.rf, hT, fun _ h => (by cases h), fun _ h => (by cases h), fun _ h => (by cases h), fun _ h => (by cases h), List.nodup_nil, fun _ h => (by cases h)⟩
/-- the n-th fact -/
theorem BD.r (h : BD I0 S0 I S rs as fs os ns) (i : Nat) (e : rs[i]? = some (a, j, v)) : sR S a j = some v := (h.hr _ (List.mem_of_getElem? e)).2
theorem BD.ar (h : BD I0 S0 I S rs as fs os ns) (i : Nat) (e : as[i]? = some (a, j, v)) : ArE a S j v := h.har _ (List.mem_of_getElem? e)
theorem BD.f (h : BD I0 S0 I S rs as fs os ns) (i : Nat) (e : fs[i]? = some (a, j, x)) : I a j = x := (h.hf _ (List.mem_of_getElem? e)).2
theorem BD.o (h : BD I0 S0 I S rs as fs os ns) (i : Nat) (e : os[i]? = some (a, j)) : j ∈ sL S ∧ sK S j = a := h.ho _ (List.mem_of_getElem? e)
theorem BD.n (h : BD I0 S0 I S rs as fs os ns) (i : Nat) (e : ns[i]? = some a) : a ∈ sL S ∧ a ∉ sL S0 := h.hn _ (List.mem_of_getElem? e)
theorem BD.ne (h : BD I0 S0 I S rs as fs os ns) (i k : Nat) (e1 : ns[i]? = some a) (e2 : ns[k]? = some j) (hn : i ≠ k) : a ≠ j := fun e => by
  subst e
  obtain ⟨g1, g2⟩ := List.getElem?_eq_some_iff.mp e1
  obtain ⟨g3, g4⟩ := List.getElem?_eq_some_iff.mp e2
  rcases Nat.lt_or_gt_of_ne hn with q | q
  · exact List.pairwise_iff_getElem.mp h.nd i k g1 g3 q (g2.trans g4.symm)
  · exact List.pairwise_iff_getElem.mp h.nd k i g3 g1 q (g4.trans g2.symm)
theorem BD.putR (h : BD I0 S0 I S rs as fs os ns) (h0 : a ∉ sL S0) (ha : a ∈ sL S) (hj : ∀ q, q ∈ rs → q.1 = a → q.2.1 ≠ j) : BD I0 S0 I (stR S a j (some v)) ((a, j, v) :: rs) as fs os ns := by
  obtain ⟨h1, h2, h3, h4, h5, h6, h7, h8⟩ := h
  refine ⟨h1.tr (Kp.stR h0), h2, fun q hq => ?_, h4, h5, h6, h7, h8⟩
  rcases List.mem_cons.mp hq with rfl | hq
  · exact ⟨ha, stR_R1⟩
  · refine ⟨(h3 q hq).1, ?_⟩
    by_cases e : q.1 = a
    · rw [e, stR_R2 (hj q hq e), ← e]; exact (h3 q hq).2
    · rw [stR_R3 e]; exact (h3 q hq).2
theorem BD.putI (h : BD I0 S0 I S rs as fs os ns) (h0 : a ∉ sL S0) (ha : a ∈ sL S) (hj : ∀ q, q ∈ fs → q.1 = a → q.2.1 ≠ j) : BD I0 S0 (stI I a j x) S rs as ((a, j, x) :: fs) os ns := by
  obtain ⟨h1, h2, h3, h4, h5, h6, h7, h8⟩ := h
  refine ⟨h1.tr (Kp.st h0), h2, h3, h4, fun q hq => ?_, h6, h7, h8⟩
  rcases List.mem_cons.mp hq with rfl | hq
  · exact ⟨ha, stI_at⟩
  · refine ⟨(h5 q hq).1, ?_⟩
    by_cases e : q.1 = a
    · rw [e, stI_aj (hj q hq e), ← e]; exact (h5 q hq).2
    · rw [stI_o e]; exact (h5 q hq).2
theorem BD.putI0 (h : BD I0 S0 I S rs as fs os ns) (h0 : a ∉ sL S0) (ha : a ∈ sL S) (hj : ∀ q, q ∈ fs → q.1 = a → q.2.1 ≠ j) : BD I0 S0 (stI I a j x) S rs as fs os ns := by
  obtain ⟨h1, h2, h3, h4, h5, h6, h7, h8⟩ := h.putI (x := x) h0 ha hj
  exact ⟨h1, h2, h3, h4, fun q hq => h5 q (List.mem_cons_of_mem _ hq), h6, h7, h8⟩
theorem BD.kp (h : BD I0 S0 I S rs as fs os ns) (x : Kp (fun _ => False) I S I' S') (hT : sT S' = none) : BD I0 S0 I' S' rs as fs os ns := by
  obtain ⟨h1, h2, h3, h4, h5, h6, h7, h8⟩ := h
  exact ⟨h1.trans x (fun c hc e => e.elim id False.elim), hT, fun q hq => ⟨(x _ (h3 q hq).1).1, by rw [x.gR (h3 q hq).1 id]; exact (h3 q hq).2⟩, fun q hq => x.ar hT (h4 q hq), fun q hq => ⟨(x _ (h5 q hq).1).1, by rw [x.gI (h5 q hq).1 id]; exact (h5 q hq).2⟩, fun q hq => x.o (h6 q hq), h7, fun q hq => ⟨(x _ (h8 q hq).1).1, (h8 q hq).2⟩⟩
theorem BD.nw (h : BD I0 S0 I S rs as fs os ns) (hz : z ∉ sL S) (x : Kp (fun _ => False) I S I' (nwN S z ki m)) : BD I0 S0 I' (nwN S z ki m) rs ((ki, z, m) :: as) fs ((ki, z) :: os) (z :: ns) := by
  obtain ⟨h1, h2, h3, h4, h5, h6, h7, h8⟩ := h.kp x rfl
  refine ⟨h1, h2, h3, fun q hq => ?_, h5, fun q hq => ?_, List.nodup_cons.mpr ⟨fun q => hz (h.hn z q).1, h7⟩, fun q hq => ?_⟩
  · rcases List.mem_cons.mp hq with rfl | hq
    · exact nwN_ar
    · exact h4 q hq
  · rcases List.mem_cons.mp hq with rfl | hq
    · exact nwN_o
    · exact h6 q hq
  · rcases List.mem_cons.mp hq with rfl | hq
    · exact ⟨nwN_o.1, fun q => hz (h.K _ q).1⟩
    · exact h8 q hq
theorem BD.addF (h : BD I0 S0 I S rs as fs os ns) (ha : a ∈ sL S) (e : I a j = x) : BD I0 S0 I S rs as ((a, j, x) :: fs) os ns := by
  obtain ⟨h1, h2, h3, h4, h5, h6, h7, h8⟩ := h
  exact ⟨h1, h2, h3, h4, fun q hq => by
    rcases List.mem_cons.mp hq with rfl | hq
    · exact ⟨ha, e⟩
    · exact h5 q hq, h6, h7, h8⟩
/-- fewer facts -/
theorem BD.sub {rs' as' : List (Nat × Nat × Nat)} {fs' : List (Nat × Nat × Int32)} {os' : List (Nat × Nat)} (h : BD I0 S0 I S rs as fs os ns) (g1 : ∀ q, q ∈ rs' → q ∈ rs) (g2 : ∀ q, q ∈ as' → q ∈ as) (g3 : ∀ q, q ∈ fs' → q ∈ fs) (g4 : ∀ q, q ∈ os' → q ∈ os) : BD I0 S0 I S rs' as' fs' os' ns :=
  ⟨h.K, h.T, fun q hq => h.hr q (g1 q hq), fun q hq => h.har q (g2 q hq), fun q hq => h.hf q (g3 q hq), fun q hq => h.ho q (g4 q hq), h.nd, h.hn⟩
end BDS
set_option maxHeartbeats 2000000 in
theorem c_X9_init {Ω : JO} {I : JI} {S : JS} {Q : JQ} {I0 : JI} {S0 : JS} {d : Nat} (h : BD I0 S0 I S [] [] [] [(9, d)] [d]) (hQ : ∀ z13 z14 I' S', BD I0 S0 I' S' [(d, 14, z14), (z14, 1, oE Ω), (d, 13, z13), (z13, 1, oE Ω)] [] [(z14, 2, 0), (z13, 2, 0)] [(18, z14), (18, z13), (9, d)] [z14, z13, d] → Q (.inl none) I' S') : Call Ω m_X9_init [.ref d] I S Q := by
  refine call_of (by decide +kernel) rfl (Nat.le_of_ble_eq_true rfl) ?_
  change AA Ω m_X9_init (FQ Ω m_X9_init Q) 0 0 0 [(0, .ref d)] [] I S
  have hd0 := (h.n 0 rfl).2
  refine r_aload_n (pc' := 1) dX9_init_0 rfl 0 rfl rfl ?_
  refine r_objInit (pc' := 4) dX9_init_1 ow_X9_1 ow_i ow_c (by decide) (by decide) rfl ?_
  refine r_aload_n (pc' := 5) dX9_init_4 rfl 0 rfl rfl ?_
  refine r_bipush (pc' := 7) (v := 24) dX9_init_5 (by decide) rfl ?_
  refine r_putI (pc' := 10) dX9_init_7 fa_X9_7 (h.o 0 rfl) rfl rfl ?_
  replace h := h.putI0 (j := 3) (x := 24) hd0 (h.o 0 rfl).1 (fun q hq => (by cases hq))
  refine r_aload_n (pc' := 11) dX9_init_10 rfl 0 rfl rfl ?_
  refine r_newG (pc' := 14) dX9_init_11 cw_X9_13 nwJx4a65c (Nat.le_of_ble_eq_true rfl) (Nat.le_of_ble_eq_true rfl) rfl (fun z13 hz => aa_widen (k' := 1) (n' := 3) (by decide) (by decide) ?_)
  have hz13 : z13 ∉ sL S := notin_of hz
  replace h := h.nw (ki := 18) (m := 0) hz13 (Kp.nw hz13)
  replace h := h.addF (a := z13) (j := 2) (x := 0) (h.o 0 rfl).1 (by rw [nwI_z])
  refine r_dup (pc' := 15) dX9_init_14 rfl rfl ?_
  refine r_callI (pc' := 18) (k' := 1) (n' := 3) (nn := 0) (As := []) (rest := [_, _]) dX9_init_15 mb_Jx4a65c_init_da8c8 mc_Jx4a65c_init_da8c8 lk_X9_15 rfl rfl rfl rfl rfl (Nat.le_of_ble_eq_true rfl) rfl (c_Jx4a65c_init_da8c8 (h.o 0 rfl) (cpV ?_))
  replace h := h.putI0 (a := z13) (j := 0) (x := 0) (h.n 0 rfl).2 (h.n 0 rfl).1 (by simp)
  replace h := h.putR (a := z13) (j := 1) (v := oE Ω) (h.n 0 rfl).2 (h.n 0 rfl).1 (by simp)
  refine r_putR (pc' := 21) dX9_init_18 fa_X9_16 (h.o 1 rfl) rfl ⟨rfl, rfl⟩ (fun _ => ⟨rfl, ⟨_, _, _, rfl, rfl⟩⟩) rfl ?_
  replace h := h.putR (a := d) (j := 13) (v := z13) hd0 (h.o 1 rfl).1 (by simp)
  refine r_aload_n (pc' := 22) dX9_init_21 rfl 0 rfl rfl ?_
  refine r_newG (pc' := 25) dX9_init_22 cw_X9_13 nwJx4a65c (Nat.le_of_ble_eq_true rfl) (Nat.le_of_ble_eq_true rfl) rfl (fun z14 hz2 => aa_widen (k' := 2) (n' := 6) (by decide) (by decide) ?_)
  have hz14 := notin_of hz2
  replace h := h.nw (ki := 18) (m := 0) hz14 (Kp.nw hz14)
  replace h := h.addF (a := z14) (j := 2) (x := 0) (h.o 0 rfl).1 (by rw [nwI_z])
  have hne : z14 ≠ z13 := h.ne 0 1 rfl rfl (by decide)
  refine r_dup (pc' := 26) dX9_init_25 rfl rfl ?_
  refine r_callI (pc' := 29) (k' := 2) (n' := 6) (nn := 0) (As := []) (rest := [_, _]) dX9_init_26 mb_Jx4a65c_init_da8c8 mc_Jx4a65c_init_da8c8 lk_X9_15 rfl rfl rfl rfl rfl (Nat.le_of_ble_eq_true rfl) rfl (c_Jx4a65c_init_da8c8 (h.o 0 rfl) (cpV ?_))
  replace h := h.putI0 (a := z14) (j := 0) (x := 0) (h.n 0 rfl).2 (h.n 0 rfl).1 (by simp)
  replace h := h.putR (a := z14) (j := 1) (v := oE Ω) (h.n 0 rfl).2 (h.n 0 rfl).1 (by simp [Ne.symm hne])
  refine r_putR (pc' := 32) dX9_init_29 fa_X9_20 (h.o 2 rfl) rfl ⟨rfl, rfl⟩ (fun _ => ⟨rfl, ⟨_, _, _, rfl, rfl⟩⟩) rfl ?_
  replace h := h.putR (a := d) (j := 14) (v := z14) hd0 (h.o 2 rfl).1 (by simp)
  exact r_ret dX9_init_32 rfl (by decide) (by decide) (hQ z13 z14 _ _ (h.sub (fun q hq => hq) (fun q hq => (by cases hq)) (fun q hq => hq) (fun q hq => hq)))
