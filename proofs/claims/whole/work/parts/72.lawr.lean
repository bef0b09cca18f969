/-! the law's body: rules -/
abbrev m_L_law : JM := (yL_law, cL_law, 9, some .boolean, [], { frames := 14, cells := 601024, slots := 7293034, locals := 522 })
def LX (Ω : JO) (b N : Nat) (xs : Nat → Int32) (args : Array Value) (s : State) : Prop := args = #[Value.ref b] ∧ va_X b N xs s s.heap ∧ b < s.heap.size ∧ Ω.2.2.2.1 = s.heap.size
def LF (Ω : JO) (b N : Nat) (xs : Nat → Int32) : JF := fun below args s t => LX Ω b N xs args s → lw_Z below args s t
abbrev lvL (b c : Nat) (i : Int32) : List (Nat × Value) := [(5, .int i), (4, .ref (c + 140)), (3, .ref (c + 139)), (2, .ref (c + 128)), (1, .ref c), (0, .ref b)]
def chLw (Z : JM) : Bool := Nat.ble (Z.2.2.2.2.2.frames + 1) 14 && Nat.ble (8 + (Z.2.2.1 + 11) + Z.2.2.2.2.2.locals) 522 && Nat.ble Z.2.2.2.2.2.cells 10 && Nat.ble Z.2.2.2.2.2.slots 60
theorem roomL {Z : JM} {k n : Nat} (hk : k ≤ 600100) (hn : n ≤ 7000100) (h : chLw Z = true) : roomB m_L_law Z k n = true := by
  simp only [chLw, Bool.and_eq_true, Nat.ble_eq] at h
  obtain ⟨⟨⟨h1, h2⟩, h3⟩, h4⟩ := h
  simp only [roomB, Bool.and_eq_true, Nat.ble_eq]
  exact ⟨⟨⟨h1, h2⟩, by show _ ≤ 601024; omega⟩, by show _ ≤ 7293034; omega⟩
/-- the things of the law: the class's object, the reference's, the two answers -/
def LI0 (S : JS) (c L P : Nat) : Prop := Is8 S c L P ∧ Is9 S (c + 128) ∧ ArE 14 S (c + 139) 1 ∧ ArE 15 S (c + 140) 1
def LI (I : JI) (S : JS) (c L P : Nat) : Prop := LI0 S c L P ∧ RR I I c L (c + 128)
theorem sX_st {S : JS} {a : Nat} {v : Int64} : sX (stX S a 0 v) a (Int32.toNatClampNeg 0) = v := by
  show (if a = a then (if Int32.toNatClampNeg 0 = 0 then v else _) else _) = v
  rw [if_pos rfl, if_pos (by decide)]
theorem sY_st {S : JS} {a : Nat} {v : UInt64} : sY (stY S a 0 v) a (Int32.toNatClampNeg 0) = v := by
  show (if a = a then (if Int32.toNatClampNeg 0 = 0 then v else _) else _) = v
  rw [if_pos rfl, if_pos (by decide)]
theorem LI0_X {S S2 : JS} {c L P a : Nat} {v : Int64} (h : LI0 S c L P) (hs : S2 = S ∨ S2 = stX S a 0 v) : LI0 S2 c L P := by
  rcases hs with rfl | rfl
  · exact h
  · exact h
theorem LI0_Y {S S2 : JS} {c L P a : Nat} {v : UInt64} (h : LI0 S c L P) (hs : S2 = S ∨ S2 = stY S a 0 v) : LI0 S2 c L P := by
  rcases hs with rfl | rfl
  · exact h
  · exact h
theorem LI0.LP {S : JS} {c L P : Nat} (h : LI0 S c L P) : (L = c + 104 ∧ P = c + 4) ∨ (L = c + 4 ∧ P = c + 104) := h.1.2.2.2.2.2.2.2.1
theorem LI0.LL {S : JS} {c L P : Nat} (h : LI0 S c L P) : L = c + 4 ∨ L = c + 104 := by
  rcases h.LP with h | h
  · exact Or.inr h.1
  · exact Or.inl h.1
theorem Eqv_two {α : Type} {I : JI} {c L m : Nat} {Es : List String} {cl : Option ((α ⊕ String) × JI)} {mo : JI → Option (α × JI)} (hr : RR I I c L m) (hL : L = c + 4 ∨ L = c + 104) (hm : m = c + 128) (hE : ∀ J, RR I J c L m → Eqv c L m Es cl (mo J)) (f8 : ∀ r J z, cl = some (r, J) → c + 128 ≤ z → J z = I z) (f9 : ∀ A r J z, mo A = some (r, J) → z < c + 128 → J z = A z) : ∃ o I1 v J1, cl = some (o, I1) ∧ mo I1 = some (v, J1) ∧ Res Es o v (J1 m 0) ∧ RR J1 J1 c L m := by
  obtain ⟨o, I1, v0, J0, e1, -, -, -⟩ := hE I hr
  obtain ⟨o2, I2, v, J1, e3, e4, hR, h2⟩ := hE I1 (RR_dep hr hL (fun _ _ _ => rfl) (fun z a b => f8 o I1 z e1 (by omega)))
  rw [e1] at e3
  cases e3
  exact ⟨o, I1, v, J1, e1, e4, hR, RR_dep h2 hL (fun z a b => f9 I1 v J1 z e4 (by omega)) (fun _ _ _ => rfl)⟩
section LAWB
variable {Ω : JO} {F : JF} {b N c L P k n pc pc' : Nat} {xs : Nat → Int32} {i : Int32} {lv lv' : List (Nat × Value)} {st : List Value} {I J : JI} {S S2 : JS} {Q : JQ}
theorem r_sld {i : Int32} (hd : decode cL_law pc = .ok (.iaload, 1)) (hin : vp_in i N) (hp : pc + 1 = pc') (h : AA Ω m_L_law (LF Ω b N xs) k n pc' lv (.int (xs i.toNatClampNeg) :: st) I S) : AA Ω m_L_law (LF Ω b N xs) k n pc lv (.int i :: .ref b :: st) I S := by
  subst hp
  intro p e s m args below meth cc H locs ls C w hS hl
  by_cases q : LX Ω b N xs args s
  · obtain ⟨q1, q2, q3, q4⟩ := id q
    exact va_sld C.1 C.2.1 q2 q3 (fun z => absurd z (by show ¬ (Ω.2.2.2.1 ≤ b); omega)) hS hin hd (h p e s m args below meth cc H locs ls C w hS hl)
  · exact fun T hT X => ⟨_, Steps.refl _, fun z => absurd z q⟩
theorem r_slen (hd : decode cL_law pc = .ok (.arraylength, 1)) (hp : pc + 1 = pc') (h : AA Ω m_L_law (LF Ω b N xs) k n pc' lv (.int (Int32.ofNat N) :: st) I S) : AA Ω m_L_law (LF Ω b N xs) k n pc lv (.ref b :: st) I S := by
  subst hp
  intro p e s m args below meth cc H locs ls C w hS hl
  by_cases q : LX Ω b N xs args s
  · obtain ⟨q1, q2, q3, q4⟩ := id q
    exact va_slen C.1 C.2.1 q2 q3 (fun z => absurd z (by show ¬ (Ω.2.2.2.1 ≤ b); omega)) hS hd (h p e s m args below meth cc H locs ls C w hS hl)
  · exact fun T hT X => ⟨_, Steps.refl _, fun z => absurd z q⟩
theorem r_sarg {j : Int} {ij : Int32} (p5 p0 : Nat) (d0 : decode cL_law pc = .ok (.aload_n 0, 1)) (d1 : decode cL_law (pc + 1) = .ok (.iload 5, 2)) (d3 : decode cL_law (pc + 3) = .ok (.iconst j, 1)) (d4 : decode cL_law (pc + 4) = .ok (.iadd, 1)) (d5 : decode cL_law (pc + 5) = .ok (.iaload, 1)) (hj : Int32.ofInt j = ij) (h5 : lv[p5]? = some (5, .int i)) (h0 : lv[p0]? = some (0, .ref b)) (hin : vp_in (i + ij) N) (hp : pc + 6 = pc') (h : AA Ω m_L_law (LF Ω b N xs) k n pc' lv (.int (xs (i + ij).toNatClampNeg) :: st) I S) : AA Ω m_L_law (LF Ω b N xs) k n pc lv st I S := by
  refine r_aload_n (pc' := pc + 1) d0 rfl p0 h0 rfl ?_
  refine r_iload (pc' := pc + 3) d1 p5 h5 rfl ?_
  refine r_iconst (pc' := pc + 4) d3 hj rfl ?_
  refine r_iadd (pc' := pc + 5) d4 rfl ?_
  exact r_sld d5 hin hp h
/-- the law's own end -/
theorem r_lend (hd : decode cL_law pc = .ok (.ireturn, 1)) (hk : k ≤ 601024) (hn : n ≤ 7293034) : AA Ω m_L_law (LF Ω b N xs) k n pc lv [.int 1] I S := by
  intro p e s m args below meth cc H locs ls C w hS hl
  by_cases q : LX Ω b N xs args s
  · obtain ⟨q1, q2, q3, q4⟩ := id q
    subst q1
    refine va_forget (fun z hz => by have h9 := hS.2.2 z hz; rw [← q4]; exact h9) ?_
    refine W.widen hk hn ?_
    have h9 := lw_ret (p := p) (l := Ω.1) (e := e) (s := s) (m := m) (below := below) (meth := meth) (c := cc) (b := b) (d0 := s.drawn) (H := H) (ls := ls) (pc := pc) (Drawn.sameBut.refl s.drawn lw_cs) C.1 C.2.1 C.2.2.2.1 C.2.2.2.2.2.2.1 hd
    intro T hT X
    obtain ⟨t, a1, b1⟩ := h9 T hT X
    exact ⟨t, a1, fun _ => b1⟩
  · exact fun T hT X => ⟨_, Steps.refl _, fun z => absurd z q⟩
theorem tail_I {p0 : Nat} {off : Int} {v : Int32} (d0 : decode cL_law p0 = .ok (.istore 7, 2)) (d1 : decode cL_law (p0 + 2) = .ok (.aload_n 2, 1)) (d2 : decode cL_law (p0 + 3) = .ok (.invokevirtual 215, 3)) (d3 : decode cL_law (p0 + 6) = .ok (.iload 6, 2)) (d4 : decode cL_law (p0 + 8) = .ok (.if_icmp .eq 5, 3)) (d5 : decode cL_law (p0 + 13) = .ok (.iload 6, 2)) (d6 : decode cL_law (p0 + 15) = .ok (.ifCond .ne 15, 3)) (d7 : decode cL_law (p0 + 18) = .ok (.aload_n 3, 1)) (d8 : decode cL_law (p0 + 19) = .ok (.iconst 0, 1)) (d9 : decode cL_law (p0 + 20) = .ok (.laload, 1)) (d10 : decode cL_law (p0 + 21) = .ok (.iload 7, 2)) (d11 : decode cL_law (p0 + 23) = .ok (.i2l, 1)) (d12 : decode cL_law (p0 + 24) = .ok (.lcmp, 1)) (d13 : decode cL_law (p0 + 25) = .ok (.ifCond .eq 5, 3)) (d14 : decode cL_law (p0 + 30) = .ok (.goto off, 3)) (h14 : ((p0 + 30 : Nat) : Int) + off = ((3664 : Nat) : Int))
    (h0 : LI0 S2 c L P) (hs : J (c + 128) 0 = 0 → sX S2 (c + 139) (Int32.toNatClampNeg 0) = v.toInt64) (hk : k ≤ 600100) (hn : n ≤ 7000100) (nx : AA Ω m_L_law F k n 3664 (lvL b c i) [] J S2) : AA Ω m_L_law F k n p0 ((6, .int (J (c + 128) 0)) :: lvL b c i) [.int v] J S2 := by
  have hE : AA Ω m_L_law F k n (p0 + 30) ((7, .int v) :: (6, .int (J (c + 128) 0)) :: lvL b c i) [] J S2 := r_goto (tgt := 3664) d14 h14 (aa_locs (ks := [2, 3, 4, 5, 6, 7]) rfl nx)
  refine r_istore (pc' := p0 + 2) (lv' := (7, .int v) :: (6, .int (J (c + 128) 0)) :: lvL b c i) d0 (by decide) rfl rfl ?_
  refine r_aload_n (pc' := p0 + 3) d1 rfl 5 rfl rfl ?_
  refine r_callV0 (pc' := p0 + 6) (k' := k) (n' := n) d2 mb_X9_thrown mi_X9_thrown h0.2.1.o (by decide) rfl lk_L_215 (roomL hk hn rfl) rfl rfl (Nat.le_of_ble_eq_true rfl) rfl (c_X9_thrown h0.2.1 rfl (cpI ?_))
  refine r_iload (pc' := p0 + 8) d3 1 rfl rfl ?_
  refine r_icmp_eq (tgt := p0 + 13) (pc' := p0 + 11) d4 (by omega) rfl (fun _ => ?_) (fun q => absurd rfl q)
  refine r_iload (pc' := p0 + 15) d5 1 rfl rfl ?_
  refine r_if_ne (tgt := p0 + 30) (pc' := p0 + 18) d6 (by omega) rfl (fun _ => hE) (fun q => ?_)
  refine r_aload_n (pc' := p0 + 19) d7 rfl 4 rfl rfl ?_
  refine r_iconst (v := 0) (pc' := p0 + 20) d8 rfl rfl ?_
  refine r_laload (pc' := p0 + 21) d9 h0.2.2.1 (by unfold vp_in; decide +kernel) rfl ?_
  rw [hs q]
  refine r_iload (pc' := p0 + 23) d10 0 rfl rfl ?_
  refine r_i2l (pc' := p0 + 24) d11 rfl ?_
  refine r_lcmp0 (pc' := p0 + 25) d12 rfl ?_
  exact r_if_eq (tgt := p0 + 30) (pc' := p0 + 28) d13 (by omega) rfl (fun _ => hE) (fun q => absurd rfl q)
theorem zl0 {v : Bool} (h : zb v = 0) : zl v = 0 := by cases v; rfl; exact absurd h (by decide)
theorem zl1 {v : Bool} (h : ¬ zb v = 0) : zl v = 1 := by cases v; exact absurd rfl h; rfl
theorem tail_Z {p0 : Nat} {off : Int} {v : Bool} (d0 : decode cL_law p0 = .ok (.istore 7, 2)) (d1 : decode cL_law (p0 + 2) = .ok (.aload_n 2, 1)) (d2 : decode cL_law (p0 + 3) = .ok (.invokevirtual 215, 3)) (d3 : decode cL_law (p0 + 6) = .ok (.iload 6, 2)) (d4 : decode cL_law (p0 + 8) = .ok (.if_icmp .eq 5, 3)) (d5 : decode cL_law (p0 + 13) = .ok (.iload 6, 2)) (d6 : decode cL_law (p0 + 15) = .ok (.ifCond .ne 22, 3)) (d7 : decode cL_law (p0 + 18) = .ok (.aload_n 3, 1)) (d8 : decode cL_law (p0 + 19) = .ok (.iconst 0, 1)) (d9 : decode cL_law (p0 + 20) = .ok (.laload, 1)) (d10 : decode cL_law (p0 + 21) = .ok (.iload 7, 2)) (d11 : decode cL_law (p0 + 23) = .ok (.ifCond .eq 7, 3)) (d11b : decode cL_law (p0 + 26) = .ok (.lconst 1, 1)) (d11c : decode cL_law (p0 + 27) = .ok (.goto 4, 3)) (d11d : decode cL_law (p0 + 30) = .ok (.lconst 0, 1)) (d12 : decode cL_law (p0 + 31) = .ok (.lcmp, 1)) (d13 : decode cL_law (p0 + 32) = .ok (.ifCond .eq 5, 3)) (d14 : decode cL_law (p0 + 37) = .ok (.goto off, 3)) (h14 : ((p0 + 37 : Nat) : Int) + off = ((3664 : Nat) : Int))
    (h0 : LI0 S2 c L P) (hs : J (c + 128) 0 = 0 → sX S2 (c + 139) (Int32.toNatClampNeg 0) = zl v) (hk : k ≤ 600100) (hn : n ≤ 7000100) (nx : AA Ω m_L_law F k n 3664 (lvL b c i) [] J S2) : AA Ω m_L_law F k n p0 ((6, .int (J (c + 128) 0)) :: lvL b c i) [.int (zb v)] J S2 := by
  have hE : AA Ω m_L_law F k n (p0 + 37) ((7, .int (zb v)) :: (6, .int (J (c + 128) 0)) :: lvL b c i) [] J S2 := r_goto (tgt := 3664) d14 h14 (aa_locs (ks := [2, 3, 4, 5, 6, 7]) rfl nx)
  refine r_istore (pc' := p0 + 2) (lv' := (7, .int (zb v)) :: (6, .int (J (c + 128) 0)) :: lvL b c i) d0 (by decide) rfl rfl ?_
  refine r_aload_n (pc' := p0 + 3) d1 rfl 5 rfl rfl ?_
  refine r_callV0 (pc' := p0 + 6) (k' := k) (n' := n) d2 mb_X9_thrown mi_X9_thrown h0.2.1.o (by decide) rfl lk_L_215 (roomL hk hn rfl) rfl rfl (Nat.le_of_ble_eq_true rfl) rfl (c_X9_thrown h0.2.1 rfl (cpI ?_))
  refine r_iload (pc' := p0 + 8) d3 1 rfl rfl ?_
  refine r_icmp_eq (tgt := p0 + 13) (pc' := p0 + 11) d4 (by omega) rfl (fun _ => ?_) (fun q => absurd rfl q)
  refine r_iload (pc' := p0 + 15) d5 1 rfl rfl ?_
  refine r_if_ne (tgt := p0 + 37) (pc' := p0 + 18) d6 (by omega) rfl (fun _ => hE) (fun q => ?_)
  refine r_aload_n (pc' := p0 + 19) d7 rfl 4 rfl rfl ?_
  refine r_iconst (v := 0) (pc' := p0 + 20) d8 rfl rfl ?_
  refine r_laload (pc' := p0 + 21) d9 h0.2.2.1 (by unfold vp_in; decide +kernel) rfl ?_
  rw [hs q]
  refine r_iload (pc' := p0 + 23) d10 0 rfl rfl ?_
  refine r_if_eq (tgt := p0 + 30) (pc' := p0 + 26) d11 (by omega) rfl (fun z => ?_) (fun z => ?_)
  · refine r_lconst (v := 0) (pc' := p0 + 31) d11d rfl rfl ?_
    rw [zl0 z]
    refine r_lcmp0 (pc' := p0 + 32) d12 rfl ?_
    exact r_if_eq (tgt := p0 + 37) (pc' := p0 + 35) d13 (by omega) rfl (fun _ => hE) (fun q => absurd rfl q)
  · refine r_lconst (v := 1) (pc' := p0 + 27) d11b rfl rfl ?_
    refine r_goto (tgt := p0 + 31) d11c (by omega) ?_
    rw [zl1 z]
    refine r_lcmp0 (pc' := p0 + 32) d12 rfl ?_
    exact r_if_eq (tgt := p0 + 37) (pc' := p0 + 35) d13 (by omega) rfl (fun _ => hE) (fun q => absurd rfl q)
end LAWB
