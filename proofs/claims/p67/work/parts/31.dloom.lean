/-! the law's own loom: what it holds -/
abbrev DP : Type := (Nat → Nat) × (Nat → Nat) × (Nat × Nat × Nat × Nat × Nat) × (Nat → Int32) × (Nat → Int32) × (Nat → Nat → Int32)
abbrev pA (D : DP) : Nat → Nat := D.1
abbrev pC (D : DP) : Nat → Nat := D.2.1
abbrev pH (D : DP) : Nat := D.2.2.1.1
abbrev pW (D : DP) : Nat := D.2.2.1.2.1
abbrev pP (D : DP) : Nat := D.2.2.1.2.2.1
abbrev pst (D : DP) : Nat := D.2.2.1.2.2.2.1
abbrev pmt (D : DP) : Nat := D.2.2.1.2.2.2.2
abbrev pon (D : DP) : Nat → Int32 := D.2.2.2.1
abbrev ppk (D : DP) : Nat → Int32 := D.2.2.2.2.1
abbrev pcd (D : DP) : Nat → Nat → Int32 := D.2.2.2.2.2
/-- an address that may be written -/
def MU (L0 : List Nat) (d : Nat) (D : DP) (a : Nat) : Prop := a ∉ L0 ∧ a ≠ d ∧ a ≠ pA D 8 ∧ a ≠ pA D 12 ∧ a ≠ pA D 13 ∧ a ≠ pA D 14 ∧ ∀ k, k < 3 → a ≠ pC D k
def DX (L0 : List Nat) (d : Nat) (D : DP) : Prop := (MU L0 d D (pA D 4) ∧ MU L0 d D (pA D 5) ∧ MU L0 d D (pA D 6) ∧ MU L0 d D (pA D 7) ∧ MU L0 d D (pA D 10)) ∧ pA D 13 ∉ L0 ∧ pA D 14 ∉ L0 ∧ pA D 13 ≠ pA D 14
def DV (D : DP) : Prop := (pH D ≤ 3 ∧ pW D ≤ 4 ∧ 10 ≤ pP D ∧ pP D ≤ 20 ∧ pst D ≤ 3) ∧ (∀ j, j < pW D → ∃ h, h < pH D ∧ pon D j = nI h) ∧ (∀ j, j < pP D → ∃ c, c < 3 ∧ ppk D j = nI c) ∧ ∀ k, k < 3 → ∃ f, f < 3 ∧ pcd D k 1 = nI f
def DK (Ω : JO) (L0 : List Nat) (S : JS) (I : JI) (d : Nat) (D : DP) (e1 e2 n1 n2 : Nat) : Prop :=
  (d ∈ sL S ∧ sK S d = 9) ∧ (∀ j, 4 ≤ j → j < 15 → sR S d j = some (pA D j)) ∧
  (ArE 12 S (pA D 4) (pH D) ∧ ArE 12 S (pA D 5) (pH D) ∧ ArE 12 S (pA D 6) (pW D) ∧ ArE 11 S (pA D 7) (pH D) ∧ ArE 11 S (pA D 8) (pW D) ∧ ArE 11 S (pA D 9) (pW D) ∧ ArE 11 S (pA D 10) 6 ∧ ArE 20 S (pA D 11) 3 ∧ ArE 11 S (pA D 12) (pP D)) ∧
  (∀ k, k < 3 → sR S (pA D 11) k = some (pC D k) ∧ ArE 11 S (pC D k) 4 ∧ I (pC D k) = pcd D k) ∧
  (I d 0 = nI (pH D) ∧ I d 2 = nI (pst D) ∧ I d 3 = nI (pmt D) ∧ I (pA D 8) = pon D ∧ I (pA D 12) = ppk D) ∧
  (AL Ω L0 S I (pA D 13) e1 n1 ∧ ∀ i, i < n1 → ∃ r, sR S e1 i = some r ∧ ArE 11 S r (pW D)) ∧
  (AL Ω L0 S I (pA D 14) e2 n2 ∧ ∀ i, i < n2 → ∃ c, c < 3 ∧ sR S e2 i = some (oB Ω (c + 128))) ∧
  (e1 ≠ e2 ∨ e1 = oE Ω) ∧ DX L0 d D ∧ DV D
section DKP
variable {Ω : JO} {L0 : List Nat} {S S' : JS} {I I' : JI} {d e1 e2 n1 n2 a k : Nat} {D : DP} {x : Int32} {P : Nat → Prop}
theorem DK.o (h : DK Ω L0 S I d D e1 e2 n1 n2) : d ∈ sL S ∧ sK S d = 9 := h.1
theorem DK.rr (h : DK Ω L0 S I d D e1 e2 n1 n2) : ∀ j, 4 ≤ j → j < 15 → sR S d j = some (pA D j) := h.2.1
theorem DK.a4 (h : DK Ω L0 S I d D e1 e2 n1 n2) : ArE 12 S (pA D 4) (pH D) := h.2.2.1.1
theorem DK.a5 (h : DK Ω L0 S I d D e1 e2 n1 n2) : ArE 12 S (pA D 5) (pH D) := h.2.2.1.2.1
theorem DK.a6 (h : DK Ω L0 S I d D e1 e2 n1 n2) : ArE 12 S (pA D 6) (pW D) := h.2.2.1.2.2.1
theorem DK.a7 (h : DK Ω L0 S I d D e1 e2 n1 n2) : ArE 11 S (pA D 7) (pH D) := h.2.2.1.2.2.2.1
theorem DK.a8 (h : DK Ω L0 S I d D e1 e2 n1 n2) : ArE 11 S (pA D 8) (pW D) := h.2.2.1.2.2.2.2.1
theorem DK.a9 (h : DK Ω L0 S I d D e1 e2 n1 n2) : ArE 11 S (pA D 9) (pW D) := h.2.2.1.2.2.2.2.2.1
theorem DK.a10 (h : DK Ω L0 S I d D e1 e2 n1 n2) : ArE 11 S (pA D 10) 6 := h.2.2.1.2.2.2.2.2.2.1
theorem DK.a11 (h : DK Ω L0 S I d D e1 e2 n1 n2) : ArE 20 S (pA D 11) 3 := h.2.2.1.2.2.2.2.2.2.2.1
theorem DK.a12 (h : DK Ω L0 S I d D e1 e2 n1 n2) : ArE 11 S (pA D 12) (pP D) := h.2.2.1.2.2.2.2.2.2.2.2
theorem DK.cr (h : DK Ω L0 S I d D e1 e2 n1 n2) : ∀ k, k < 3 → sR S (pA D 11) k = some (pC D k) ∧ ArE 11 S (pC D k) 4 ∧ I (pC D k) = pcd D k := h.2.2.2.1
theorem DK.f0 (h : DK Ω L0 S I d D e1 e2 n1 n2) : I d 0 = nI (pH D) := h.2.2.2.2.1.1
theorem DK.f2 (h : DK Ω L0 S I d D e1 e2 n1 n2) : I d 2 = nI (pst D) := h.2.2.2.2.1.2.1
theorem DK.f3 (h : DK Ω L0 S I d D e1 e2 n1 n2) : I d 3 = nI (pmt D) := h.2.2.2.2.1.2.2.1
theorem DK.on (h : DK Ω L0 S I d D e1 e2 n1 n2) : I (pA D 8) = pon D := h.2.2.2.2.1.2.2.2.1
theorem DK.pk (h : DK Ω L0 S I d D e1 e2 n1 n2) : I (pA D 12) = ppk D := h.2.2.2.2.1.2.2.2.2
theorem DK.l13 (h : DK Ω L0 S I d D e1 e2 n1 n2) : AL Ω L0 S I (pA D 13) e1 n1 := h.2.2.2.2.2.1.1
theorem DK.el (h : DK Ω L0 S I d D e1 e2 n1 n2) : ∀ i, i < n1 → ∃ r, sR S e1 i = some r ∧ ArE 11 S r (pW D) := h.2.2.2.2.2.1.2
theorem DK.l14 (h : DK Ω L0 S I d D e1 e2 n1 n2) : AL Ω L0 S I (pA D 14) e2 n2 := h.2.2.2.2.2.2.1.1
theorem DK.ew (h : DK Ω L0 S I d D e1 e2 n1 n2) : ∀ i, i < n2 → ∃ c, c < 3 ∧ sR S e2 i = some (oB Ω (c + 128)) := h.2.2.2.2.2.2.1.2
theorem DK.ne (h : DK Ω L0 S I d D e1 e2 n1 n2) : e1 ≠ e2 ∨ e1 = oE Ω := h.2.2.2.2.2.2.2.1
theorem DK.dx (h : DK Ω L0 S I d D e1 e2 n1 n2) : DX L0 d D := h.2.2.2.2.2.2.2.2.1
theorem DK.dv (h : DK Ω L0 S I d D e1 e2 n1 n2) : DV D := h.2.2.2.2.2.2.2.2.2
theorem DK.T (h : DK Ω L0 S I d D e1 e2 n1 n2) : sT S = none := h.a4.2.2.2
theorem AL.n10 {l e n : Nat} (h : AL Ω L0 S I l e n) : n ≤ 10 := h.2.2.2.2.elim (fun q => by omega) (fun q => q.2.1)
/-- all is kept, places and values, but for what P holds -/
theorem DK.kpG (h : DK Ω L0 S I d D e1 e2 n1 n2) (x : Kp P I S I' S') (hT : sT S' = none) (p1 : ¬ P d) (p2 : ¬ P (pA D 8)) (p3 : ¬ P (pA D 12)) (p4 : ¬ P (pA D 11)) (p5 : ∀ k, k < 3 → ¬ P (pC D k)) (h6 : AL Ω L0 S' I' (pA D 13) e1 n1 ∧ ∀ i, i < n1 → ∃ r, sR S' e1 i = some r ∧ ArE 11 S' r (pW D)) (h7 : AL Ω L0 S' I' (pA D 14) e2 n2 ∧ ∀ i, i < n2 → ∃ c, c < 3 ∧ sR S' e2 i = some (oB Ω (c + 128))) : DK Ω L0 S' I' d D e1 e2 n1 n2 := by
  refine ⟨x.o h.o, fun j h1 h2 => by rw [x.gR h.o.1 p1]; exact h.rr j h1 h2, ⟨x.ar hT h.a4, x.ar hT h.a5, x.ar hT h.a6, x.ar hT h.a7, x.ar hT h.a8, x.ar hT h.a9, x.ar hT h.a10, x.ar hT h.a11, x.ar hT h.a12⟩, fun k hk => ?_, ⟨by rw [x.gI h.o.1 p1]; exact h.f0, by rw [x.gI h.o.1 p1]; exact h.f2, by rw [x.gI h.o.1 p1]; exact h.f3, by rw [x.gI h.a8.1 p2]; exact h.on, by rw [x.gI h.a12.1 p3]; exact h.pk⟩, h6, h7, h.ne, h.dx, h.dv⟩
  obtain ⟨c1, c2, c3⟩ := h.cr k hk
  exact ⟨by rw [x.gR h.a11.1 p4]; exact c1, x.ar hT c2, by rw [x.gI c2.1 (p5 k hk)]; exact c3⟩
theorem DK.elk (h : DK Ω L0 S I d D e1 e2 n1 n2) (x : Kp P I S I' S') (hT : sT S' = none) (hp : e1 ∈ sL S → ¬ P e1) : ∀ i, i < n1 → ∃ r, sR S' e1 i = some r ∧ ArE 11 S' r (pW D) := fun i hi => by
  obtain ⟨r, g1, g2⟩ := h.el i hi
  have he : e1 ∈ sL S := h.l13.2.2.2.2.elim (fun q => absurd hi (by omega)) (fun q => q.1.1)
  exact ⟨r, by rw [x.gR he (hp he)]; exact g1, x.ar hT g2⟩
theorem DK.ewk (h : DK Ω L0 S I d D e1 e2 n1 n2) (x : Kp P I S I' S') (hp : e2 ∈ sL S → ¬ P e2) : ∀ i, i < n2 → ∃ c, c < 3 ∧ sR S' e2 i = some (oB Ω (c + 128)) := fun i hi => by
  obtain ⟨c, g1, g2⟩ := h.ew i hi
  have he : e2 ∈ sL S := h.l14.2.2.2.2.elim (fun q => absurd hi (by omega)) (fun q => q.1.1)
  exact ⟨c, g1, by rw [x.gR he (hp he)]; exact g2⟩
theorem DK.kp (h : DK Ω L0 S I d D e1 e2 n1 n2) (x : Kp (fun _ => False) I S I' S') (hT : sT S' = none) : DK Ω L0 S' I' d D e1 e2 n1 n2 :=
  h.kpG x hT id id id id (fun _ _ => id) ⟨h.l13.kp x hT id, h.elk x hT (fun _ => id)⟩ ⟨h.l14.kp x hT id, h.ewk x (fun _ => id)⟩
theorem DK.st (h : DK Ω L0 S I d D e1 e2 n1 n2) (hm : MU L0 d D a) : DK Ω L0 S (stI I a k x) d D e1 e2 n1 n2 := by
  obtain ⟨m0, m1, m2, m3, m4, m5, m6⟩ := hm
  have e : ∀ b, b ≠ a → stI I a k x b = I b := fun b hb => stI_ne hb
  refine ⟨h.o, h.rr, h.2.2.1, fun k hk => ?_, ⟨by rw [e d m1.symm]; exact h.f0, by rw [e d m1.symm]; exact h.f2, by rw [e d m1.symm]; exact h.f3, by rw [e _ m2.symm]; exact h.on, by rw [e _ m3.symm]; exact h.pk⟩, ⟨?_, h.el⟩, ⟨?_, h.ew⟩, h.ne, h.dx, h.dv⟩
  · obtain ⟨c1, c2, c3⟩ := h.cr k hk
    exact ⟨c1, c2, by rw [e _ (m6 k hk).symm]; exact c3⟩
  · obtain ⟨g1, g2, g3, g4⟩ := h.l13
    exact ⟨g1, g2, by rw [e _ m4.symm]; exact g3, g4⟩
  · obtain ⟨g1, g2, g3, g4⟩ := h.l14
    exact ⟨g1, g2, by rw [e _ m5.symm]; exact g3, g4⟩
/-- what weaving leaves alone -/
def MK (S0 : JS) (L0 : List Nat) (a : Nat) : Prop := a ∉ L0 ∧ (sK S0 a = 11 ∨ sK S0 a = 12 ∨ sK S0 a = 18 ∨ sK S0 a = 19)
theorem Kp.ext {S0 : JS} {I0 : JI} (K : Kp (MK S0 L0) I0 S0 I S) (x : Kp P I S I' S') (hP : ∀ c, c ∈ sL S → P c → c ∉ L0 ∧ (sK S c = 11 ∨ sK S c = 12 ∨ sK S c = 18 ∨ sK S c = 19)) : Kp (MK S0 L0) I0 S0 I' S' := fun c hc => by
  obtain ⟨k1, k2, k3, k4⟩ := K c hc
  obtain ⟨x1, x2, x3, x4⟩ := x c k1
  refine ⟨x1, x2.trans k2, x3.trans k3, fun hn => ?_⟩
  obtain ⟨g1, g2, g3⟩ := k4 hn
  obtain ⟨y1, y2, y3⟩ := x4 (fun q => hn (by obtain ⟨q1, q2⟩ := hP c k1 q; rw [k2] at q2; exact ⟨q1, q2⟩))
  exact ⟨y1.trans g1, y2.trans g2, y3.trans g3⟩
theorem Kp.stM {S0 : JS} {I0 : JI} (K : Kp (MK S0 L0) I0 S0 I S) (h0 : a ∉ L0) (h1 : sK S a = 11 ∨ sK S a = 12) : Kp (MK S0 L0) I0 S0 (stI I a k x) S :=
  K.ext (Kp.st (P := fun c => c = a) rfl) fun c _ e => by subst e; exact ⟨h0, h1.elim Or.inl fun q => Or.inr (Or.inl q)⟩
end DKP
/-- yarn enough for a pick -/
def YC (D : DP) (I : JI) : Prop := ∀ f, f < 3 → ∃ y, pW D ≤ y ∧ y < 2 ^ 31 ∧ I (pA D 10) f = nI y
def upI (x : Int32) (on : Nat → Int32) : Nat → Int32
  | 0 => 0
  | j + 1 => upI x on j + ((x >>> (on j &&& 31)) &&& 1)
section DKR
variable {Ω : JO} {Y Z : JM} {F : JF} {k n k' n' pc pc' : Nat} {lv lv' : List (Nat × Value)} {st rest : List Value} {I : JI} {S : JS}
theorem r_ialoadN {a N d : Nat} {v : Int32} (hd : decode Y.2.1 pc = .ok (.iaload, 1)) (hA : ArE 11 S a N) (hin : d < N) (hN : N < 2 ^ 31) (hv : I a d = v) (hp : pc + 1 = pc') (h : AA Ω Y F k n pc' lv (.int v :: st) I S) : AA Ω Y F k n pc lv (.int (nI d) :: .ref a :: st) I S := by
  refine r_iaload hd hA (vp_nI hin (by omega)) hp ?_
  rw [nI_clamp (by omega), hv]; exact h
theorem r_zaloadN {a N d : Nat} {v : Int32} (hd : decode Y.2.1 pc = .ok (.baload, 1)) (hA : ArE 12 S a N) (hin : d < N) (hN : N < 2 ^ 31) (hv : I a d = v) (hp : pc + 1 = pc') (h : AA Ω Y F k n pc' lv (.int v :: st) I S) : AA Ω Y F k n pc lv (.int (nI d) :: .ref a :: st) I S := by
  refine r_zaload hd hA (vp_nI hin (by omega)) hp ?_
  rw [nI_clamp (by omega), hv]; exact h
theorem r_aald20N {a N d v : Nat} (hd : decode Y.2.1 pc = .ok (.aaload, 1)) (hA : ArE 20 S a N) (hin : d < N) (hN : N < 2 ^ 31) (hv : sR S a d = some v) (hp : pc + 1 = pc') (h : AA Ω Y F k n pc' lv (.ref v :: st) I S) : AA Ω Y F k n pc lv (.int (nI d) :: .ref a :: st) I S :=
  r_aald20 hd hA (vp_nI hin (by omega)) (by rw [nI_clamp (by omega)]; exact hv) hp h
end DKR
set_option maxHeartbeats 2000000 in
theorem c_X9_next {Ω : JO} {I : JI} {S : JS} {Q : JQ} {L0 : List Nat} {d e1 e2 n1 n2 : Nat} {D : DP} (h : DK Ω L0 S I d D e1 e2 n1 n2) (hn : n1 < 10) {c : Nat} (hc : ppk D n1 = nI c) (hQ : Q (.inl (some (.int (nI c)))) I S) : Call Ω m_X9_next [.ref d] I S Q := by
  refine call_of (by decide +kernel) rfl (Nat.le_of_ble_eq_true rfl) ?_
  change AA Ω m_X9_next (FQ Ω m_X9_next Q) 0 0 0 [(0, .ref d)] [] I S
  obtain ⟨⟨v1, v2, v3, v4, v5⟩, -⟩ := h.dv
  refine r_aload_n (pc' := 1) dX9_next_0 rfl 0 rfl rfl ?_
  refine r_getO (pc' := 4) dX9_next_1 fa_X9_67 h.o rfl (h.rr 12 (by decide) (by decide)) rfl ?_
  refine r_aload_n (pc' := 5) dX9_next_4 rfl 0 rfl rfl ?_
  refine r_getO (pc' := 8) dX9_next_5 fa_X9_16 h.o rfl (h.rr 13 (by decide) (by decide)) rfl ?_
  refine r_callV (pc' := 11) (k' := 0) (n' := 0) (nn := 0) (As := []) (rest := [_]) dX9_next_8 mb_Jx4a65c_size_8abf5 mi_Jx4a65c_size_8abf5 h.l13.1 (by decide) rfl lk_X9_70 rfl rfl rfl rfl rfl (Nat.le_of_ble_eq_true rfl) rfl (c_Jx4a65c_size_8abf5 h.l13 (cpI ?_))
  refine r_aload_n (pc' := 12) dX9_next_11 rfl 0 rfl rfl ?_
  refine r_getO (pc' := 15) dX9_next_12 fa_X9_67 h.o rfl (h.rr 12 (by decide) (by decide)) rfl ?_
  refine r_alen (pc' := 16) dX9_next_15 h.a12 (by decide) rfl rfl ?_
  refine r_iremv (pc' := 17) dX9_next_16 (nI_ne0 (show 0 < pP D by omega) (by omega)) ((nI_modt (by omega) (by omega) (by omega)).trans (congrArg nI (Nat.mod_eq_of_lt (show n1 < pP D by omega)))) rfl ?_
  refine r_ialoadN (pc' := 18) dX9_next_17 h.a12 (show n1 < pP D by omega) (by omega) ((congrFun h.pk n1).trans hc) rfl ?_
  exact r_iret dX9_next_18 rfl (by decide) (by decide) (hQ)
set_option maxHeartbeats 2000000 in
theorem l_X9_up {Ω : JO} {I : JI} {S : JS} {Q : JQ} {L0 : List Nat} {d e1 e2 n1 n2 : Nat} {D : DP} (h : DK Ω L0 S I d D e1 e2 n1 n2) (hW : pW D ≤ 4) {c : Nat} (hc : c < 3) (hQ : Q (.inl (some (.int (upI (pcd D c 0) (pon D) (pW D))))) I S) : ∀ (m j : Nat), j + m = pW D → AA Ω m_X9_up (FQ Ω m_X9_up Q) 0 0 4 [(3, .int (nI j)), (2, .int (upI (pcd D c 0) (pon D) j)), (0, .ref d), (1, .int (nI c))] [] I S := by
  intro m
  induction m with
  | zero =>
    intro j hj
    refine r_iload_n (pc' := 5) dX9_up_4 rfl 0 rfl rfl ?_
    refine r_aload_n (pc' := 6) dX9_up_5 rfl 2 rfl rfl ?_
    refine r_getO (pc' := 9) dX9_up_6 fa_X9_54 h.o rfl (h.rr 8 (by decide) (by decide)) rfl ?_
    refine r_alen (pc' := 10) dX9_up_9 h.a8 (by decide) rfl rfl ?_
    refine r_icmp_ge (tgt := 39) (pc' := 13) dX9_up_10 rfl rfl (fun h10 => ?_) (fun h10 => ?_)
    · have e : j = pW D := by omega
      subst e
      refine r_iload_n (pc' := 40) dX9_up_39 rfl 1 rfl rfl ?_
      exact r_iret dX9_up_40 rfl (by decide) (by decide) (hQ)
    · exact absurd (show nI (pW D) ≤ nI j from nI_le (by omega) (by omega)) h10
  | succ m ih =>
    intro j hj
    refine r_iload_n (pc' := 5) dX9_up_4 rfl 0 rfl rfl ?_
    refine r_aload_n (pc' := 6) dX9_up_5 rfl 2 rfl rfl ?_
    refine r_getO (pc' := 9) dX9_up_6 fa_X9_54 h.o rfl (h.rr 8 (by decide) (by decide)) rfl ?_
    refine r_alen (pc' := 10) dX9_up_9 h.a8 (by decide) rfl rfl ?_
    refine r_icmp_ge (tgt := 39) (pc' := 13) dX9_up_10 rfl rfl (fun h10 => ?_) (fun h10 => ?_)
    · exact absurd h10 (show ¬ nI (pW D) ≤ nI j from nI_ge (by omega) (by omega))
    · refine r_iload_n (pc' := 14) dX9_up_13 rfl 1 rfl rfl ?_
      refine r_aload_n (pc' := 15) dX9_up_14 rfl 2 rfl rfl ?_
      refine r_getO (pc' := 18) dX9_up_15 fa_X9_63 h.o rfl (h.rr 11 (by decide) (by decide)) rfl ?_
      refine r_iload_n (pc' := 19) dX9_up_18 rfl 3 rfl rfl ?_
      refine r_aald20N (pc' := 20) dX9_up_19 h.a11 hc (by decide) (h.cr c hc).1 rfl ?_
      refine r_iconst (pc' := 21) (v := 0) dX9_up_20 (by decide) rfl ?_
      refine r_ialoadN (pc' := 22) dX9_up_21 (h.cr c hc).2.1 (show 0 < 4 by decide) (by omega) (congrFun (h.cr c hc).2.2 0) rfl ?_
      refine r_aload_n (pc' := 23) dX9_up_22 rfl 2 rfl rfl ?_
      refine r_getO (pc' := 26) dX9_up_23 fa_X9_54 h.o rfl (h.rr 8 (by decide) (by decide)) rfl ?_
      refine r_iload_n (pc' := 27) dX9_up_26 rfl 0 rfl rfl ?_
      refine r_ialoadN (pc' := 28) dX9_up_27 h.a8 (show j < pW D by omega) (by omega) (congrFun h.on j) rfl ?_
      refine r_ishr (pc' := 29) dX9_up_28 rfl ?_
      refine r_iconst (pc' := 30) (v := 1) dX9_up_29 (by decide) rfl ?_
      refine r_iand (pc' := 31) dX9_up_30 rfl ?_
      refine r_iadd (pc' := 32) dX9_up_31 rfl ?_
      refine r_istore_n (pc' := 33) (lv' := [(2, _), (3, _), (0, _), (1, _)]) dX9_up_32 rfl (by decide) rfl rfl ?_
      refine r_iinc (pc' := 36) (lv' := [(3, _), (2, _), (0, _), (1, _)]) dX9_up_33 1 rfl rfl (by decide) rfl rfl ?_
      refine r_goto (tgt := 4) dX9_up_36 rfl ?_
      exact aa_lv (lv' := [(3, .int (nI (j + 1))), (2, .int (upI (pcd D c 0) (pon D) (j + 1))), (0, .ref d), (1, .int (nI c))]) (by rw [nI_succ]; rfl) (ih (j + 1) (by omega))
set_option maxHeartbeats 2000000 in
theorem c_X9_up {Ω : JO} {I : JI} {S : JS} {Q : JQ} {L0 : List Nat} {d e1 e2 n1 n2 : Nat} {D : DP} (h : DK Ω L0 S I d D e1 e2 n1 n2) {c : Nat} (hc : c < 3) (hQ : Q (.inl (some (.int (upI (pcd D c 0) (pon D) (pW D))))) I S) : Call Ω m_X9_up [.ref d, .int (nI c)] I S Q := by
  refine call_of (by decide +kernel) rfl (Nat.le_of_ble_eq_true rfl) ?_
  change AA Ω m_X9_up (FQ Ω m_X9_up Q) 0 0 0 [(0, .ref d), (1, .int (nI c))] [] I S
  refine r_iconst (pc' := 1) (v := 0) dX9_up_0 (by decide) rfl ?_
  refine r_istore_n (pc' := 2) (lv' := [(2, _), (0, _), (1, _)]) dX9_up_1 rfl (by decide) rfl rfl ?_
  refine r_iconst (pc' := 3) (v := 0) dX9_up_2 (by decide) rfl ?_
  refine r_istore_n (pc' := 4) (lv' := [(3, _), (2, _), (0, _), (1, _)]) dX9_up_3 rfl (by decide) rfl rfl ?_
  exact l_X9_up (Ω := Ω) h h.dv.1.2.1 hc hQ (pW D) 0 (by omega)
set_option maxHeartbeats 2000000 in
theorem c_X9_why {Ω : JO} {I : JI} {S : JS} {Q : JQ} {L0 : List Nat} {d e1 e2 n1 n2 : Nat} {D : DP} (h : DK Ω L0 S I d D e1 e2 n1 n2) (hn : n1 < 10) {c : Nat} (hc3 : c < 3) (hc : ppk D n1 = nI c) (hQ : ∀ r, (r = 0 → ¬ nI (pmt D) < upI (pcd D c 0) (pon D) (pW D)) → (YC D I → ¬ nI (pmt D) < upI (pcd D c 0) (pon D) (pW D) → r = 0) → Q (.inl (some (.int r))) I S) : Call Ω m_X9_why [.ref d] I S Q := by
  refine call_of (by decide +kernel) rfl (Nat.le_of_ble_eq_true rfl) ?_
  change AA Ω m_X9_why (FQ Ω m_X9_why Q) 0 0 0 [(0, .ref d)] [] I S
  obtain ⟨f, hf3, hf⟩ := h.dv.2.2.2 c hc3
  refine r_aload_n (pc' := 1) dX9_why_0 rfl 0 rfl rfl ?_
  refine r_getO (pc' := 4) dX9_why_1 fa_X9_16 h.o rfl (h.rr 13 (by decide) (by decide)) rfl ?_
  refine r_callV (pc' := 7) (k' := 0) (n' := 0) (nn := 0) (As := []) (rest := []) dX9_why_4 mb_Jx4a65c_size_8abf5 mi_Jx4a65c_size_8abf5 h.l13.1 (by decide) rfl lk_X9_70 rfl rfl rfl rfl rfl (Nat.le_of_ble_eq_true rfl) rfl (c_Jx4a65c_size_8abf5 h.l13 (cpI ?_))
  refine r_bipush (pc' := 9) (v := 60) dX9_why_7 (by decide) rfl ?_
  refine r_icmp_ne (tgt := 14) (pc' := 12) dX9_why_9 rfl rfl (fun h9 => ?_) (fun h9 => ?_)
  · refine r_aload_n (pc' := 15) dX9_why_14 rfl 0 rfl rfl ?_
    refine r_getO (pc' := 18) dX9_why_15 fa_X9_60 h.o rfl (h.rr 10 (by decide) (by decide)) rfl ?_
    refine r_aload_n (pc' := 19) dX9_why_18 rfl 0 rfl rfl ?_
    refine r_getO (pc' := 22) dX9_why_19 fa_X9_63 h.o rfl (h.rr 11 (by decide) (by decide)) rfl ?_
    refine r_aload_n (pc' := 23) dX9_why_22 rfl 0 rfl rfl ?_
    refine r_callV (pc' := 26) (k' := 0) (n' := 0) (nn := 0) (As := []) (rest := [_, _]) dX9_why_23 mb_X9_next mi_X9_next h.o (by decide) rfl lk_X9_84 rfl rfl rfl rfl rfl (Nat.le_of_ble_eq_true rfl) rfl (c_X9_next h hn hc (cpI ?_))
    refine r_aald20N (pc' := 27) dX9_why_26 h.a11 hc3 (by decide) (h.cr c hc3).1 rfl ?_
    refine r_iconst (pc' := 28) (v := 1) dX9_why_27 (by decide) rfl ?_
    refine r_ialoadN (pc' := 29) dX9_why_28 (h.cr c hc3).2.1 (show 1 < 4 by decide) (by omega) ((congrFun (h.cr c hc3).2.2 1).trans hf) rfl ?_
    refine r_ialoadN (pc' := 30) dX9_why_29 h.a10 (show f < 6 by omega) (by omega) rfl rfl ?_
    refine r_aload_n (pc' := 31) dX9_why_30 rfl 0 rfl rfl ?_
    refine r_getO (pc' := 34) dX9_why_31 fa_X9_54 h.o rfl (h.rr 8 (by decide) (by decide)) rfl ?_
    refine r_alen (pc' := 35) dX9_why_34 h.a8 (by decide) rfl rfl ?_
    refine r_icmp_ge (tgt := 40) (pc' := 38) dX9_why_35 rfl rfl (fun h35 => ?_) (fun h35 => ?_)
    · refine r_aload_n (pc' := 41) dX9_why_40 rfl 0 rfl rfl ?_
      refine r_aload_n (pc' := 42) dX9_why_41 rfl 0 rfl rfl ?_
      refine r_callV (pc' := 45) (k' := 0) (n' := 0) (nn := 0) (As := []) (rest := [_]) dX9_why_42 mb_X9_next mi_X9_next h.o (by decide) rfl lk_X9_84 rfl rfl rfl rfl rfl (Nat.le_of_ble_eq_true rfl) rfl (c_X9_next h hn hc (cpI ?_))
      refine r_callV (pc' := 48) (k' := 0) (n' := 0) (nn := 1) (As := [_]) (rest := []) dX9_why_45 mb_X9_up mi_X9_up h.o (by decide) rfl lk_X9_87 rfl rfl rfl rfl rfl (Nat.le_of_ble_eq_true rfl) rfl (c_X9_up h hc3 (cpI ?_))
      refine r_aload_n (pc' := 49) dX9_why_48 rfl 0 rfl rfl ?_
      refine r_getIv (pc' := 52) dX9_why_49 fa_X9_7 h.o rfl h.f3 rfl ?_
      refine r_icmp_le (tgt := 59) (pc' := 55) dX9_why_52 rfl rfl (fun h52 => ?_) (fun h52 => ?_)
      · have hle := h52
        refine r_iconst (pc' := 60) (v := 0) dX9_why_59 (by decide) rfl ?_
        exact r_iret dX9_why_60 rfl (by decide) (by decide) (hQ 0 (fun _ => Int32.not_lt.mpr h52) (fun _ _ => rfl))
      · refine r_iconst (pc' := 56) (v := 4) dX9_why_55 (by decide) rfl ?_
        refine r_goto (tgt := 60) dX9_why_56 rfl ?_
        exact r_iret dX9_why_60 rfl (by decide) (by decide) (hQ 4 (fun e => absurd e (by decide)) (fun _ e => absurd (Int32.not_le.mp h52) e))
    · refine r_iconst (pc' := 39) (v := 3) dX9_why_38 (by decide) rfl ?_
      exact r_iret dX9_why_39 rfl (by decide) (by decide) (hQ 3 (fun e => absurd e (by decide)) (fun hy _ => by obtain ⟨y, y1, y2, y3⟩ := hy f hf3; rw [y3] at h35; exact absurd (show nI (pW D) ≤ nI y from nI_le y1 y2) h35))
  · exact absurd ((nI_eq (by omega) (by decide)).mp (show nI n1 = nI 60 from h9)) (by omega)
set_option maxHeartbeats 2000000 in
theorem l_X9_tight {Ω : JO} {I : JI} {S : JS} {Q : JQ} {L0 : List Nat} {d e1 e2 n1 n2 : Nat} {D : DP} (h : DK Ω L0 S I d D e1 e2 n1 n2) {w : Nat} (hw : w < pW D) (hQ : ∀ b, (b = 0 ∨ b = 1) → Q (.inl (some (.int b))) I S) : ∀ (m j : Nat), j + m = n1 → AA Ω m_X9_tight (FQ Ω m_X9_tight Q) 0 0 13 [(2, .int (nI j)), (0, .ref d), (1, .int (nI w))] [] I S := by
  intro m
  induction m with
  | zero =>
    intro j hj
    refine r_iload_n (pc' := 14) dX9_tight_13 rfl 0 rfl rfl ?_
    refine r_aload_n (pc' := 15) dX9_tight_14 rfl 1 rfl rfl ?_
    refine r_getO (pc' := 18) dX9_tight_15 fa_X9_16 h.o rfl (h.rr 13 (by decide) (by decide)) rfl ?_
    refine r_callV (pc' := 21) (k' := 0) (n' := 0) (nn := 0) (As := []) (rest := [_]) dX9_tight_18 mb_Jx4a65c_size_8abf5 mi_Jx4a65c_size_8abf5 h.l13.1 (by decide) rfl lk_X9_70 rfl rfl rfl rfl rfl (Nat.le_of_ble_eq_true rfl) rfl (c_Jx4a65c_size_8abf5 h.l13 (cpI ?_))
    refine r_icmp_ge (tgt := 50) (pc' := 24) dX9_tight_21 rfl rfl (fun h21 => ?_) (fun h21 => ?_)
    · refine r_iconst (pc' := 51) (v := 1) dX9_tight_50 (by decide) rfl ?_
      exact r_zret dX9_tight_51 rfl (Or.inr rfl) (by decide) (by decide) (hQ 1 (Or.inr rfl))
    · exact absurd (show nI n1 ≤ nI j from nI_le (by omega) (by have := h.l13.n10; omega)) h21
  | succ m ih =>
    intro j hj
    refine r_iload_n (pc' := 14) dX9_tight_13 rfl 0 rfl rfl ?_
    refine r_aload_n (pc' := 15) dX9_tight_14 rfl 1 rfl rfl ?_
    refine r_getO (pc' := 18) dX9_tight_15 fa_X9_16 h.o rfl (h.rr 13 (by decide) (by decide)) rfl ?_
    refine r_callV (pc' := 21) (k' := 0) (n' := 0) (nn := 0) (As := []) (rest := [_]) dX9_tight_18 mb_Jx4a65c_size_8abf5 mi_Jx4a65c_size_8abf5 h.l13.1 (by decide) rfl lk_X9_70 rfl rfl rfl rfl rfl (Nat.le_of_ble_eq_true rfl) rfl (c_Jx4a65c_size_8abf5 h.l13 (cpI ?_))
    refine r_icmp_ge (tgt := 50) (pc' := 24) dX9_tight_21 rfl rfl (fun h21 => ?_) (fun h21 => ?_)
    · exact absurd h21 (show ¬ nI n1 ≤ nI j from nI_ge (by omega) (by have := h.l13.n10; omega))
    · obtain ⟨r, hr, hrA⟩ := h.el j (by omega)
      have hW4 := h.dv.1.2.1
      refine r_aload_n (pc' := 25) dX9_tight_24 rfl 1 rfl rfl ?_
      refine r_getO (pc' := 28) dX9_tight_25 fa_X9_16 h.o rfl (h.rr 13 (by decide) (by decide)) rfl ?_
      refine r_iload_n (pc' := 29) dX9_tight_28 rfl 0 rfl rfl ?_
      refine r_callV (pc' := 32) (k' := 0) (n' := 0) (nn := 1) (As := [_]) (rest := []) dX9_tight_29 mb_Jx4a65c_get_915e3 mi_Jx4a65c_get_915e3 h.l13.1 (by decide) rfl lk_X9_74 rfl rfl rfl rfl rfl (Nat.le_of_ble_eq_true rfl) rfl (c_Jx4a65c_get_915e3 h.l13 (show j < n1 by omega) hr (cpR ?_))
      refine r_cast11 (pc' := 35) dX9_tight_32 cw_X9_53 hrA rfl ?_
      refine r_iload_n (pc' := 36) dX9_tight_35 rfl 2 rfl rfl ?_
      refine r_iaload (pc' := 37) dX9_tight_36 hrA (vp_nI hw (by omega)) rfl ?_
      refine r_iconst (pc' := 38) (v := 1) dX9_tight_37 (by decide) rfl ?_
      refine r_iand (pc' := 39) dX9_tight_38 rfl ?_
      refine r_if_ne (tgt := 44) (pc' := 42) dX9_tight_39 rfl rfl (fun h39 => ?_) (fun h39 => ?_)
      · refine r_iinc (pc' := 47) (lv' := [(2, _), (0, _), (1, _)]) dX9_tight_44 0 rfl rfl (by decide) rfl rfl ?_
        refine r_goto (tgt := 13) dX9_tight_47 rfl ?_
        exact aa_lv (lv' := [(2, .int (nI (j + 1))), (0, .ref d), (1, .int (nI w))]) (by rw [nI_succ]; rfl) (ih (j + 1) (by omega))
      · refine r_iconst (pc' := 43) (v := 0) dX9_tight_42 (by decide) rfl ?_
        exact r_zret dX9_tight_43 rfl (Or.inl rfl) (by decide) (by decide) (hQ 0 (Or.inl rfl))
set_option maxHeartbeats 2000000 in
theorem c_X9_tight {Ω : JO} {I : JI} {S : JS} {Q : JQ} {L0 : List Nat} {d e1 e2 n1 n2 : Nat} {D : DP} (h : DK Ω L0 S I d D e1 e2 n1 n2) {w : Nat} (hw : w < pW D) (hs : pst D ≤ n1) (hQ : ∀ b, (b = 0 ∨ b = 1) → Q (.inl (some (.int b))) I S) : Call Ω m_X9_tight [.ref d, .int (nI w)] I S Q := by
  refine call_of (by decide +kernel) rfl (Nat.le_of_ble_eq_true rfl) ?_
  change AA Ω m_X9_tight (FQ Ω m_X9_tight Q) 0 0 0 [(0, .ref d), (1, .int (nI w))] [] I S
  refine r_aload_n (pc' := 1) dX9_tight_0 rfl 0 rfl rfl ?_
  refine r_getO (pc' := 4) dX9_tight_1 fa_X9_16 h.o rfl (h.rr 13 (by decide) (by decide)) rfl ?_
  refine r_callV (pc' := 7) (k' := 0) (n' := 0) (nn := 0) (As := []) (rest := []) dX9_tight_4 mb_Jx4a65c_size_8abf5 mi_Jx4a65c_size_8abf5 h.l13.1 (by decide) rfl lk_X9_70 rfl rfl rfl rfl rfl (Nat.le_of_ble_eq_true rfl) rfl (c_Jx4a65c_size_8abf5 h.l13 (cpI ?_))
  refine r_aload_n (pc' := 8) dX9_tight_7 rfl 0 rfl rfl ?_
  refine r_getIv (pc' := 11) dX9_tight_8 fa_X9_30 h.o rfl h.f2 rfl ?_
  refine r_isubv (pc' := 12) dX9_tight_11 (nI_sub hs) rfl ?_
  refine r_istore_n (pc' := 13) (lv' := [(2, _), (0, _), (1, _)]) dX9_tight_12 rfl (by decide) rfl rfl ?_
  exact l_X9_tight (Ω := Ω) h hw hQ (pst D) (n1 - pst D) (by omega)
