/-! the law's own loom: weave, weaves, unweave -/
section DKQ
variable {Ω : JO} {L0 : List Nat} {S S' : JS} {I I' : JI} {d e1 e2 n1 n2 a k z e' : Nat} {D : DP} {x : Int32} {P : Nat → Prop}
theorem DK.mz (h : DK Ω L0 S I d D e1 e2 n1 n2) (hL : ∀ x, x ∈ L0 → x ∈ sL S) (hz : z ∉ sL S) : MU L0 d D z :=
  ⟨fun q => hz (hL z q), fun e => hz (e ▸ h.o.1), fun e => hz (e ▸ h.a8.1), fun e => hz (e ▸ h.a12.1), fun e => hz (e ▸ h.l13.1.1), fun e => hz (e ▸ h.l14.1.1), fun k hk e => hz (e ▸ (h.cr k hk).2.1.1)⟩
theorem kne {a b : Nat} {S : JS} {x y : Nat} (h1 : sK S a = x) (h2 : sK S b = y) (h : x ≠ y) : a ≠ b := fun e => h (by rw [← h1, ← h2, e])
theorem DK.addR (h : DK Ω L0 S I d D e1 e2 n1 n2) (hE : oE Ω ∉ sL S) (hz : ArE 11 S z (pW D)) (hA : AL Ω L0 S' I' (pA D 13) e' (n1 + 1)) (he : (ArE 19 S e1 10 ∧ e' = e1) ∨ e' ∉ sL S) (x : Kp (fun c => c = pA D 13 ∨ (c = e1 ∧ c ∉ L0 ∧ sK S c = 19)) I S I' S') (hv : sR S' e' n1 = some z) (hlo : ∀ i, i < n1 → sR S' e' i = sR S e1 i) : DK Ω L0 S' I' d D e' e2 (n1 + 1) n2 := by
  have hT : sT S' = none := hA.2.2.2.1
  have k13 : sK S (pA D 13) = 18 := h.l13.1.2
  have np : ∀ c y, sK S c = y → y ≠ 18 → y ≠ 19 → ¬ (c = pA D 13 ∨ (c = e1 ∧ c ∉ L0 ∧ sK S c = 19)) := fun c y hy h1 h2 q => q.elim (fun e => h1 (by rw [← hy, e, k13])) (fun e => h2 (by rw [← hy, e.2.2]))
  have p14 : ¬ (pA D 14 = pA D 13 ∨ (pA D 14 = e1 ∧ pA D 14 ∉ L0 ∧ sK S (pA D 14) = 19)) := fun q => q.elim (fun e => h.dx.2.2.2 e.symm) (fun e => absurd (h.l14.1.2.symm.trans e.2.2) (by decide))
  have he2 : e2 ∈ sL S → ¬ (e2 = pA D 13 ∨ (e2 = e1 ∧ e2 ∉ L0 ∧ sK S e2 = 19)) := fun hm q => by
    rcases h.l14.2.2.2.2 with ⟨_, g⟩ | ⟨g, _, _⟩
    · exact hE (g ▸ hm)
    · rcases q with q | q
      · exact absurd (g.2.1.symm.trans (q ▸ k13)) (by decide)
      · rcases h.ne with h1 | h1
        · exact h1 q.1.symm
        · exact hE (h1 ▸ q.1 ▸ hm)
  have g := h.kpG (e1 := e1) x hT (np d 9 h.o.2 (by decide) (by decide)) (np _ 11 h.a8.2.1 (by decide) (by decide)) (np _ 11 h.a12.2.1 (by decide) (by decide)) (np _ 20 h.a11.2.1 (by decide) (by decide)) (fun k hk => np _ 11 (h.cr k hk).2.1.2.1 (by decide) (by decide))
  have w1 : ∀ i, i < n1 + 1 → ∃ r, sR S' e' i = some r ∧ ArE 11 S' r (pW D) := fun i hi => by
    by_cases q : i = n1
    · subst q; exact ⟨z, hv, x.ar hT hz⟩
    · obtain ⟨r, g1, g2⟩ := h.el i (by omega)
      exact ⟨r, by rw [hlo i (by omega)]; exact g1, x.ar hT g2⟩
  refine ⟨x.o h.o, fun j h1 h2 => by rw [x.gR h.o.1 (np d 9 h.o.2 (by decide) (by decide))]; exact h.rr j h1 h2, ⟨x.ar hT h.a4, x.ar hT h.a5, x.ar hT h.a6, x.ar hT h.a7, x.ar hT h.a8, x.ar hT h.a9, x.ar hT h.a10, x.ar hT h.a11, x.ar hT h.a12⟩, fun k hk => ?_, ?_, ⟨hA, w1⟩, ⟨h.l14.kp x hT p14, h.ewk x he2⟩, ?_, h.dx, h.dv⟩
  · obtain ⟨c1, c2, c3⟩ := h.cr k hk
    exact ⟨by rw [x.gR h.a11.1 (np _ 20 h.a11.2.1 (by decide) (by decide))]; exact c1, x.ar hT c2, by rw [x.gI c2.1 (np _ 11 c2.2.1 (by decide) (by decide))]; exact c3⟩
  · have ed : I' d = I d := x.gI h.o.1 (np d 9 h.o.2 (by decide) (by decide))
    exact ⟨by rw [ed]; exact h.f0, by rw [ed]; exact h.f2, by rw [ed]; exact h.f3, by rw [x.gI h.a8.1 (np _ 11 h.a8.2.1 (by decide) (by decide))]; exact h.on, by rw [x.gI h.a12.1 (np _ 11 h.a12.2.1 (by decide) (by decide))]; exact h.pk⟩
  · rcases he with ⟨g1, g2⟩ | g1
    · subst g2
      rcases h.ne with h1 | h1
      · exact Or.inl h1
      · exact absurd (h1 ▸ g1.1) hE
    · by_cases q : e' = e2
      · rcases h.l14.2.2.2.2 with ⟨_, g⟩ | ⟨g, _, _⟩
        · exact Or.inr (q.trans g)
        · exact absurd (q ▸ g.1) g1
      · exact Or.inl q
theorem DK.addW (h : DK Ω L0 S I d D e1 e2 n1 n2) (hE : oE Ω ∉ sL S) {c0 : Nat} (hc : c0 < 3) (hA : AL Ω L0 S' I' (pA D 14) e' (n2 + 1)) (he : (ArE 19 S e2 10 ∧ e' = e2) ∨ e' ∉ sL S) (x : Kp (fun c => c = pA D 14 ∨ (c = e2 ∧ c ∉ L0 ∧ sK S c = 19)) I S I' S') (hv : sR S' e' n2 = some (oB Ω (c0 + 128))) (hlo : ∀ i, i < n2 → sR S' e' i = sR S e2 i) : DK Ω L0 S' I' d D e1 e' n1 (n2 + 1) := by
  have hT : sT S' = none := hA.2.2.2.1
  have k14 : sK S (pA D 14) = 18 := h.l14.1.2
  have np : ∀ c y, sK S c = y → y ≠ 18 → y ≠ 19 → ¬ (c = pA D 14 ∨ (c = e2 ∧ c ∉ L0 ∧ sK S c = 19)) := fun c y hy h1 h2 q => q.elim (fun e => h1 (by rw [← hy, e, k14])) (fun e => h2 (by rw [← hy, e.2.2]))
  have p13 : ¬ (pA D 13 = pA D 14 ∨ (pA D 13 = e2 ∧ pA D 13 ∉ L0 ∧ sK S (pA D 13) = 19)) := fun q => q.elim (fun e => h.dx.2.2.2 e) (fun e => absurd (h.l13.1.2.symm.trans e.2.2) (by decide))
  have he1 : e1 ∈ sL S → ¬ (e1 = pA D 14 ∨ (e1 = e2 ∧ e1 ∉ L0 ∧ sK S e1 = 19)) := fun hm q => by
    rcases h.l13.2.2.2.2 with ⟨_, g⟩ | ⟨g, _, _⟩
    · exact hE (g ▸ hm)
    · rcases q with q | q
      · exact absurd (g.2.1.symm.trans (q ▸ k14)) (by decide)
      · rcases h.ne with h1 | h1
        · exact h1 q.1
        · exact hE (h1 ▸ hm)
  have w2 : ∀ i, i < n2 + 1 → ∃ c, c < 3 ∧ sR S' e' i = some (oB Ω (c + 128)) := fun i hi => by
    by_cases q : i = n2
    · subst q; exact ⟨c0, hc, hv⟩
    · obtain ⟨c, g1, g2⟩ := h.ew i (by omega)
      exact ⟨c, g1, by rw [hlo i (by omega)]; exact g2⟩
  refine ⟨x.o h.o, fun j h1 h2 => by rw [x.gR h.o.1 (np d 9 h.o.2 (by decide) (by decide))]; exact h.rr j h1 h2, ⟨x.ar hT h.a4, x.ar hT h.a5, x.ar hT h.a6, x.ar hT h.a7, x.ar hT h.a8, x.ar hT h.a9, x.ar hT h.a10, x.ar hT h.a11, x.ar hT h.a12⟩, fun k hk => ?_, ?_, ⟨h.l13.kp x hT p13, h.elk x hT he1⟩, ⟨hA, w2⟩, ?_, h.dx, h.dv⟩
  · obtain ⟨c1, c2, c3⟩ := h.cr k hk
    exact ⟨by rw [x.gR h.a11.1 (np _ 20 h.a11.2.1 (by decide) (by decide))]; exact c1, x.ar hT c2, by rw [x.gI c2.1 (np _ 11 c2.2.1 (by decide) (by decide))]; exact c3⟩
  · have ed : I' d = I d := x.gI h.o.1 (np d 9 h.o.2 (by decide) (by decide))
    exact ⟨by rw [ed]; exact h.f0, by rw [ed]; exact h.f2, by rw [ed]; exact h.f3, by rw [x.gI h.a8.1 (np _ 11 h.a8.2.1 (by decide) (by decide))]; exact h.on, by rw [x.gI h.a12.1 (np _ 11 h.a12.2.1 (by decide) (by decide))]; exact h.pk⟩
  · rcases he with ⟨g1, g2⟩ | g1
    · subst g2; exact h.ne
    · by_cases q : e1 = e'
      · rcases h.l13.2.2.2.2 with ⟨_, g⟩ | ⟨g, _, _⟩
        · exact Or.inr g
        · exact absurd (q ▸ g.1) g1
      · exact Or.inl q
theorem roomB_mk {Y Z : JM} {k n : Nat} (h1 : Z.2.2.2.2.2.frames + 1 ≤ Y.2.2.2.2.2.frames) (h2 : 8 + (Z.2.2.1 + 11) + Z.2.2.2.2.2.locals ≤ Y.2.2.2.2.2.locals) (h3 : k + Z.2.2.2.2.2.cells ≤ Y.2.2.2.2.2.cells) (h4 : n + Z.2.2.2.2.2.slots ≤ Y.2.2.2.2.2.slots) : roomB Y Z k n = true := by
  unfold roomB
  rw [Nat.ble_eq_true_of_le h1, Nat.ble_eq_true_of_le h2, Nat.ble_eq_true_of_le h3, Nat.ble_eq_true_of_le h4]; rfl
end DKQ
set_option maxHeartbeats 2000000 in
theorem l_X9_weave1 {Ω : JO} {S : JS} {Q : JQ} {L0 : List Nat} {d e1 e2 n1 n2 f z c : Nat} {D : DP} {S0 : JS} {I0 : JI} (hc : c < 3) (hH : pH D ≤ 3) (hk : ∀ I, DK Ω L0 S I d D e1 e2 n1 n2 → Kp (MK S0 L0) I0 S0 I S → AA Ω m_X9_weave (FQ Ω m_X9_weave Q) 1 4 134 [(0, .ref d), (1, .ref (pC D c)), (2, .int (nI f)), (3, .ref z)] [] I S) : ∀ (m : Nat) (j : Nat) (I : JI), j + m = pH D → DK Ω L0 S I d D e1 e2 n1 n2 → Kp (MK S0 L0) I0 S0 I S → AA Ω m_X9_weave (FQ Ω m_X9_weave Q) 1 4 39 [(4, .int (nI j)), (0, .ref d), (1, .ref (pC D c)), (2, .int (nI f)), (3, .ref z)] [] I S := by
  intro m
  induction m with
  | zero =>
    intro j I hj h K
    refine r_iload (pc' := 41) dX9_weave_39 0 rfl rfl ?_
    refine r_aload_n (pc' := 42) dX9_weave_41 rfl 1 rfl rfl ?_
    refine r_getIv (pc' := 45) dX9_weave_42 fa_X9_24 h.o rfl h.f0 rfl ?_
    refine r_icmp_ge (tgt := 134) (pc' := 48) dX9_weave_45 rfl rfl (fun h45 => ?_) (fun h45 => ?_)
    · refine aa_locs (ks := [1, 2, 3, 4]) (lv' := [(0, _), (1, _), (2, _), (3, _)]) rfl ?_
      exact hk _ h K
    · exact absurd (show nI (pH D) ≤ nI j from nI_le (by omega) (by omega)) h45
  | succ m ih =>
    intro j I hj h K
    refine r_iload (pc' := 41) dX9_weave_39 0 rfl rfl ?_
    refine r_aload_n (pc' := 42) dX9_weave_41 rfl 1 rfl rfl ?_
    refine r_getIv (pc' := 45) dX9_weave_42 fa_X9_24 h.o rfl h.f0 rfl ?_
    refine r_icmp_ge (tgt := 134) (pc' := 48) dX9_weave_45 rfl rfl (fun h45 => ?_) (fun h45 => ?_)
    · exact absurd h45 (show ¬ nI (pH D) ≤ nI j from nI_ge (by omega) (by omega))
    · refine r_aload_n (pc' := 49) dX9_weave_48 rfl 2 rfl rfl ?_
      refine r_iconst (pc' := 50) (v := 0) dX9_weave_49 (by decide) rfl ?_
      refine r_iaload (pc' := 51) dX9_weave_50 (h.cr c hc).2.1 (vp_nI (show 0 < 4 by decide) (by decide)) rfl ?_
      refine r_iload (pc' := 53) dX9_weave_51 0 rfl rfl ?_
      refine r_ishr (pc' := 54) dX9_weave_53 rfl ?_
      refine r_iconst (pc' := 55) (v := 1) dX9_weave_54 (by decide) rfl ?_
      refine r_iand (pc' := 56) dX9_weave_55 rfl ?_
      refine r_iconst (pc' := 57) (v := 1) dX9_weave_56 (by decide) rfl ?_
      refine r_icmp_ne (tgt := 64) (pc' := 60) dX9_weave_57 rfl rfl (fun h57 => ?_) (fun h57 => ?_)
      · refine r_iconst (pc' := 65) (v := 0) dX9_weave_64 (by decide) rfl ?_
        refine r_istore (pc' := 67) (lv' := [(5, _), (4, _), (0, _), (1, _), (2, _), (3, _)]) dX9_weave_65 (by decide) rfl rfl ?_
        refine r_aload_n (pc' := 68) dX9_weave_67 rfl 2 rfl rfl ?_
        refine r_getO (pc' := 71) dX9_weave_68 fa_X9_42 h.o rfl (h.rr 5 (by decide) (by decide)) rfl ?_
        refine r_iload (pc' := 73) dX9_weave_71 1 rfl rfl ?_
        refine r_zaload (pc' := 74) dX9_weave_73 h.a5 (vp_nI (show j < pH D by omega) (by omega)) rfl ?_
        refine r_if_ne (tgt := 128) (pc' := 77) dX9_weave_74 rfl rfl (fun h74 => ?_) (fun h74 => ?_)
        · refine r_iinc (pc' := 131) (lv' := [(4, _), (5, _), (0, _), (1, _), (2, _), (3, _)]) dX9_weave_128 1 rfl rfl (by decide) rfl rfl ?_
          refine r_goto (tgt := 39) dX9_weave_131 rfl ?_
          refine aa_locs (ks := [0, 2, 3, 4, 5]) (lv' := [(4, _), (0, _), (1, _), (2, _), (3, _)]) rfl ?_
          exact aa_lv (lv' := [(4, .int (nI (j + 1))), (0, .ref d), (1, .ref (pC D c)), (2, .int (nI f)), (3, .ref z)]) (by rw [nI_succ]; rfl) (ih (j + 1) _ (by omega) (by first | exact h | exact (h.st h.dx.1.1).st h.dx.1.2.2.2.1 | exact ((h.st h.dx.1.1).st h.dx.1.2.2.2.1).st h.dx.1.2.1) (by first | exact K | exact (K.stM h.dx.1.1.1 (Or.inr h.a4.2.1)).stM h.dx.1.2.2.2.1.1 (Or.inl h.a7.2.1) | exact ((K.stM h.dx.1.1.1 (Or.inr h.a4.2.1)).stM h.dx.1.2.2.2.1.1 (Or.inl h.a7.2.1)).stM h.dx.1.2.1.1 (Or.inr h.a5.2.1)))
        · refine r_iload (pc' := 79) dX9_weave_77 0 rfl rfl ?_
          refine r_aload_n (pc' := 80) dX9_weave_79 rfl 2 rfl rfl ?_
          refine r_getO (pc' := 83) dX9_weave_80 fa_X9_33 h.o rfl (h.rr 4 (by decide) (by decide)) rfl ?_
          refine r_iload (pc' := 85) dX9_weave_83 1 rfl rfl ?_
          refine r_zaload (pc' := 86) dX9_weave_85 h.a4 (vp_nI (show j < pH D by omega) (by omega)) rfl ?_
          refine r_icmp_ne (tgt := 92) (pc' := 89) dX9_weave_86 rfl rfl (fun h86 => ?_) (fun h86 => ?_)
          · refine r_aload_n (pc' := 93) dX9_weave_92 rfl 2 rfl rfl ?_
            refine r_getO (pc' := 96) dX9_weave_93 fa_X9_33 h.o rfl (h.rr 4 (by decide) (by decide)) rfl ?_
            refine r_iload (pc' := 98) dX9_weave_96 1 rfl rfl ?_
            refine r_iload (pc' := 100) dX9_weave_98 0 rfl rfl ?_
            refine r_zastore (pc' := 101) dX9_weave_100 h.a4 (vp_nI (show j < pH D by omega) (by omega)) rfl ?_
            refine r_aload_n (pc' := 102) dX9_weave_101 rfl 2 rfl rfl ?_
            refine r_getO (pc' := 105) dX9_weave_102 fa_X9_48 h.o rfl (h.rr 7 (by decide) (by decide)) rfl ?_
            refine r_iload (pc' := 107) dX9_weave_105 1 rfl rfl ?_
            refine r_dup2 (pc' := 108) dX9_weave_107 rfl rfl rfl ?_
            refine r_iaload (pc' := 109) dX9_weave_108 h.a7 (vp_nI (show j < pH D by omega) (by omega)) rfl ?_
            refine r_iconst (pc' := 110) (v := 1) dX9_weave_109 (by decide) rfl ?_
            refine r_iadd (pc' := 111) dX9_weave_110 rfl ?_
            refine r_dup_x2 (pc' := 112) dX9_weave_111 rfl rfl rfl rfl ?_
            refine r_iastore (pc' := 113) dX9_weave_112 h.a7 (vp_nI (show j < pH D by omega) (by omega)) rfl ?_
            refine r_aload_n (pc' := 114) dX9_weave_113 rfl 2 rfl rfl ?_
            refine r_getI (pc' := 117) dX9_weave_114 fa_X9_27 h.o rfl rfl ?_
            refine r_icmp_ne (tgt := 128) (pc' := 120) dX9_weave_117 rfl rfl (fun h117 => ?_) (fun h117 => ?_)
            · refine r_iinc (pc' := 131) (lv' := [(4, _), (5, _), (0, _), (1, _), (2, _), (3, _)]) dX9_weave_128 1 rfl rfl (by decide) rfl rfl ?_
              refine r_goto (tgt := 39) dX9_weave_131 rfl ?_
              refine aa_locs (ks := [0, 2, 3, 4, 5]) (lv' := [(4, _), (0, _), (1, _), (2, _), (3, _)]) rfl ?_
              exact aa_lv (lv' := [(4, .int (nI (j + 1))), (0, .ref d), (1, .ref (pC D c)), (2, .int (nI f)), (3, .ref z)]) (by rw [nI_succ]; rfl) (ih (j + 1) _ (by omega) (by first | exact h | exact (h.st h.dx.1.1).st h.dx.1.2.2.2.1 | exact ((h.st h.dx.1.1).st h.dx.1.2.2.2.1).st h.dx.1.2.1) (by first | exact K | exact (K.stM h.dx.1.1.1 (Or.inr h.a4.2.1)).stM h.dx.1.2.2.2.1.1 (Or.inl h.a7.2.1) | exact ((K.stM h.dx.1.1.1 (Or.inr h.a4.2.1)).stM h.dx.1.2.2.2.1.1 (Or.inl h.a7.2.1)).stM h.dx.1.2.1.1 (Or.inr h.a5.2.1)))
            · refine r_aload_n (pc' := 121) dX9_weave_120 rfl 2 rfl rfl ?_
              refine r_getO (pc' := 124) dX9_weave_121 fa_X9_42 h.o rfl (h.rr 5 (by decide) (by decide)) rfl ?_
              refine r_iload (pc' := 126) dX9_weave_124 1 rfl rfl ?_
              refine r_iconst (pc' := 127) (v := 1) dX9_weave_126 (by decide) rfl ?_
              refine r_zastore (pc' := 128) dX9_weave_127 h.a5 (vp_nI (show j < pH D by omega) (by omega)) rfl ?_
              refine r_iinc (pc' := 131) (lv' := [(4, _), (5, _), (0, _), (1, _), (2, _), (3, _)]) dX9_weave_128 1 rfl rfl (by decide) rfl rfl ?_
              refine r_goto (tgt := 39) dX9_weave_131 rfl ?_
              refine aa_locs (ks := [0, 2, 3, 4, 5]) (lv' := [(4, _), (0, _), (1, _), (2, _), (3, _)]) rfl ?_
              exact aa_lv (lv' := [(4, .int (nI (j + 1))), (0, .ref d), (1, .ref (pC D c)), (2, .int (nI f)), (3, .ref z)]) (by rw [nI_succ]; rfl) (ih (j + 1) _ (by omega) (by first | exact h | exact (h.st h.dx.1.1).st h.dx.1.2.2.2.1 | exact ((h.st h.dx.1.1).st h.dx.1.2.2.2.1).st h.dx.1.2.1) (by first | exact K | exact (K.stM h.dx.1.1.1 (Or.inr h.a4.2.1)).stM h.dx.1.2.2.2.1.1 (Or.inl h.a7.2.1) | exact ((K.stM h.dx.1.1.1 (Or.inr h.a4.2.1)).stM h.dx.1.2.2.2.1.1 (Or.inl h.a7.2.1)).stM h.dx.1.2.1.1 (Or.inr h.a5.2.1)))
          · refine r_goto (tgt := 128) dX9_weave_89 rfl ?_
            refine r_iinc (pc' := 131) (lv' := [(4, _), (5, _), (0, _), (1, _), (2, _), (3, _)]) dX9_weave_128 1 rfl rfl (by decide) rfl rfl ?_
            refine r_goto (tgt := 39) dX9_weave_131 rfl ?_
            refine aa_locs (ks := [0, 2, 3, 4, 5]) (lv' := [(4, _), (0, _), (1, _), (2, _), (3, _)]) rfl ?_
            exact aa_lv (lv' := [(4, .int (nI (j + 1))), (0, .ref d), (1, .ref (pC D c)), (2, .int (nI f)), (3, .ref z)]) (by rw [nI_succ]; rfl) (ih (j + 1) _ (by omega) (by first | exact h | exact (h.st h.dx.1.1).st h.dx.1.2.2.2.1 | exact ((h.st h.dx.1.1).st h.dx.1.2.2.2.1).st h.dx.1.2.1) (by first | exact K | exact (K.stM h.dx.1.1.1 (Or.inr h.a4.2.1)).stM h.dx.1.2.2.2.1.1 (Or.inl h.a7.2.1) | exact ((K.stM h.dx.1.1.1 (Or.inr h.a4.2.1)).stM h.dx.1.2.2.2.1.1 (Or.inl h.a7.2.1)).stM h.dx.1.2.1.1 (Or.inr h.a5.2.1)))
      · refine r_iconst (pc' := 61) (v := 1) dX9_weave_60 (by decide) rfl ?_
        refine r_goto (tgt := 65) dX9_weave_61 rfl ?_
        refine r_istore (pc' := 67) (lv' := [(5, _), (4, _), (0, _), (1, _), (2, _), (3, _)]) dX9_weave_65 (by decide) rfl rfl ?_
        refine r_aload_n (pc' := 68) dX9_weave_67 rfl 2 rfl rfl ?_
        refine r_getO (pc' := 71) dX9_weave_68 fa_X9_42 h.o rfl (h.rr 5 (by decide) (by decide)) rfl ?_
        refine r_iload (pc' := 73) dX9_weave_71 1 rfl rfl ?_
        refine r_zaload (pc' := 74) dX9_weave_73 h.a5 (vp_nI (show j < pH D by omega) (by omega)) rfl ?_
        refine r_if_ne (tgt := 128) (pc' := 77) dX9_weave_74 rfl rfl (fun h74 => ?_) (fun h74 => ?_)
        · refine r_iinc (pc' := 131) (lv' := [(4, _), (5, _), (0, _), (1, _), (2, _), (3, _)]) dX9_weave_128 1 rfl rfl (by decide) rfl rfl ?_
          refine r_goto (tgt := 39) dX9_weave_131 rfl ?_
          refine aa_locs (ks := [0, 2, 3, 4, 5]) (lv' := [(4, _), (0, _), (1, _), (2, _), (3, _)]) rfl ?_
          exact aa_lv (lv' := [(4, .int (nI (j + 1))), (0, .ref d), (1, .ref (pC D c)), (2, .int (nI f)), (3, .ref z)]) (by rw [nI_succ]; rfl) (ih (j + 1) _ (by omega) (by first | exact h | exact (h.st h.dx.1.1).st h.dx.1.2.2.2.1 | exact ((h.st h.dx.1.1).st h.dx.1.2.2.2.1).st h.dx.1.2.1) (by first | exact K | exact (K.stM h.dx.1.1.1 (Or.inr h.a4.2.1)).stM h.dx.1.2.2.2.1.1 (Or.inl h.a7.2.1) | exact ((K.stM h.dx.1.1.1 (Or.inr h.a4.2.1)).stM h.dx.1.2.2.2.1.1 (Or.inl h.a7.2.1)).stM h.dx.1.2.1.1 (Or.inr h.a5.2.1)))
        · refine r_iload (pc' := 79) dX9_weave_77 0 rfl rfl ?_
          refine r_aload_n (pc' := 80) dX9_weave_79 rfl 2 rfl rfl ?_
          refine r_getO (pc' := 83) dX9_weave_80 fa_X9_33 h.o rfl (h.rr 4 (by decide) (by decide)) rfl ?_
          refine r_iload (pc' := 85) dX9_weave_83 1 rfl rfl ?_
          refine r_zaload (pc' := 86) dX9_weave_85 h.a4 (vp_nI (show j < pH D by omega) (by omega)) rfl ?_
          refine r_icmp_ne (tgt := 92) (pc' := 89) dX9_weave_86 rfl rfl (fun h86 => ?_) (fun h86 => ?_)
          · refine r_aload_n (pc' := 93) dX9_weave_92 rfl 2 rfl rfl ?_
            refine r_getO (pc' := 96) dX9_weave_93 fa_X9_33 h.o rfl (h.rr 4 (by decide) (by decide)) rfl ?_
            refine r_iload (pc' := 98) dX9_weave_96 1 rfl rfl ?_
            refine r_iload (pc' := 100) dX9_weave_98 0 rfl rfl ?_
            refine r_zastore (pc' := 101) dX9_weave_100 h.a4 (vp_nI (show j < pH D by omega) (by omega)) rfl ?_
            refine r_aload_n (pc' := 102) dX9_weave_101 rfl 2 rfl rfl ?_
            refine r_getO (pc' := 105) dX9_weave_102 fa_X9_48 h.o rfl (h.rr 7 (by decide) (by decide)) rfl ?_
            refine r_iload (pc' := 107) dX9_weave_105 1 rfl rfl ?_
            refine r_dup2 (pc' := 108) dX9_weave_107 rfl rfl rfl ?_
            refine r_iaload (pc' := 109) dX9_weave_108 h.a7 (vp_nI (show j < pH D by omega) (by omega)) rfl ?_
            refine r_iconst (pc' := 110) (v := 1) dX9_weave_109 (by decide) rfl ?_
            refine r_iadd (pc' := 111) dX9_weave_110 rfl ?_
            refine r_dup_x2 (pc' := 112) dX9_weave_111 rfl rfl rfl rfl ?_
            refine r_iastore (pc' := 113) dX9_weave_112 h.a7 (vp_nI (show j < pH D by omega) (by omega)) rfl ?_
            refine r_aload_n (pc' := 114) dX9_weave_113 rfl 2 rfl rfl ?_
            refine r_getI (pc' := 117) dX9_weave_114 fa_X9_27 h.o rfl rfl ?_
            refine r_icmp_ne (tgt := 128) (pc' := 120) dX9_weave_117 rfl rfl (fun h117 => ?_) (fun h117 => ?_)
            · refine r_iinc (pc' := 131) (lv' := [(4, _), (5, _), (0, _), (1, _), (2, _), (3, _)]) dX9_weave_128 1 rfl rfl (by decide) rfl rfl ?_
              refine r_goto (tgt := 39) dX9_weave_131 rfl ?_
              refine aa_locs (ks := [0, 2, 3, 4, 5]) (lv' := [(4, _), (0, _), (1, _), (2, _), (3, _)]) rfl ?_
              exact aa_lv (lv' := [(4, .int (nI (j + 1))), (0, .ref d), (1, .ref (pC D c)), (2, .int (nI f)), (3, .ref z)]) (by rw [nI_succ]; rfl) (ih (j + 1) _ (by omega) (by first | exact h | exact (h.st h.dx.1.1).st h.dx.1.2.2.2.1 | exact ((h.st h.dx.1.1).st h.dx.1.2.2.2.1).st h.dx.1.2.1) (by first | exact K | exact (K.stM h.dx.1.1.1 (Or.inr h.a4.2.1)).stM h.dx.1.2.2.2.1.1 (Or.inl h.a7.2.1) | exact ((K.stM h.dx.1.1.1 (Or.inr h.a4.2.1)).stM h.dx.1.2.2.2.1.1 (Or.inl h.a7.2.1)).stM h.dx.1.2.1.1 (Or.inr h.a5.2.1)))
            · refine r_aload_n (pc' := 121) dX9_weave_120 rfl 2 rfl rfl ?_
              refine r_getO (pc' := 124) dX9_weave_121 fa_X9_42 h.o rfl (h.rr 5 (by decide) (by decide)) rfl ?_
              refine r_iload (pc' := 126) dX9_weave_124 1 rfl rfl ?_
              refine r_iconst (pc' := 127) (v := 1) dX9_weave_126 (by decide) rfl ?_
              refine r_zastore (pc' := 128) dX9_weave_127 h.a5 (vp_nI (show j < pH D by omega) (by omega)) rfl ?_
              refine r_iinc (pc' := 131) (lv' := [(4, _), (5, _), (0, _), (1, _), (2, _), (3, _)]) dX9_weave_128 1 rfl rfl (by decide) rfl rfl ?_
              refine r_goto (tgt := 39) dX9_weave_131 rfl ?_
              refine aa_locs (ks := [0, 2, 3, 4, 5]) (lv' := [(4, _), (0, _), (1, _), (2, _), (3, _)]) rfl ?_
              exact aa_lv (lv' := [(4, .int (nI (j + 1))), (0, .ref d), (1, .ref (pC D c)), (2, .int (nI f)), (3, .ref z)]) (by rw [nI_succ]; rfl) (ih (j + 1) _ (by omega) (by first | exact h | exact (h.st h.dx.1.1).st h.dx.1.2.2.2.1 | exact ((h.st h.dx.1.1).st h.dx.1.2.2.2.1).st h.dx.1.2.1) (by first | exact K | exact (K.stM h.dx.1.1.1 (Or.inr h.a4.2.1)).stM h.dx.1.2.2.2.1.1 (Or.inl h.a7.2.1) | exact ((K.stM h.dx.1.1.1 (Or.inr h.a4.2.1)).stM h.dx.1.2.2.2.1.1 (Or.inl h.a7.2.1)).stM h.dx.1.2.1.1 (Or.inr h.a5.2.1)))
          · refine r_goto (tgt := 128) dX9_weave_89 rfl ?_
            refine r_iinc (pc' := 131) (lv' := [(4, _), (5, _), (0, _), (1, _), (2, _), (3, _)]) dX9_weave_128 1 rfl rfl (by decide) rfl rfl ?_
            refine r_goto (tgt := 39) dX9_weave_131 rfl ?_
            refine aa_locs (ks := [0, 2, 3, 4, 5]) (lv' := [(4, _), (0, _), (1, _), (2, _), (3, _)]) rfl ?_
            exact aa_lv (lv' := [(4, .int (nI (j + 1))), (0, .ref d), (1, .ref (pC D c)), (2, .int (nI f)), (3, .ref z)]) (by rw [nI_succ]; rfl) (ih (j + 1) _ (by omega) (by first | exact h | exact (h.st h.dx.1.1).st h.dx.1.2.2.2.1 | exact ((h.st h.dx.1.1).st h.dx.1.2.2.2.1).st h.dx.1.2.1) (by first | exact K | exact (K.stM h.dx.1.1.1 (Or.inr h.a4.2.1)).stM h.dx.1.2.2.2.1.1 (Or.inl h.a7.2.1) | exact ((K.stM h.dx.1.1.1 (Or.inr h.a4.2.1)).stM h.dx.1.2.2.2.1.1 (Or.inl h.a7.2.1)).stM h.dx.1.2.1.1 (Or.inr h.a5.2.1)))
set_option maxHeartbeats 2000000 in
theorem l_X9_weave2 {Ω : JO} {S : JS} {Q : JQ} {L0 : List Nat} {d e1 e2 n1 n2 f z c : Nat} {D : DP} {S0 : JS} {I0 : JI} (hc : c < 3) (hzA : ArE 11 S z (pW D)) (hm : MU L0 d D z) (hW : pW D ≤ 4) (hH : pH D ≤ 3) (hk : ∀ I, DK Ω L0 S I d D e1 e2 n1 n2 → Kp (MK S0 L0) I0 S0 I S → AA Ω m_X9_weave (FQ Ω m_X9_weave Q) 1 4 199 [(0, .ref d), (1, .ref (pC D c)), (2, .int (nI f)), (3, .ref z)] [] I S) : ∀ (m : Nat) (j : Nat) (I : JI), j + m = pW D → DK Ω L0 S I d D e1 e2 n1 n2 → Kp (MK S0 L0) I0 S0 I S → AA Ω m_X9_weave (FQ Ω m_X9_weave Q) 1 4 137 [(4, .int (nI j)), (0, .ref d), (1, .ref (pC D c)), (2, .int (nI f)), (3, .ref z)] [] I S := by
  intro m
  induction m with
  | zero =>
    intro j I hj h K
    refine r_iload (pc' := 139) dX9_weave_137 0 rfl rfl ?_
    refine r_aload_n (pc' := 140) dX9_weave_139 rfl 1 rfl rfl ?_
    refine r_getO (pc' := 143) dX9_weave_140 fa_X9_54 h.o rfl (h.rr 8 (by decide) (by decide)) rfl ?_
    refine r_alen (pc' := 144) dX9_weave_143 h.a8 (by decide) rfl rfl ?_
    refine r_icmp_ge (tgt := 199) (pc' := 147) dX9_weave_144 rfl rfl (fun h144 => ?_) (fun h144 => ?_)
    · refine aa_locs (ks := [1, 2, 3, 4]) (lv' := [(0, _), (1, _), (2, _), (3, _)]) rfl ?_
      exact hk _ h K
    · exact absurd (show nI (pW D) ≤ nI j from nI_le (by omega) (by omega)) h144
  | succ m ih =>
    intro j I hj h K
    refine r_iload (pc' := 139) dX9_weave_137 0 rfl rfl ?_
    refine r_aload_n (pc' := 140) dX9_weave_139 rfl 1 rfl rfl ?_
    refine r_getO (pc' := 143) dX9_weave_140 fa_X9_54 h.o rfl (h.rr 8 (by decide) (by decide)) rfl ?_
    refine r_alen (pc' := 144) dX9_weave_143 h.a8 (by decide) rfl rfl ?_
    refine r_icmp_ge (tgt := 199) (pc' := 147) dX9_weave_144 rfl rfl (fun h144 => ?_) (fun h144 => ?_)
    · exact absurd h144 (show ¬ nI (pW D) ≤ nI j from nI_ge (by omega) (by omega))
    · obtain ⟨hh, hlt, hon⟩ := h.dv.2.1 j (by omega)
      refine r_aload_n (pc' := 148) dX9_weave_147 rfl 4 rfl rfl ?_
      refine r_iload (pc' := 150) dX9_weave_148 0 rfl rfl ?_
      refine r_aload_n (pc' := 151) dX9_weave_150 rfl 1 rfl rfl ?_
      refine r_getO (pc' := 154) dX9_weave_151 fa_X9_33 h.o rfl (h.rr 4 (by decide) (by decide)) rfl ?_
      refine r_aload_n (pc' := 155) dX9_weave_154 rfl 1 rfl rfl ?_
      refine r_getO (pc' := 158) dX9_weave_155 fa_X9_54 h.o rfl (h.rr 8 (by decide) (by decide)) rfl ?_
      refine r_iload (pc' := 160) dX9_weave_158 0 rfl rfl ?_
      refine r_ialoadN (pc' := 161) dX9_weave_160 h.a8 (show j < pW D by omega) (by omega) ((congrFun h.on j).trans hon) rfl ?_
      refine r_zaload (pc' := 162) dX9_weave_161 h.a4 (vp_nI hlt (by omega)) rfl ?_
      refine r_if_eq (tgt := 189) (pc' := 165) dX9_weave_162 rfl rfl (fun h162 => ?_) (fun h162 => ?_)
      · refine r_iconst (pc' := 190) (v := 2) dX9_weave_189 (by decide) rfl ?_
        refine r_iload_n (pc' := 191) dX9_weave_190 rfl 3 rfl rfl ?_
        refine r_imul (pc' := 192) dX9_weave_191 rfl ?_
        refine r_iastore (pc' := 193) dX9_weave_192 hzA (vp_nI (show j < pW D by omega) (by omega)) rfl ?_
        refine r_iinc (pc' := 196) (lv' := [(4, _), (0, _), (1, _), (2, _), (3, _)]) dX9_weave_193 0 rfl rfl (by decide) rfl rfl ?_
        refine r_goto (tgt := 137) dX9_weave_196 rfl ?_
        exact aa_lv (lv' := [(4, .int (nI (j + 1))), (0, .ref d), (1, .ref (pC D c)), (2, .int (nI f)), (3, .ref z)]) (by rw [nI_succ]; rfl) (ih (j + 1) _ (by omega) (h.st hm) (K.stM hm.1 (Or.inl hzA.2.1)))
      · refine r_aload_n (pc' := 166) dX9_weave_165 rfl 1 rfl rfl ?_
        refine r_getO (pc' := 169) dX9_weave_166 fa_X9_45 h.o rfl (h.rr 6 (by decide) (by decide)) rfl ?_
        refine r_iload (pc' := 171) dX9_weave_169 0 rfl rfl ?_
        refine r_zaload (pc' := 172) dX9_weave_171 h.a6 (vp_nI (show j < pW D by omega) (by omega)) rfl ?_
        refine r_if_ne (tgt := 189) (pc' := 175) dX9_weave_172 rfl rfl (fun h172 => ?_) (fun h172 => ?_)
        · refine r_iconst (pc' := 190) (v := 2) dX9_weave_189 (by decide) rfl ?_
          refine r_iload_n (pc' := 191) dX9_weave_190 rfl 3 rfl rfl ?_
          refine r_imul (pc' := 192) dX9_weave_191 rfl ?_
          refine r_iastore (pc' := 193) dX9_weave_192 hzA (vp_nI (show j < pW D by omega) (by omega)) rfl ?_
          refine r_iinc (pc' := 196) (lv' := [(4, _), (0, _), (1, _), (2, _), (3, _)]) dX9_weave_193 0 rfl rfl (by decide) rfl rfl ?_
          refine r_goto (tgt := 137) dX9_weave_196 rfl ?_
          exact aa_lv (lv' := [(4, .int (nI (j + 1))), (0, .ref d), (1, .ref (pC D c)), (2, .int (nI f)), (3, .ref z)]) (by rw [nI_succ]; rfl) (ih (j + 1) _ (by omega) (h.st hm) (K.stM hm.1 (Or.inl hzA.2.1)))
        · refine r_iconst (pc' := 176) (v := 2) dX9_weave_175 (by decide) rfl ?_
          refine r_aload_n (pc' := 177) dX9_weave_176 rfl 1 rfl rfl ?_
          refine r_getO (pc' := 180) dX9_weave_177 fa_X9_57 h.o rfl (h.rr 9 (by decide) (by decide)) rfl ?_
          refine r_iload (pc' := 182) dX9_weave_180 0 rfl rfl ?_
          refine r_iaload (pc' := 183) dX9_weave_182 h.a9 (vp_nI (show j < pW D by omega) (by omega)) rfl ?_
          refine r_imul (pc' := 184) dX9_weave_183 rfl ?_
          refine r_iconst (pc' := 185) (v := 1) dX9_weave_184 (by decide) rfl ?_
          refine r_iadd (pc' := 186) dX9_weave_185 rfl ?_
          refine r_goto (tgt := 192) dX9_weave_186 rfl ?_
          refine r_iastore (pc' := 193) dX9_weave_192 hzA (vp_nI (show j < pW D by omega) (by omega)) rfl ?_
          refine r_iinc (pc' := 196) (lv' := [(4, _), (0, _), (1, _), (2, _), (3, _)]) dX9_weave_193 0 rfl rfl (by decide) rfl rfl ?_
          refine r_goto (tgt := 137) dX9_weave_196 rfl ?_
          exact aa_lv (lv' := [(4, .int (nI (j + 1))), (0, .ref d), (1, .ref (pC D c)), (2, .int (nI f)), (3, .ref z)]) (by rw [nI_succ]; rfl) (ih (j + 1) _ (by omega) (h.st hm) (K.stM hm.1 (Or.inl hzA.2.1)))
set_option maxHeartbeats 2000000 in
theorem l_X9_weave3 {Ω : JO} {S : JS} {Q : JQ} {L0 : List Nat} {d e1 e2 n1 n2 : Nat} {D : DP} {S0 : JS} {I0 : JI} (hW : pW D ≤ 4) (hs3 : pst D ≤ 3) (hn : n1 ≤ 10) (hk : ∀ I, DK Ω L0 S I d D e1 e2 n1 n2 → Kp (MK S0 L0) I0 S0 I S → Q (.inl none) I S) : ∀ (m : Nat) (j : Nat) (I : JI), j + m = pW D → DK Ω L0 S I d D e1 e2 n1 n2 → Kp (MK S0 L0) I0 S0 I S → AA Ω m_X9_weave (FQ Ω m_X9_weave Q) 3 204 223 [(4, .int (nI j)), (0, .ref d)] [] I S := by
  intro m
  induction m with
  | zero =>
    intro j I hj h K
    refine r_iload (pc' := 225) dX9_weave_223 0 rfl rfl ?_
    refine r_aload_n (pc' := 226) dX9_weave_225 rfl 1 rfl rfl ?_
    refine r_getO (pc' := 229) dX9_weave_226 fa_X9_54 h.o rfl (h.rr 8 (by decide) (by decide)) rfl ?_
    refine r_alen (pc' := 230) dX9_weave_229 h.a8 (by decide) rfl rfl ?_
    refine r_icmp_ge (tgt := 277) (pc' := 233) dX9_weave_230 rfl rfl (fun h230 => ?_) (fun h230 => ?_)
    · exact r_ret dX9_weave_277 rfl (by decide) (by decide) (hk _ h K)
    · exact absurd (show nI (pW D) ≤ nI j from nI_le (by omega) (by omega)) h230
  | succ m ih =>
    intro j I hj h K
    refine r_iload (pc' := 225) dX9_weave_223 0 rfl rfl ?_
    refine r_aload_n (pc' := 226) dX9_weave_225 rfl 1 rfl rfl ?_
    refine r_getO (pc' := 229) dX9_weave_226 fa_X9_54 h.o rfl (h.rr 8 (by decide) (by decide)) rfl ?_
    refine r_alen (pc' := 230) dX9_weave_229 h.a8 (by decide) rfl rfl ?_
    refine r_icmp_ge (tgt := 277) (pc' := 233) dX9_weave_230 rfl rfl (fun h230 => ?_) (fun h230 => ?_)
    · exact absurd h230 (show ¬ nI (pW D) ≤ nI j from nI_ge (by omega) (by omega))
    · refine r_aload_n (pc' := 234) dX9_weave_233 rfl 1 rfl rfl ?_
      refine r_getIv (pc' := 237) dX9_weave_234 fa_X9_30 h.o rfl h.f2 rfl ?_
      refine r_if_le (tgt := 277) (pc' := 240) dX9_weave_237 rfl rfl (fun h237 => ?_) (fun h237 => ?_)
      · exact r_ret dX9_weave_277 rfl (by decide) (by decide) (hk _ h K)
      · refine r_aload_n (pc' := 241) dX9_weave_240 rfl 1 rfl rfl ?_
        refine r_getO (pc' := 244) dX9_weave_241 fa_X9_16 h.o rfl (h.rr 13 (by decide) (by decide)) rfl ?_
        refine r_callV (pc' := 247) (k' := 3) (n' := 204) (nn := 0) (As := []) (rest := []) dX9_weave_244 mb_Jx4a65c_size_8abf5 mi_Jx4a65c_size_8abf5 h.l13.1 (by decide) rfl lk_X9_70 rfl rfl rfl rfl rfl (Nat.le_of_ble_eq_true rfl) rfl (c_Jx4a65c_size_8abf5 h.l13 (cpI ?_))
        refine r_aload_n (pc' := 248) dX9_weave_247 rfl 1 rfl rfl ?_
        refine r_getIv (pc' := 251) dX9_weave_248 fa_X9_30 h.o rfl h.f2 rfl ?_
        refine r_icmp_lt (tgt := 277) (pc' := 254) dX9_weave_251 rfl rfl (fun h251 => ?_) (fun h251 => ?_)
        · exact r_ret dX9_weave_277 rfl (by decide) (by decide) (hk _ h K)
        · have hst : pst D ≤ n1 := Nat.not_lt.mp fun q => h251 (nI_lt q (by omega))
          refine r_aload_n (pc' := 255) dX9_weave_254 rfl 1 rfl rfl ?_
          refine r_iload (pc' := 257) dX9_weave_255 0 rfl rfl ?_
          refine r_callV (pc' := 260) (k' := 3) (n' := 204) (nn := 1) (As := [_]) (rest := []) dX9_weave_257 mb_X9_tight mi_X9_tight h.o (by decide) rfl lk_X9_95 rfl rfl rfl rfl rfl (Nat.le_of_ble_eq_true rfl) rfl (c_X9_tight h (show j < pW D by omega) hst (fun b hb => (cpI ?_)))
          refine r_if_eq (tgt := 271) (pc' := 263) dX9_weave_260 rfl rfl (fun h260 => ?_) (fun h260 => ?_)
          · refine r_iinc (pc' := 274) (lv' := [(4, _), (0, _)]) dX9_weave_271 0 rfl rfl (by decide) rfl rfl ?_
            refine r_goto (tgt := 223) dX9_weave_274 rfl ?_
            exact aa_lv (lv' := [(4, .int (nI (j + 1))), (0, .ref d)]) (by rw [nI_succ]; rfl) (ih (j + 1) _ (by omega) (by first | exact h | exact h.st h.dx.1.2.2.1) (by first | exact K | exact K.stM h.dx.1.2.2.1.1 (Or.inr h.a6.2.1)))
          · refine r_aload_n (pc' := 264) dX9_weave_263 rfl 1 rfl rfl ?_
            refine r_getO (pc' := 267) dX9_weave_264 fa_X9_45 h.o rfl (h.rr 6 (by decide) (by decide)) rfl ?_
            refine r_iload (pc' := 269) dX9_weave_267 0 rfl rfl ?_
            refine r_iconst (pc' := 270) (v := 1) dX9_weave_269 (by decide) rfl ?_
            refine r_zastore (pc' := 271) dX9_weave_270 h.a6 (vp_nI (show j < pW D by omega) (by omega)) rfl ?_
            refine r_iinc (pc' := 274) (lv' := [(4, _), (0, _)]) dX9_weave_271 0 rfl rfl (by decide) rfl rfl ?_
            refine r_goto (tgt := 223) dX9_weave_274 rfl ?_
            exact aa_lv (lv' := [(4, .int (nI (j + 1))), (0, .ref d)]) (by rw [nI_succ]; rfl) (ih (j + 1) _ (by omega) (by first | exact h | exact h.st h.dx.1.2.2.1) (by first | exact K | exact K.stM h.dx.1.2.2.1.1 (Or.inr h.a6.2.1)))
set_option maxHeartbeats 2000000 in
theorem c_X9_weave {Ω : JO} {I : JI} {S : JS} {Q : JQ} {L0 : List Nat} {d e1 e2 n : Nat} {D : DP} (h : DK Ω L0 S I d D e1 e2 n n) (hL : ∀ x, x ∈ L0 → x ∈ sL S) (hn : n < 9) (hQ : ∀ e1' e2' I' S', DK Ω L0 S' I' d D e1' e2' (n + 1) (n + 1) → Kp (MK S L0) I S I' S' → Q (.inl none) I' S') : Call Ω m_X9_weave [.ref d] I S Q := by
  refine call_of (by decide +kernel) rfl (Nat.le_of_ble_eq_true rfl) ?_
  change AA Ω m_X9_weave (FQ Ω m_X9_weave Q) 0 0 0 [(0, .ref d)] [] I S
  obtain ⟨⟨v1, v2, v3, v4, v5⟩, v6, v7, v8⟩ := h.dv
  obtain ⟨c, hc, hpk⟩ := v7 n (by omega)
  obtain ⟨f, hf, hcd⟩ := v8 c hc
  refine r_aload_n (pc' := 1) dX9_weave_0 rfl 0 rfl rfl ?_
  refine r_getO (pc' := 4) dX9_weave_1 fa_X9_63 h.o rfl (h.rr 11 (by decide) (by decide)) rfl ?_
  refine r_aload_n (pc' := 5) dX9_weave_4 rfl 0 rfl rfl ?_
  refine r_callV (pc' := 8) (k' := 0) (n' := 0) (nn := 0) (As := []) (rest := [_]) dX9_weave_5 mb_X9_next mi_X9_next h.o (by decide) rfl lk_X9_84 rfl rfl rfl rfl rfl (Nat.le_of_ble_eq_true rfl) rfl (c_X9_next h (by omega) hpk (cpI ?_))
  refine r_aald20N (pc' := 9) dX9_weave_8 h.a11 hc (by decide) (h.cr c hc).1 rfl ?_
  refine r_astore_n (pc' := 10) (lv' := [(1, _), (0, _)]) dX9_weave_9 rfl (by decide) rfl rfl ?_
  refine r_aload_n (pc' := 11) dX9_weave_10 rfl 0 rfl rfl ?_
  refine r_iconst (pc' := 12) (v := 1) dX9_weave_11 (by decide) rfl ?_
  refine r_ialoadN (pc' := 13) dX9_weave_12 (h.cr c hc).2.1 (show 1 < 4 by decide) (by omega) ((congrFun (h.cr c hc).2.2 1).trans hcd) rfl ?_
  refine r_istore_n (pc' := 14) (lv' := [(2, _), (1, _), (0, _)]) dX9_weave_13 rfl (by decide) rfl rfl ?_
  refine r_aload_n (pc' := 15) dX9_weave_14 rfl 2 rfl rfl ?_
  refine r_getO (pc' := 18) dX9_weave_15 fa_X9_54 h.o rfl (h.rr 8 (by decide) (by decide)) rfl ?_
  refine r_alen (pc' := 19) dX9_weave_18 h.a8 (by decide) rfl rfl ?_
  refine r_newIG (pc' := 21) (N := (pW D)) dX9_weave_19 (nI_pos (by omega)) (nI_clamp (by omega)) (by omega) (Nat.le_of_ble_eq_true rfl) (show 0 + pW D ≤ 300 from by omega) rfl (fun z hz => aa_widen (k' := 1) (n' := 4) (by decide) (by omega) ?_)
  have hz2 : z ∉ sL S := notin_of hz
  have hm := h.mz hL hz2
  have K : Kp (MK S L0) I S (nwI I z) (nwN S z 11 (pW D)) := Kp.nw hz2
  replace h := h.kp (Kp.nw hz2 : Kp (fun _ => False) I S (nwI I z) (nwN S z 11 (pW D))) rfl
  have hzA : ArE 11 (nwN S z 11 (pW D)) z (pW D) := nwN_ar
  have hL : ∀ x, x ∈ L0 → x ∈ sL (nwN S z 11 (pW D)) := fun x q => List.mem_append_left _ (hL x q)
  refine r_astore_n (pc' := 22) (lv' := [(3, _), (2, _), (1, _), (0, _)]) dX9_weave_21 rfl (by decide) rfl rfl ?_
  refine r_aload_n (pc' := 23) dX9_weave_22 rfl 3 rfl rfl ?_
  refine r_getO (pc' := 26) dX9_weave_23 fa_X9_60 h.o rfl (h.rr 10 (by decide) (by decide)) rfl ?_
  refine r_iload_n (pc' := 27) dX9_weave_26 rfl 1 rfl rfl ?_
  refine r_dup2 (pc' := 28) dX9_weave_27 rfl rfl rfl ?_
  refine r_iaload (pc' := 29) dX9_weave_28 h.a10 (vp_nI (show f < 6 by omega) (by omega)) rfl ?_
  refine r_aload_n (pc' := 30) dX9_weave_29 rfl 3 rfl rfl ?_
  refine r_getO (pc' := 33) dX9_weave_30 fa_X9_54 h.o rfl (h.rr 8 (by decide) (by decide)) rfl ?_
  refine r_alen (pc' := 34) dX9_weave_33 h.a8 (by decide) rfl rfl ?_
  refine r_isub (pc' := 35) dX9_weave_34 rfl ?_
  refine r_iastore (pc' := 36) dX9_weave_35 h.a10 (vp_nI (show f < 6 by omega) (by omega)) rfl ?_
  refine r_iconst (pc' := 37) (v := 0) dX9_weave_36 (by decide) rfl ?_
  refine r_istore (pc' := 39) (lv' := [(4, _), (3, _), (2, _), (1, _), (0, _)]) dX9_weave_37 (by decide) rfl rfl ?_
  refine aa_locs (ks := [0, 4, 3, 2, 1]) (lv' := [(4, _), (0, _), (1, _), (2, _), (3, _)]) rfl ?_
  refine l_X9_weave1 hc v1 (fun I h K => ?_) (pH D) 0 _ (by omega) (h.st h.dx.1.2.2.2.2) (K.stM h.dx.1.2.2.2.2.1 (Or.inl h.a10.2.1))
  refine r_iconst (pc' := 135) (v := 0) dX9_weave_134 (by decide) rfl ?_
  refine r_istore (pc' := 137) (lv' := [(4, _), (0, _), (1, _), (2, _), (3, _)]) dX9_weave_135 (by decide) rfl rfl ?_
  refine l_X9_weave2 hc hzA hm v2 v1 (fun I h K => ?_) (pW D) 0 _ (by omega) h K
  refine aa_oE fun hE => ?_
  refine r_aload_n (pc' := 200) dX9_weave_199 rfl 0 rfl rfl ?_
  refine r_getO (pc' := 203) dX9_weave_200 fa_X9_16 h.o rfl (h.rr 13 (by decide) (by decide)) rfl ?_
  refine r_aload_n (pc' := 204) dX9_weave_203 rfl 3 rfl rfl ?_
  refine r_callV (pc' := 207) (k' := 2) (n' := 104) (nn := 1) (As := [_]) (rest := []) dX9_weave_204 mb_Jx4a65c_add_9ea2d mi_Jx4a65c_add_9ea2d h.l13.1 (by decide) rfl lk_X9_78 rfl rfl rfl rfl rfl (Nat.le_of_ble_eq_true rfl) rfl (c_Jx4a65c_add_9ea2d h.l13 hL (by omega) (Or.inl ⟨hzA.1, hzA.2.1⟩) (fun e1' I1 S1 a1 a2 a3 a4 a5 => (cpI ?_)))
  have h1 := h.addR hE hzA a1 a2 a3 a4 a5
  have K1 := K.ext a3 (fun c hc q => q.elim (fun q => by subst q; exact ⟨h.dx.2.1, Or.inr (Or.inr (Or.inl h.l13.1.2))⟩) (fun q => ⟨q.2.1, Or.inr (Or.inr (Or.inr q.2.2))⟩))
  have hL1 : ∀ x, x ∈ L0 → x ∈ sL S1 := fun x q => (a3 x (hL x q)).1
  refine aa_oE fun hE1 => ?_
  refine r_pop (pc' := 208) dX9_weave_207 rfl rfl ?_
  refine r_aload_n (pc' := 209) dX9_weave_208 rfl 0 rfl rfl ?_
  refine r_getO (pc' := 212) dX9_weave_209 fa_X9_20 h1.o rfl (h1.rr 14 (by decide) (by decide)) rfl ?_
  refine r_iload_n (pc' := 213) dX9_weave_212 rfl 2 rfl rfl ?_
  refine r_callS (pc' := 216) (k' := 2) (n' := 104) (nn := 1) (As := [_]) (rest := [_]) dX9_weave_213 mb_J6_valueOf_2dffe ms_J6_valueOf_2dffe lk_X9_91 rfl rfl rfl rfl rfl (Nat.le_of_ble_eq_true rfl) rfl (c_J6_valueOf_2dffe hf (cpR ?_))
  refine r_callV (pc' := 219) (k' := 3) (n' := 204) (nn := 1) (As := [_]) (rest := []) dX9_weave_216 mb_Jx4a65c_add_9ea2d mi_Jx4a65c_add_9ea2d h1.l14.1 (by decide) rfl lk_X9_78 rfl rfl rfl rfl rfl (Nat.le_of_ble_eq_true rfl) rfl (c_Jx4a65c_add_9ea2d h1.l14 hL1 (by omega) (Or.inr ⟨_, by omega, rfl⟩) (fun e2' I2 S2 b1 b2 b3 b4 b5 => (cpI ?_)))
  have h2 := h1.addW hE1 hf b1 b2 b3 b4 b5
  have K2 := K1.ext b3 (fun c hc q => q.elim (fun q => by subst q; exact ⟨h1.dx.2.2.1, Or.inr (Or.inr (Or.inl h1.l14.1.2))⟩) (fun q => ⟨q.2.1, Or.inr (Or.inr (Or.inr q.2.2))⟩))
  refine r_pop (pc' := 220) dX9_weave_219 rfl rfl ?_
  refine r_iconst (pc' := 221) (v := 0) dX9_weave_220 (by decide) rfl ?_
  refine r_istore (pc' := 223) (lv' := [(4, _), (0, _), (1, _), (2, _), (3, _)]) dX9_weave_221 (by decide) rfl rfl ?_
  refine aa_locs (ks := [0, 1]) (lv' := [(4, _), (0, _)]) rfl ?_
  exact l_X9_weave3 v2 v5 (by omega) (fun I h K => hQ _ _ _ _ h K) (pW D) 0 _ (by omega) h2 K2
set_option maxHeartbeats 2000000 in
theorem l_X9_weaves {Ω : JO} {Q : JQ} {L0 : List Nat} {d many : Nat} {D : DP} {S0 : JS} {I0 : JI} (hm : many ≤ 8) (hQ : ∀ r e1' e2' I' S', r ≤ many → (0 < many → YC D I0 → (∀ c, c < 3 → ppk D 0 = nI c → ¬ nI (pmt D) < upI (pcd D c 0) (pon D) (pW D)) → 0 < r) → (r = many → ∀ i c, i < many → c < 3 → ppk D i = nI c → ¬ nI (pmt D) < upI (pcd D c 0) (pon D) (pW D)) → DK Ω L0 S' I' d D e1' e2' r r → Kp (MK S0 L0) I0 S0 I' S' → Q (.inl (some (.int (nI r)))) I' S') : ∀ (m j : Nat) (e1 e2 : Nat) (I : JI) (S : JS), j + m = many → (∀ x, x ∈ L0 → x ∈ sL S) → DK Ω L0 S I d D e1 e2 j j → Kp (MK S0 L0) I0 S0 I S → (∀ i c, i < j → c < 3 → ppk D i = nI c → ¬ nI (pmt D) < upI (pcd D c 0) (pon D) (pW D)) → (j = 0 → YC D I0 → YC D I) → AA Ω m_X9_weaves (FQ Ω m_X9_weaves Q) (20 * j) (300 * j) 2 [(2, .int (nI j)), (0, .ref d), (1, .int (nI many))] [] I S := by
  intro m
  induction m with
  | zero =>
    intro j e1 e2 I S hj hL h K hp hy
    refine aa_widen (k' := 1000) (n' := 20000) (by omega) (by omega) ?_
    refine r_iload_n (pc' := 3) dX9_weaves_2 rfl 0 rfl rfl ?_
    refine r_iload_n (pc' := 4) dX9_weaves_3 rfl 2 rfl rfl ?_
    refine r_icmp_ge (tgt := 24) (pc' := 7) dX9_weaves_4 rfl rfl (fun h4 => ?_) (fun h4 => ?_)
    · refine r_iload_n (pc' := 25) dX9_weaves_24 rfl 0 rfl rfl ?_
      exact r_iret dX9_weaves_25 rfl (by decide) (by decide) (hQ j _ _ _ _ (by omega) (fun h1 _ _ => by omega) (fun e => by rw [← e]; exact hp) h K)
    · exact absurd (show nI many ≤ nI j from nI_le (by omega) (by omega)) h4
  | succ m ih =>
    intro j e1 e2 I S hj hL h K hp hy
    have v := h.dv
    obtain ⟨c, hc, hpk⟩ := v.2.2.1 j (by have := v.1.2.2.1; omega)
    refine r_iload_n (pc' := 3) dX9_weaves_2 rfl 0 rfl rfl ?_
    refine r_iload_n (pc' := 4) dX9_weaves_3 rfl 2 rfl rfl ?_
    refine r_icmp_ge (tgt := 24) (pc' := 7) dX9_weaves_4 rfl rfl (fun h4 => ?_) (fun h4 => ?_)
    · exact absurd h4 (show ¬ nI many ≤ nI j from nI_ge (by omega) (by omega))
    · refine r_aload_n (pc' := 8) dX9_weaves_7 rfl 1 rfl rfl ?_
      refine r_callV (pc' := 11) (k' := 20 * j) (n' := 300 * j) (nn := 0) (As := []) (rest := []) dX9_weaves_8 mb_X9_why mi_X9_why h.o (by decide) rfl lk_X9_99 rfl rfl (roomB_mk (by decide) (by decide) (show 20 * j + 0 ≤ 1000 by omega) (show 300 * j + 0 ≤ 20000 by omega)) rfl rfl (Nat.le_of_ble_eq_true rfl) rfl (c_X9_why h (by omega) hc hpk (fun r hr hr2 => cpI ?_))
      refine r_if_ne (tgt := 24) (pc' := 14) dX9_weaves_11 rfl rfl (fun h11 => ?_) (fun h11 => ?_)
      · refine aa_widen (k' := 1000) (n' := 20000) (by omega) (by omega) ?_
        refine r_iload_n (pc' := 25) dX9_weaves_24 rfl 0 rfl rfl ?_
        exact r_iret dX9_weaves_25 rfl (by decide) (by decide) (hQ j _ _ _ _ (by omega) (fun h1 h2 h3 => by rcases Nat.eq_zero_or_pos j with e | e; exact absurd (hr2 (hy e h2) (h3 c hc (by rw [← e]; exact hpk))) h11; exact e) (fun e => absurd e (by omega)) h K)
      · refine r_aload_n (pc' := 15) dX9_weaves_14 rfl 1 rfl rfl ?_
        refine r_callV (pc' := 18) (k' := 20 * (j + 1)) (n' := 300 * (j + 1)) (nn := 0) (As := []) (rest := []) dX9_weaves_15 mb_X9_weave mi_X9_weave h.o (by decide) rfl lk_X9_102 rfl rfl (roomB_mk (by decide) (by decide) (show 20 * j + 20 ≤ 1000 by omega) (show 300 * j + 300 ≤ 20000 by omega)) rfl rfl (Nat.le_of_ble_eq_true rfl) rfl (c_X9_weave h hL (by omega) (fun e1' e2' I' S' h' K' => cpV ?_))
        refine r_iinc (pc' := 21) (lv' := [(2, _), (0, _), (1, _)]) dX9_weaves_18 0 rfl rfl (by decide) rfl rfl ?_
        refine r_goto (tgt := 2) dX9_weaves_21 rfl ?_
        refine aa_lv (lv' := [(2, .int (nI (j + 1))), (0, .ref d), (1, .int (nI many))]) (by rw [nI_succ]; rfl) (ih (j + 1) _ _ _ _ (by omega) (fun x q => (K' x (hL x q)).1) h' (K.ext K' fun c _ q => q) ?_ (fun e => absurd e (by omega)))
        intro i c' hi hc' hq
        by_cases e : i = j
        · subst e
          have e2 : c' = c := (nI_eq (by omega) (by omega)).mp (hq.symm.trans hpk)
          rw [e2]; exact hr h11
        · exact hp i c' (by omega) hc' hq
set_option maxHeartbeats 2000000 in
theorem c_X9_weaves {Ω : JO} {I : JI} {S : JS} {Q : JQ} {L0 : List Nat} {d e1 e2 many : Nat} {D : DP} (h : DK Ω L0 S I d D e1 e2 0 0) (hL : ∀ x, x ∈ L0 → x ∈ sL S) (hm : many ≤ 8) (hQ : ∀ r e1' e2' I' S', r ≤ many → (0 < many → YC D I → (∀ c, c < 3 → ppk D 0 = nI c → ¬ nI (pmt D) < upI (pcd D c 0) (pon D) (pW D)) → 0 < r) → (r = many → ∀ i c, i < many → c < 3 → ppk D i = nI c → ¬ nI (pmt D) < upI (pcd D c 0) (pon D) (pW D)) → DK Ω L0 S' I' d D e1' e2' r r → Kp (MK S L0) I S I' S' → Q (.inl (some (.int (nI r)))) I' S') : Call Ω m_X9_weaves [.ref d, .int (nI many)] I S Q := by
  refine call_of (by decide +kernel) rfl (Nat.le_of_ble_eq_true rfl) ?_
  change AA Ω m_X9_weaves (FQ Ω m_X9_weaves Q) 0 0 0 [(0, .ref d), (1, .int (nI many))] [] I S
  refine r_iconst (pc' := 1) (v := 0) dX9_weaves_0 (by decide) rfl ?_
  refine r_istore_n (pc' := 2) (lv' := [(2, _), (0, _), (1, _)]) dX9_weaves_1 rfl (by decide) rfl rfl ?_
  exact l_X9_weaves hm hQ many 0 _ _ _ _ (by omega) hL h Kp.rf (fun i c hi => absurd hi (Nat.not_lt_zero i)) (fun _ h => h)
section DKU
variable {Ω : JO} {L0 : List Nat} {S S' : JS} {I I' : JI} {d e1 e2 m n2 : Nat} {D : DP}
theorem DK.remR (h : DK Ω L0 S I d D e1 e2 (m + 1) n2) (hA : AL Ω L0 S' I' (pA D 13) e1 m) (x : Kp (fun c => c = pA D 13 ∨ (c = e1 ∧ c ∉ L0 ∧ sK S c = 19)) I S I' S') (hlo : ∀ i, i < m → sR S' e1 i = sR S e1 i) (hE : oE Ω ∉ sL S) : DK Ω L0 S' I' d D e1 e2 m n2 := by
  have hT : sT S' = none := hA.2.2.2.1
  have k13 : sK S (pA D 13) = 18 := h.l13.1.2
  have np : ∀ c y, sK S c = y → y ≠ 18 → y ≠ 19 → ¬ (c = pA D 13 ∨ (c = e1 ∧ c ∉ L0 ∧ sK S c = 19)) := fun c y hy h1 h2 q => q.elim (fun e => h1 (by rw [← hy, e, k13])) (fun e => h2 (by rw [← hy, e.2.2]))
  have p14 : ¬ (pA D 14 = pA D 13 ∨ (pA D 14 = e1 ∧ pA D 14 ∉ L0 ∧ sK S (pA D 14) = 19)) := fun q => q.elim (fun e => h.dx.2.2.2 e.symm) (fun e => absurd (h.l14.1.2.symm.trans e.2.2) (by decide))
  have he2 : e2 ∈ sL S → ¬ (e2 = pA D 13 ∨ (e2 = e1 ∧ e2 ∉ L0 ∧ sK S e2 = 19)) := fun hm q => by
    rcases h.l14.2.2.2.2 with ⟨_, g⟩ | ⟨g, _, _⟩
    · exact hE (g ▸ hm)
    · rcases q with q | q
      · exact absurd (g.2.1.symm.trans (q ▸ k13)) (by decide)
      · rcases h.ne with h1 | h1
        · exact h1 q.1.symm
        · exact hE (h1 ▸ q.1 ▸ hm)
  refine ⟨x.o h.o, fun j h1 h2 => by rw [x.gR h.o.1 (np d 9 h.o.2 (by decide) (by decide))]; exact h.rr j h1 h2, ⟨x.ar hT h.a4, x.ar hT h.a5, x.ar hT h.a6, x.ar hT h.a7, x.ar hT h.a8, x.ar hT h.a9, x.ar hT h.a10, x.ar hT h.a11, x.ar hT h.a12⟩, fun k hk => ?_, ?_, ⟨hA, fun i hi => ?_⟩, ⟨h.l14.kp x hT p14, h.ewk x he2⟩, h.ne, h.dx, h.dv⟩
  · obtain ⟨c1, c2, c3⟩ := h.cr k hk
    exact ⟨by rw [x.gR h.a11.1 (np _ 20 h.a11.2.1 (by decide) (by decide))]; exact c1, x.ar hT c2, by rw [x.gI c2.1 (np _ 11 c2.2.1 (by decide) (by decide))]; exact c3⟩
  · have ed : I' d = I d := x.gI h.o.1 (np d 9 h.o.2 (by decide) (by decide))
    exact ⟨by rw [ed]; exact h.f0, by rw [ed]; exact h.f2, by rw [ed]; exact h.f3, by rw [x.gI h.a8.1 (np _ 11 h.a8.2.1 (by decide) (by decide))]; exact h.on, by rw [x.gI h.a12.1 (np _ 11 h.a12.2.1 (by decide) (by decide))]; exact h.pk⟩
  · obtain ⟨r, g1, g2⟩ := h.el i (by omega)
    exact ⟨r, by rw [hlo i hi]; exact g1, x.ar hT g2⟩
end DKU
section BXR
variable {Ω : JO} {Y Z : JM} {F : JF} {k n k' n' pc pc' : Nat} {lv lv' : List (Nat × Value)} {st rest : List Value} {I : JI} {S : JS}
end BXR
set_option maxHeartbeats 2000000 in
theorem c_X9_unweave {Ω : JO} {I : JI} {S : JS} {Q : JQ} {L0 : List Nat} {d e1 e2 m : Nat} {D : DP} (h : DK Ω L0 S I d D e1 e2 (m + 1) (m + 1)) (hQ : ∀ I' S', Kp (MK S L0) I S I' S' → sT S' = none → Q (.inl none) I' S') : Call Ω m_X9_unweave [.ref d, .int 1] I S Q := by
  refine call_of (by decide +kernel) rfl (Nat.le_of_ble_eq_true rfl) ?_
  change AA Ω m_X9_unweave (FQ Ω m_X9_unweave Q) 0 0 0 [(0, .ref d), (1, .int 1)] [] I S
  refine aa_oE fun hE => ?_
  obtain ⟨r, hr, hrA⟩ := h.el m (by omega)
  have n10 := h.l13.n10
  refine r_iconst (pc' := 1) (v := 0) dX9_unweave_0 (by decide) rfl ?_
  refine r_istore_n (pc' := 2) (lv' := [(2, _), (0, _), (1, _)]) dX9_unweave_1 rfl (by decide) rfl rfl ?_
  refine r_iload_n (pc' := 3) dX9_unweave_2 rfl 0 rfl rfl ?_
  refine r_iload_n (pc' := 4) dX9_unweave_3 rfl 2 rfl rfl ?_
  refine r_icmp_ge (tgt := 68) (pc' := 7) dX9_unweave_4 rfl rfl (fun h4 => ?_) (fun h4 => ?_)
  · exact absurd h4 (by decide)
  · refine r_aload_n (pc' := 8) dX9_unweave_7 rfl 1 rfl rfl ?_
    refine r_getO (pc' := 11) dX9_unweave_8 fa_X9_16 h.o rfl (h.rr 13 (by decide) (by decide)) rfl ?_
    refine r_aload_n (pc' := 12) dX9_unweave_11 rfl 1 rfl rfl ?_
    refine r_getO (pc' := 15) dX9_unweave_12 fa_X9_16 h.o rfl (h.rr 13 (by decide) (by decide)) rfl ?_
    refine r_callV (pc' := 18) (k' := 0) (n' := 0) (nn := 0) (As := []) (rest := [_]) dX9_unweave_15 mb_Jx4a65c_size_8abf5 mi_Jx4a65c_size_8abf5 h.l13.1 (by decide) rfl lk_X9_70 rfl rfl rfl rfl rfl (Nat.le_of_ble_eq_true rfl) rfl (c_Jx4a65c_size_8abf5 h.l13 (cpI ?_))
    refine r_iconst (pc' := 19) (v := 1) dX9_unweave_18 (by decide) rfl ?_
    refine r_isubv (pc' := 20) dX9_unweave_19 (nI_sub (show 1 ≤ m + 1 by omega)) rfl ?_
    refine r_callV (pc' := 23) (k' := 0) (n' := 0) (nn := 1) (As := [_]) (rest := []) dX9_unweave_20 mb_Jx4a65c_remove_915e3 mi_Jx4a65c_remove_915e3 h.l13.1 (by decide) rfl lk_X9_105 rfl rfl rfl rfl rfl (Nat.le_of_ble_eq_true rfl) rfl (c_Jx4a65c_remove_915e3 h.l13 hr (fun I1 S1 a1 a2 a3 => (cpR ?_)))
    have h1 := h.remR a1 a2 a3 hE
    have K1 : Kp (MK S L0) I S I1 S1 := Kp.rf.ext a2 (fun c hc q => q.elim (fun q => by subst q; exact ⟨h.dx.2.1, Or.inr (Or.inr (Or.inl h.l13.1.2))⟩) (fun q => ⟨q.2.1, Or.inr (Or.inr (Or.inr q.2.2))⟩))
    have hrA1 : ArE 11 S1 r (pW D) := a2.ar a1.2.2.2.1 hrA
    obtain ⟨c0, hc0, hb0⟩ := h1.ew m (by omega)
    refine r_cast11 (pc' := 26) dX9_unweave_23 cw_X9_53 hrA1 rfl ?_
    refine r_astore_n (pc' := 27) (lv' := [(3, _), (2, _), (0, _), (1, _)]) dX9_unweave_26 rfl (by decide) rfl rfl ?_
    refine r_aload_n (pc' := 28) dX9_unweave_27 rfl 2 rfl rfl ?_
    refine r_getO (pc' := 31) dX9_unweave_28 fa_X9_60 h1.o rfl (h1.rr 10 (by decide) (by decide)) rfl ?_
    refine r_aload_n (pc' := 32) dX9_unweave_31 rfl 2 rfl rfl ?_
    refine r_getO (pc' := 35) dX9_unweave_32 fa_X9_20 h1.o rfl (h1.rr 14 (by decide) (by decide)) rfl ?_
    refine r_aload_n (pc' := 36) dX9_unweave_35 rfl 2 rfl rfl ?_
    refine r_getO (pc' := 39) dX9_unweave_36 fa_X9_20 h1.o rfl (h1.rr 14 (by decide) (by decide)) rfl ?_
    refine r_callV (pc' := 42) (k' := 0) (n' := 0) (nn := 0) (As := []) (rest := [_, _]) dX9_unweave_39 mb_Jx4a65c_size_8abf5 mi_Jx4a65c_size_8abf5 h1.l14.1 (by decide) rfl lk_X9_70 rfl rfl rfl rfl rfl (Nat.le_of_ble_eq_true rfl) rfl (c_Jx4a65c_size_8abf5 h1.l14 (cpI ?_))
    refine r_iconst (pc' := 43) (v := 1) dX9_unweave_42 (by decide) rfl ?_
    refine r_isubv (pc' := 44) dX9_unweave_43 (nI_sub (show 1 ≤ m + 1 by omega)) rfl ?_
    refine r_callV (pc' := 47) (k' := 0) (n' := 0) (nn := 1) (As := [_]) (rest := [_]) dX9_unweave_44 mb_Jx4a65c_remove_915e3 mi_Jx4a65c_remove_915e3 h1.l14.1 (by decide) rfl lk_X9_105 rfl rfl rfl rfl rfl (Nat.le_of_ble_eq_true rfl) rfl (c_Jx4a65c_remove_915e3 h1.l14 hb0 (fun I2 S2 b1 b2 b3 => (cpR ?_)))
    have K2 : Kp (MK S L0) I S I2 S2 := K1.ext b2 (fun c hc q => q.elim (fun q => by subst q; exact ⟨h1.dx.2.2.1, Or.inr (Or.inr (Or.inl h1.l14.1.2))⟩) (fun q => ⟨q.2.1, Or.inr (Or.inr (Or.inr q.2.2))⟩))
    have hT2 : sT S2 = none := b1.2.2.2.1
    have p10 : ¬ (pA D 10 = pA D 14 ∨ (pA D 10 = e2 ∧ pA D 10 ∉ L0 ∧ sK S1 (pA D 10) = 19)) := fun q => q.elim h1.dx.1.2.2.2.2.2.2.2.2.2.1 (fun q => absurd (h1.a10.2.1.symm.trans q.2.2) (by decide))
    have a10 : ArE 11 S2 (pA D 10) 6 := b2.ar hT2 h1.a10
    have pd : ¬ (d = pA D 14 ∨ (d = e2 ∧ d ∉ L0 ∧ sK S1 d = 19)) := fun q => q.elim (fun e => absurd (h1.o.2.symm.trans (e ▸ h1.l14.1.2)) (by decide)) (fun q => absurd (h1.o.2.symm.trans q.2.2) (by decide))
    have od2 := b2.o h1.o
    have rr2 : sR S2 d 8 = some (pA D 8) := by rw [b2.gR h1.o.1 pd]; exact h1.rr 8 (by decide) (by decide)
    have a82 : ArE 11 S2 (pA D 8) (pW D) := b2.ar hT2 h1.a8
    refine r_castBox (pc' := 50) dX9_unweave_47 cw_X9_82 iw_1_java_lang_Integer (by omega) rfl ?_
    refine r_callBox (j := c0 + 128) (pc' := 53) (k' := 0) (n' := 0) (nn := 0) (As := []) (rest := [.ref _]) dX9_unweave_50 mb_J6_intValue_8abf5 mi_J6_intValue_8abf5 rfl (by omega) lk_X9_108 rfl rfl rfl rfl rfl (Nat.le_of_ble_eq_true rfl) rfl (c_J6_intValue_8abf5 hc0 (cpI ?_))
    refine r_dup2 (pc' := 54) dX9_unweave_53 rfl rfl rfl ?_
    refine r_iaload (pc' := 55) dX9_unweave_54 a10 (vp_nI (show c0 < 6 by omega) (by omega)) rfl ?_
    refine r_aload_n (pc' := 56) dX9_unweave_55 rfl 2 rfl rfl ?_
    refine r_getO (pc' := 59) dX9_unweave_56 fa_X9_54 od2 rfl rr2 rfl ?_
    refine r_alen (pc' := 60) dX9_unweave_59 a82 (by decide) rfl rfl ?_
    refine r_iadd (pc' := 61) dX9_unweave_60 rfl ?_
    refine r_iastore (pc' := 62) dX9_unweave_61 a10 (vp_nI (show c0 < 6 by omega) (by omega)) rfl ?_
    refine r_iinc (pc' := 65) (lv' := [(2, _), (3, _), (0, _), (1, _)]) dX9_unweave_62 1 rfl rfl (by decide) rfl rfl ?_
    refine r_goto (tgt := 2) dX9_unweave_65 rfl ?_
    refine r_iload_n (pc' := 3) dX9_unweave_2 rfl 0 rfl rfl ?_
    refine r_iload_n (pc' := 4) dX9_unweave_3 rfl 3 rfl rfl ?_
    refine r_icmp_ge (tgt := 68) (pc' := 7) dX9_unweave_4 rfl rfl (fun h4 => ?_) (fun h4 => ?_)
    · exact r_ret dX9_unweave_68 rfl (by decide) (by decide) (hQ _ _ (K2.stM h.dx.1.2.2.2.2.1 (Or.inl a10.2.1)) hT2)
    · exact absurd (show (1 : Int32) ≤ 0 + Int32.ofInt 1 by decide) h4
