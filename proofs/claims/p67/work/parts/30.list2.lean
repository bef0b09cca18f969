/-! ArrayList: add, grow, remove -/
set_option maxHeartbeats 2000000 in
theorem c_Jx4a65c_grow_92f84 {Ω : JO} {I : JI} {S : JS} {Q : JQ} {l : Nat} (ho : l ∈ sL S ∧ sK S l = 18) (hr : sR S l 1 = some (oE Ω)) (hQ : ∀ z, z ∉ sL S → Q (.inl (some (.ref z))) (nwI I z) (stR (nwN S z 19 10) l 1 (some z))) : Call Ω m_Jx4a65c_grow_92f84 [.ref l, .int (nI 1)] I S Q := by
  refine call_of (by decide +kernel) rfl (Nat.le_of_ble_eq_true rfl) ?_
  change AA Ω m_Jx4a65c_grow_92f84 (FQ Ω m_Jx4a65c_grow_92f84 Q) 0 0 0 [(0, .ref l), (1, .int (nI 1))] [] I S
  refine r_aload_n (pc' := 1) dJx4a65c_grow_92f84_0 rfl 0 rfl rfl ?_
  refine r_getO (pc' := 4) dJx4a65c_grow_92f84_1 fa_Jx4a65c_9 ho rfl hr rfl ?_
  refine r_e0Len (pc' := 5) dJx4a65c_grow_92f84_4 rfl rfl ?_
  refine r_istore_n (pc' := 6) (lv' := [(2, _), (0, _), (1, _)]) dJx4a65c_grow_92f84_5 rfl (by decide) rfl rfl ?_
  refine r_iload_n (pc' := 7) dJx4a65c_grow_92f84_6 rfl 0 rfl rfl ?_
  refine r_if_gt (tgt := 20) (pc' := 10) dJx4a65c_grow_92f84_7 rfl rfl (fun h7 => ?_) (fun h7 => ?_)
  · exact absurd h7 (by decide)
  · refine r_aload_n (pc' := 11) dJx4a65c_grow_92f84_10 rfl 1 rfl rfl ?_
    refine r_getO (pc' := 14) dJx4a65c_grow_92f84_11 fa_Jx4a65c_9 ho rfl hr rfl ?_
    refine r_gets (pc' := 17) (v := .ref (oE Ω)) dJx4a65c_grow_92f84_14 fl_Jx4a65c_39 (fun _ _ h => h.2.1.1) rfl ?_
    refine r_acmp_eq (tgt := 45) (pc' := 20) dJx4a65c_grow_92f84_17 rfl rfl (fun _ => ?_) (fun q => absurd rfl q)
    refine r_aload_n (pc' := 46) dJx4a65c_grow_92f84_45 rfl 1 rfl rfl ?_
    refine r_bipush (pc' := 48) (v := 10) dJx4a65c_grow_92f84_46 (by decide) rfl ?_
    refine r_iload_n (pc' := 49) dJx4a65c_grow_92f84_48 rfl 2 rfl rfl ?_
    refine r_mmax (pc' := 52) dJx4a65c_grow_92f84_49 mw_Jx4a65c_79 (by decide) (Nat.le_of_ble_eq_true rfl) (by decide) (by decide) rfl ?_
    rw [show mxF 10 (nI 1) = nI 10 from by decide]
    refine r_anew19 (pc' := 55) (N := 10) dJx4a65c_grow_92f84_52 cw_Jx4a65c_7 (by decide) (by decide) (by decide) (Nat.le_of_ble_eq_true rfl) (Nat.le_of_ble_eq_true rfl) rfl (fun z hz => aa_widen (k' := 1) (n' := 10) (by decide) (by decide) ?_)
    have hz2 : z ∉ sL S := notin_of hz
    refine r_dup_x1 (pc' := 56) dJx4a65c_grow_92f84_55 rfl rfl rfl ?_
    refine r_putR (pc' := 59) dJx4a65c_grow_92f84_56 fa_Jx4a65c_9 ((Kp.nw (P := fun _ => False) (I := I) hz2).o ho) rfl ⟨rfl, rfl⟩ (fun h => by cases h) rfl ?_
    exact r_aret dJx4a65c_grow_92f84_59 rfl (Or.inr ⟨_, rfl⟩) (Or.inr ⟨_, rfl⟩) (by decide) (by decide) (hQ z hz2)
set_option maxHeartbeats 2000000 in
theorem c_Jx4a65c_grow_d5877 {Ω : JO} {I : JI} {S : JS} {Q : JQ} {l : Nat} (ho : l ∈ sL S ∧ sK S l = 18) (hn : I l 2 = nI 0) (hr : sR S l 1 = some (oE Ω)) (hQ : ∀ z, z ∉ sL S → Q (.inl (some (.ref z))) (nwI I z) (stR (nwN S z 19 10) l 1 (some z))) : Call Ω m_Jx4a65c_grow_d5877 [.ref l] I S Q := by
  refine call_of (by decide +kernel) rfl (Nat.le_of_ble_eq_true rfl) ?_
  change AA Ω m_Jx4a65c_grow_d5877 (FQ Ω m_Jx4a65c_grow_d5877 Q) 0 0 0 [(0, .ref l)] [] I S
  refine r_aload_n (pc' := 1) dJx4a65c_grow_d5877_0 rfl 0 rfl rfl ?_
  refine r_aload_n (pc' := 2) dJx4a65c_grow_d5877_1 rfl 0 rfl rfl ?_
  refine r_getIv (pc' := 5) dJx4a65c_grow_d5877_2 fa_Jx4a65c_48 ho rfl hn rfl ?_
  refine r_iconst (pc' := 6) (v := 1) dJx4a65c_grow_d5877_5 (by decide) rfl ?_
  refine r_iaddv (pc' := 7) dJx4a65c_grow_d5877_6 (nI_add 0 1) rfl ?_
  refine r_callV (pc' := 10) (k' := 1) (n' := 100) (nn := 1) (As := [_]) (rest := []) dJx4a65c_grow_d5877_7 mb_Jx4a65c_grow_92f84 mi_Jx4a65c_grow_92f84 ho (by decide) rfl lk_Jx4a65c_69 rfl rfl rfl rfl rfl (Nat.le_of_ble_eq_true rfl) rfl (c_Jx4a65c_grow_92f84 ho hr (fun z hz => (cpR ?_)))
  exact r_aret dJx4a65c_grow_d5877_10 rfl (Or.inr ⟨_, rfl⟩) (Or.inr ⟨_, rfl⟩) (by decide) (by decide) (hQ z hz)
set_option maxHeartbeats 2000000 in
theorem c_add3 {Ω : JO} {I : JI} {S : JS} {Q : JQ} {l e n v : Nat} (ho : l ∈ sL S ∧ sK S l = 18) (hA : ArE 19 S e 10) (hn : n < 10) (hv : AnyO Ω S v) (hQ : Q (.inl none) (stI I l 2 (nI (n + 1))) (stR S e n (some v))) : Call Ω m_Jx4a65c_add_72be8 [.ref l, .ref v, .ref e, .int (nI n)] I S Q := by
  refine call_of (by decide +kernel) rfl (Nat.le_of_ble_eq_true rfl) ?_
  change AA Ω m_Jx4a65c_add_72be8 (FQ Ω m_Jx4a65c_add_72be8 Q) 0 0 0 [(0, .ref l), (1, .ref v), (2, .ref e), (3, .int (nI n))] [] I S
  refine r_iload_n (pc' := 1) dJx4a65c_add_72be8_0 rfl 3 rfl rfl ?_
  refine r_aload_n (pc' := 2) dJx4a65c_add_72be8_1 rfl 2 rfl rfl ?_
  refine r_alen19 (pc' := 3) dJx4a65c_add_72be8_2 hA rfl rfl ?_
  refine r_icmp_ne (tgt := 11) (pc' := 6) dJx4a65c_add_72be8_3 rfl rfl (fun h3 => ?_) (fun h3 => ?_)
  · refine r_aload_n (pc' := 12) dJx4a65c_add_72be8_11 rfl 2 rfl rfl ?_
    refine r_iload_n (pc' := 13) dJx4a65c_add_72be8_12 rfl 3 rfl rfl ?_
    refine r_aload_n (pc' := 14) dJx4a65c_add_72be8_13 rfl 1 rfl rfl ?_
    refine r_aast19 (pc' := 15) dJx4a65c_add_72be8_14 hA hv ca_IO ca_NO (vp_nI hn (by omega)) rfl ?_
    rw [nI_clamp (show n < 2 ^ 31 by omega)]
    refine r_aload_n (pc' := 16) dJx4a65c_add_72be8_15 rfl 0 rfl rfl ?_
    refine r_iload_n (pc' := 17) dJx4a65c_add_72be8_16 rfl 3 rfl rfl ?_
    refine r_iconst (pc' := 18) (v := 1) dJx4a65c_add_72be8_17 (by decide) rfl ?_
    refine r_iaddv (pc' := 19) dJx4a65c_add_72be8_18 (nI_add n 1) rfl ?_
    refine r_putI (pc' := 22) dJx4a65c_add_72be8_19 fa_Jx4a65c_48 ho rfl rfl ?_
    exact r_ret dJx4a65c_add_72be8_22 rfl (by decide) (by decide) (hQ)
  · exact absurd ((nI_eq (by omega) (by decide)).mp (show nI n = nI 10 from h3)) (by omega)
set_option maxHeartbeats 2000000 in
theorem c_add30 {Ω : JO} {I : JI} {S : JS} {Q : JQ} {l v : Nat} (ho : l ∈ sL S ∧ sK S l = 18) (hn : I l 2 = nI 0) (hr : sR S l 1 = some (oE Ω)) (hv : AnyO Ω S v) (hQ : ∀ z, z ∉ sL S → Q (.inl none) (stI (nwI I z) l 2 (nI 1)) (stR (stR (nwN S z 19 10) l 1 (some z)) z 0 (some v))) : Call Ω m_Jx4a65c_add_72be8 [.ref l, .ref v, .ref (oE Ω), .int (nI 0)] I S Q := by
  refine call_of (by decide +kernel) rfl (Nat.le_of_ble_eq_true rfl) ?_
  change AA Ω m_Jx4a65c_add_72be8 (FQ Ω m_Jx4a65c_add_72be8 Q) 0 0 0 [(0, .ref l), (1, .ref v), (2, .ref (oE Ω)), (3, .int (nI 0))] [] I S
  refine r_iload_n (pc' := 1) dJx4a65c_add_72be8_0 rfl 3 rfl rfl ?_
  refine r_aload_n (pc' := 2) dJx4a65c_add_72be8_1 rfl 2 rfl rfl ?_
  refine r_e0Len (pc' := 3) dJx4a65c_add_72be8_2 rfl rfl ?_
  refine r_icmp_ne (tgt := 11) (pc' := 6) dJx4a65c_add_72be8_3 rfl rfl (fun h3 => ?_) (fun h3 => ?_)
  · exact absurd rfl h3
  · refine r_aload_n (pc' := 7) dJx4a65c_add_72be8_6 rfl 0 rfl rfl ?_
    refine r_callV (pc' := 10) (k' := 1) (n' := 100) (nn := 0) (As := []) (rest := []) dJx4a65c_add_72be8_7 mb_Jx4a65c_grow_d5877 mi_Jx4a65c_grow_d5877 ho (by decide) rfl lk_Jx4a65c_129 rfl rfl rfl rfl rfl (Nat.le_of_ble_eq_true rfl) rfl (c_Jx4a65c_grow_d5877 ho hn hr (fun z hz => (cpR ?_)))
    refine r_astore_n (pc' := 11) (lv' := [(2, _), (0, _), (1, _), (3, _)]) dJx4a65c_add_72be8_10 rfl (by decide) rfl rfl ?_
    refine r_aload_n (pc' := 12) dJx4a65c_add_72be8_11 rfl 0 rfl rfl ?_
    refine r_iload_n (pc' := 13) dJx4a65c_add_72be8_12 rfl 3 rfl rfl ?_
    refine r_aload_n (pc' := 14) dJx4a65c_add_72be8_13 rfl 2 rfl rfl ?_
    refine r_aast19 (pc' := 15) (N := 10) dJx4a65c_add_72be8_14 (show ArE 19 (nwN S z 19 10) z 10 from nwN_ar) ((hv.kp ((Kp.nw (P := fun _ => False) (I := I) hz).trans (Kp.stR (P := fun c => c = l) (k := 1) (r := some z) rfl) (fun _ _ h => h) : Kp (fun c => False ∨ c = l) I S (nwI I z) (stR (nwN S z 19 10) l 1 (some z))))) ca_IO ca_NO (vp_nI (by decide) (by decide)) rfl ?_
    rw [nI_clamp (show 0 < 2 ^ 31 by omega)]
    refine r_aload_n (pc' := 16) dJx4a65c_add_72be8_15 rfl 1 rfl rfl ?_
    refine r_iload_n (pc' := 17) dJx4a65c_add_72be8_16 rfl 3 rfl rfl ?_
    refine r_iconst (pc' := 18) (v := 1) dJx4a65c_add_72be8_17 (by decide) rfl ?_
    refine r_iaddv (pc' := 19) dJx4a65c_add_72be8_18 (nI_add 0 1) rfl ?_
    refine r_putI (pc' := 22) dJx4a65c_add_72be8_19 fa_Jx4a65c_48 (show l ∈ sL (nwN S z 19 10) ∧ sK (nwN S z 19 10) l = 18 from (Kp.nw (P := fun _ => False) (I := I) hz).o ho) rfl rfl ?_
    exact r_ret dJx4a65c_add_72be8_22 rfl (by decide) (by decide) (hQ z hz)
set_option maxHeartbeats 2000000 in
theorem c_Jx4a65c_add_9ea2d {Ω : JO} {I : JI} {S : JS} {Q : JQ} {l e n v : Nat} {L0 : List Nat} (h : AL Ω L0 S I l e n) (hL : ∀ x, x ∈ L0 → x ∈ sL S) (hn : n < 10) (hv : AnyO Ω S v) (hQ : ∀ e' I' S', AL Ω L0 S' I' l e' (n + 1) → ((ArE 19 S e 10 ∧ e' = e) ∨ e' ∉ sL S) → Kp (fun c => c = l ∨ (c = e ∧ c ∉ L0 ∧ sK S c = 19)) I S I' S' → sR S' e' n = some v → (∀ i, i < n → sR S' e' i = sR S e i) → Q (.inl (some (.int 1))) I' S') : Call Ω m_Jx4a65c_add_9ea2d [.ref l, .ref v] I S Q := by
  refine call_of (by decide +kernel) rfl (Nat.le_of_ble_eq_true rfl) ?_
  change AA Ω m_Jx4a65c_add_9ea2d (FQ Ω m_Jx4a65c_add_9ea2d Q) 0 0 0 [(0, .ref l), (1, .ref v)] [] I S
  obtain ⟨ho, hr, hn2, hT, h5⟩ := h
  have K1 : ∀ x, Kp (fun c => c = l) I S (stI I l 0 x) S := fun x => Kp.st rfl
  refine r_aload_n (pc' := 1) dJx4a65c_add_9ea2d_0 rfl 0 rfl rfl ?_
  refine r_dup (pc' := 2) dJx4a65c_add_9ea2d_1 rfl rfl ?_
  refine r_getSI (pc' := 5) dJx4a65c_add_9ea2d_2 fs_Jx4a65c_63 ho rfl rfl ?_
  refine r_iconst (pc' := 6) (v := 1) dJx4a65c_add_9ea2d_5 (by decide) rfl ?_
  refine r_iadd (pc' := 7) dJx4a65c_add_9ea2d_6 rfl ?_
  refine r_putSI (pc' := 10) dJx4a65c_add_9ea2d_7 fs_Jx4a65c_63 ho hT rfl rfl ?_
  refine r_aload_n (pc' := 11) dJx4a65c_add_9ea2d_10 rfl 0 rfl rfl ?_
  refine r_aload_n (pc' := 12) dJx4a65c_add_9ea2d_11 rfl 1 rfl rfl ?_
  refine r_aload_n (pc' := 13) dJx4a65c_add_9ea2d_12 rfl 0 rfl rfl ?_
  refine r_getO (pc' := 16) dJx4a65c_add_9ea2d_13 fa_Jx4a65c_9 ho rfl hr rfl ?_
  refine r_aload_n (pc' := 17) dJx4a65c_add_9ea2d_16 rfl 0 rfl rfl ?_
  refine r_getIv (pc' := 20) dJx4a65c_add_9ea2d_17 fa_Jx4a65c_48 ho rfl (show stI I l 0 _ l 2 = nI n from (stI_aj (by decide)).trans hn2) rfl ?_
  rcases h5 with ⟨h5, h6⟩ | ⟨h5, h6, h7⟩
  · subst h5; subst h6
    refine r_callV (pc' := 23) (k' := 1) (n' := 100) (nn := 3) (As := [_, _, _]) (rest := []) dJx4a65c_add_9ea2d_20 mb_Jx4a65c_add_72be8 mi_Jx4a65c_add_72be8 ho (by decide) rfl lk_Jx4a65c_131 rfl rfl rfl rfl rfl (Nat.le_of_ble_eq_true rfl) rfl (c_add30 ho (by rw [stI_aj (by decide)]; exact hn2) hr hv (fun z hz => cpV ?_))
    refine r_iconst (pc' := 24) (v := 1) dJx4a65c_add_9ea2d_23 (by decide) rfl ?_
    have hlz : l ≠ z := fun e => hz (e ▸ ho.1)
    have K2 : ∀ x, Kp (fun c => c = l ∨ (c = oE Ω ∧ c ∉ L0 ∧ sK S c = 19)) I S (stI (nwI (stI I l 0 x) z) l 2 (nI 1)) (stR (stR (nwN S z 19 10) l 1 (some z)) z 0 (some v)) := fun x => ((K1 x).trans ((Kp.nw (P := fun _ => False) hz).trans ((Kp.stR (P := fun c => c = l) rfl).trans ((Kp.stR (P := fun c => c = z) rfl).trans (Kp.st (P := fun c => c = l) rfl) (fun _ _ e => e)) (fun _ _ e => e)) (fun _ _ e => e)) (fun c hc e => e.elim Or.inl fun e => e.elim False.elim fun e => e.elim Or.inl fun e => e.elim (fun e => absurd (e ▸ hc) hz) Or.inl))
    exact r_zret dJx4a65c_add_9ea2d_24 rfl (Or.inr rfl) (by decide) (by decide) (hQ z _ _ ⟨(K2 0).o ho, (stR_R3 hlz).trans stR_R1, stI_at, rfl, Or.inr ⟨(show ArE 19 (nwN S z 19 10) z 10 from nwN_ar), by decide, fun q => hz (hL z q)⟩⟩ (Or.inr hz) (K2 _) stR_R1 (fun i hi => absurd hi (Nat.not_lt_zero i)))
  · refine r_callV (pc' := 23) (k' := 1) (n' := 100) (nn := 3) (As := [_, _, _]) (rest := []) dJx4a65c_add_9ea2d_20 mb_Jx4a65c_add_72be8 mi_Jx4a65c_add_72be8 ho (by decide) rfl lk_Jx4a65c_131 rfl rfl rfl rfl rfl (Nat.le_of_ble_eq_true rfl) rfl (c_add3 ho h5 hn hv (cpV ?_))
    refine r_iconst (pc' := 24) (v := 1) dJx4a65c_add_9ea2d_23 (by decide) rfl ?_
    have hle : l ≠ e := fun q => by have h1 := h5.2.1; have h2 := ho.2; rw [q, h1] at h2; exact absurd h2 (by decide)
    have K2 : ∀ x, Kp (fun c => c = l ∨ (c = e ∧ c ∉ L0 ∧ sK S c = 19)) I S (stI (stI I l 0 x) l 2 (nI (n + 1))) (stR S e n (some v)) := fun x => ((K1 x).trans ((Kp.stR (P := fun c => c = e) rfl).trans (Kp.st (P := fun c => c = l) rfl) (fun _ _ e => e)) (fun c hc q => q.elim Or.inl fun q => q.elim (fun q => Or.inr ⟨q, q ▸ h7, q ▸ h5.2.1⟩) Or.inl))
    exact r_zret dJx4a65c_add_9ea2d_24 rfl (Or.inr rfl) (by decide) (by decide) (hQ e _ _ ⟨(K2 0).o ho, (stR_R3 hle).trans hr, stI_at, hT, Or.inr ⟨h5, hn, h7⟩⟩ (Or.inl ⟨h5, rfl⟩) (K2 _) stR_R1 (fun i hi => stR_R2 (Nat.ne_of_lt hi)))
set_option maxHeartbeats 2000000 in
theorem c_Jx4a65c_fastRemove_b59b0 {Ω : JO} {I : JI} {S : JS} {Q : JQ} {l e n : Nat} (ho : l ∈ sL S ∧ sK S l = 18) (hn : I l 2 = nI (n + 1)) (hA : ArE 19 S e 10) (hn2 : n < 10) (hT : sT S = none) (hQ : Q (.inl none) (stI (stI I l 0 (I l 0 + 1)) l 2 (nI n)) (stR S e n none)) : Call Ω m_Jx4a65c_fastRemove_b59b0 [.ref l, .ref e, .int (nI n)] I S Q := by
  refine call_of (by decide +kernel) rfl (Nat.le_of_ble_eq_true rfl) ?_
  change AA Ω m_Jx4a65c_fastRemove_b59b0 (FQ Ω m_Jx4a65c_fastRemove_b59b0 Q) 0 0 0 [(0, .ref l), (1, .ref e), (2, .int (nI n))] [] I S
  refine r_aload_n (pc' := 1) dJx4a65c_fastRemove_b59b0_0 rfl 0 rfl rfl ?_
  refine r_dup (pc' := 2) dJx4a65c_fastRemove_b59b0_1 rfl rfl ?_
  refine r_getSI (pc' := 5) dJx4a65c_fastRemove_b59b0_2 fs_Jx4a65c_63 ho rfl rfl ?_
  refine r_iconst (pc' := 6) (v := 1) dJx4a65c_fastRemove_b59b0_5 (by decide) rfl ?_
  refine r_iadd (pc' := 7) dJx4a65c_fastRemove_b59b0_6 rfl ?_
  refine r_putSI (pc' := 10) dJx4a65c_fastRemove_b59b0_7 fs_Jx4a65c_63 ho hT rfl rfl ?_
  refine r_aload_n (pc' := 11) dJx4a65c_fastRemove_b59b0_10 rfl 0 rfl rfl ?_
  refine r_getIv (pc' := 14) dJx4a65c_fastRemove_b59b0_11 fa_Jx4a65c_48 ho rfl (show stI I l 0 _ l 2 = nI (n + 1) from (stI_aj (by decide)).trans hn) rfl ?_
  refine r_iconst (pc' := 15) (v := 1) dJx4a65c_fastRemove_b59b0_14 (by decide) rfl ?_
  refine r_isubv (pc' := 16) dJx4a65c_fastRemove_b59b0_15 (nI_sub (show 1 ≤ n + 1 by omega)) rfl ?_
  refine r_dup (pc' := 17) dJx4a65c_fastRemove_b59b0_16 rfl rfl ?_
  refine r_istore_n (pc' := 18) (lv' := [(3, _), (0, _), (1, _), (2, _)]) dJx4a65c_fastRemove_b59b0_17 rfl (by decide) rfl rfl ?_
  refine r_iload_n (pc' := 19) dJx4a65c_fastRemove_b59b0_18 rfl 3 rfl rfl ?_
  refine r_icmp_le (tgt := 34) (pc' := 22) dJx4a65c_fastRemove_b59b0_19 rfl rfl (fun h19 => ?_) (fun h19 => ?_)
  · refine r_aload_n (pc' := 35) dJx4a65c_fastRemove_b59b0_34 rfl 2 rfl rfl ?_
    refine r_aload_n (pc' := 36) dJx4a65c_fastRemove_b59b0_35 rfl 1 rfl rfl ?_
    refine r_iload_n (pc' := 37) dJx4a65c_fastRemove_b59b0_36 rfl 0 rfl rfl ?_
    refine r_dup_x1 (pc' := 38) dJx4a65c_fastRemove_b59b0_37 rfl rfl rfl ?_
    refine r_putI (pc' := 41) dJx4a65c_fastRemove_b59b0_38 fa_Jx4a65c_48 ho rfl rfl ?_
    refine r_null (pc' := 42) dJx4a65c_fastRemove_b59b0_41 rfl ?_
    refine r_aast19N (pc' := 43) dJx4a65c_fastRemove_b59b0_42 hA (vp_nI hn2 (by omega)) rfl ?_
    rw [nI_clamp (show n + 1 - 1 < 2 ^ 31 by omega)]
    exact r_ret dJx4a65c_fastRemove_b59b0_43 rfl (by decide) (by decide) (hQ)
  · exact absurd (show nI n ≤ nI n from nI_le (Nat.le_refl _) (by omega)) h19
set_option maxHeartbeats 2000000 in
theorem c_Jx4a65c_remove_915e3 {Ω : JO} {I : JI} {S : JS} {Q : JQ} {l e n v : Nat} {L0 : List Nat} (h : AL Ω L0 S I l e (n + 1)) (hv : sR S e n = some v) (hQ : ∀ I' S', AL Ω L0 S' I' l e n → Kp (fun c => c = l ∨ (c = e ∧ c ∉ L0 ∧ sK S c = 19)) I S I' S' → (∀ i, i < n → sR S' e i = sR S e i) → Q (.inl (some (.ref v))) I' S') : Call Ω m_Jx4a65c_remove_915e3 [.ref l, .int (nI n)] I S Q := by
  refine call_of (by decide +kernel) rfl (Nat.le_of_ble_eq_true rfl) ?_
  change AA Ω m_Jx4a65c_remove_915e3 (FQ Ω m_Jx4a65c_remove_915e3 Q) 0 0 0 [(0, .ref l), (1, .int (nI n))] [] I S
  obtain ⟨ho, hr, hn2, hT, h5⟩ := h
  obtain ⟨hA, hn, hL0⟩ : ArE 19 S e 10 ∧ n + 1 ≤ 10 ∧ e ∉ L0 := h5.elim (fun q => absurd q.1 (by omega)) id
  have hle : l ≠ e := fun q => by have h1 := hA.2.1; have h2 := ho.2; rw [q, h1] at h2; exact absurd h2 (by decide)
  refine r_iload_n (pc' := 1) dJx4a65c_remove_915e3_0 rfl 1 rfl rfl ?_
  refine r_aload_n (pc' := 2) dJx4a65c_remove_915e3_1 rfl 0 rfl rfl ?_
  refine r_getIv (pc' := 5) dJx4a65c_remove_915e3_2 fa_Jx4a65c_48 ho rfl hn2 rfl ?_
  refine r_callS (pc' := 8) (k' := 0) (n' := 0) (nn := 2) (As := [_, _]) (rest := []) dJx4a65c_remove_915e3_5 mb_J15_checkIndex_7cf53 ms_J15_checkIndex_7cf53 lk_Jx4a65c_118 rfl rfl rfl rfl rfl (Nat.le_of_ble_eq_true rfl) rfl (c_J15_checkIndex_7cf53 (show n < n + 1 by omega) (by omega) (cpI ?_))
  refine r_pop (pc' := 9) dJx4a65c_remove_915e3_8 rfl rfl ?_
  refine r_aload_n (pc' := 10) dJx4a65c_remove_915e3_9 rfl 0 rfl rfl ?_
  refine r_getO (pc' := 13) dJx4a65c_remove_915e3_10 fa_Jx4a65c_9 ho rfl hr rfl ?_
  refine r_astore_n (pc' := 14) (lv' := [(2, _), (0, _), (1, _)]) dJx4a65c_remove_915e3_13 rfl (by decide) rfl rfl ?_
  refine r_aload_n (pc' := 15) dJx4a65c_remove_915e3_14 rfl 0 rfl rfl ?_
  refine r_iload_n (pc' := 16) dJx4a65c_remove_915e3_15 rfl 2 rfl rfl ?_
  refine r_aald19 (pc' := 17) dJx4a65c_remove_915e3_16 hA (vp_nI (by omega) (by omega)) (by rw [nI_clamp (by omega)]; exact hv) rfl ?_
  refine r_astore_n (pc' := 18) (lv' := [(3, _), (2, _), (0, _), (1, _)]) dJx4a65c_remove_915e3_17 rfl (by decide) rfl rfl ?_
  refine r_aload_n (pc' := 19) dJx4a65c_remove_915e3_18 rfl 2 rfl rfl ?_
  refine r_aload_n (pc' := 20) dJx4a65c_remove_915e3_19 rfl 1 rfl rfl ?_
  refine r_iload_n (pc' := 21) dJx4a65c_remove_915e3_20 rfl 3 rfl rfl ?_
  refine r_callV (pc' := 24) (k' := 0) (n' := 0) (nn := 2) (As := [_, _]) (rest := []) dJx4a65c_remove_915e3_21 mb_Jx4a65c_fastRemove_b59b0 mi_Jx4a65c_fastRemove_b59b0 ho (by decide) rfl lk_Jx4a65c_144 rfl rfl rfl rfl rfl (Nat.le_of_ble_eq_true rfl) rfl (c_Jx4a65c_fastRemove_b59b0 ho hn2 hA (by omega) hT (cpV ?_))
  refine r_aload_n (pc' := 25) dJx4a65c_remove_915e3_24 rfl 0 rfl rfl ?_
  exact r_aret dJx4a65c_remove_915e3_25 rfl (Or.inl ⟨_, rfl⟩) (Or.inr ⟨_, rfl⟩) (by decide) (by decide) (hQ _ _ ⟨ho, (stR_R3 hle).trans hr, stI_at, hT, Or.inr ⟨hA, by omega, hL0⟩⟩ ((Kp.st (P := fun c => c = l) rfl).trans ((Kp.st (P := fun c => c = l) rfl).trans (Kp.stR (P := fun c => c = e) rfl) (fun _ _ e => e)) (fun c hc q => q.elim Or.inl fun q => q.elim Or.inl fun q => Or.inr ⟨q, q ▸ hL0, q ▸ hA.2.1⟩)) (fun i hi => stR_R2 (Nat.ne_of_lt hi)))
