/-! StringBuilder: constructor, append(char), append(int) -/
/-- a new one: all that was is kept -/
theorem Kp.tr {P : Nat → Prop} {I I1 I2 : JI} {S S1 S2 : JS} (h1 : Kp P I S I1 S1) (h2 : Kp P I1 S1 I2 S2) : Kp P I S I2 S2 := h1.trans h2 (fun _ _ h => h.elim id id)
theorem Kp.fin {P : Nat → Prop} {I I1 : JI} {S S1 : JS} (h : Kp (fun c => P c ∨ c ∉ sL S) I S I1 S1) : Kp P I S I1 S1 := h.mono fun c hc q => q.elim id (fun e => absurd hc e)
def SBn (b : Nat) (I : JI) (S : JS) (I' : JI) (S' : JS) (t' : List Nat) : Prop := ∃ v' cap', SBk S' I' b v' cap' t' ∧ v' ∉ sL S ∧ Kp (fun c => c = b) I S I' S'

set_option maxHeartbeats 2000000 in
theorem c_J5_init_a7421 {Ω : JO} {I : JI} {S : JS} {Q : JQ} {b : Nat} (ho : b ∈ sL S ∧ sK S b = 16) (h3 : I b 3 = 0) {own : String} {sk : Nat} {tx : String} (ht : Cond.stringRef own sk tx ∈ lw_tbl) (hs : ∀ x, x ∈ tb tx → x < 128) (hl : (tb tx).length ≤ 100) (hQ : ∀ I' S', SBn b I S I' S' (tb tx) → Q (.inl none) I' S') : Call Ω m_J5_init_a7421 [.ref b, .ref (Ω.2.2.2.2.1 own sk).1] I S Q := by
  refine call_of (by decide +kernel) rfl (Nat.le_of_ble_eq_true rfl) ?_
  change AA Ω m_J5_init_a7421 (FQ Ω m_J5_init_a7421 Q) 0 0 0 [(0, .ref b), (1, .ref (Ω.2.2.2.2.1 own sk).1)] [] I S
  refine r_aload_n (pc' := 1) dJ5_init_a7421_0 rfl 0 rfl rfl ?_
  refine r_objInit (pc' := 4) dJ5_init_a7421_1 ow_J5_3 ow_i ow_c (by decide) (by decide) rfl ?_
  refine r_aload_n (pc' := 5) dJ5_init_a7421_4 rfl 1 rfl rfl ?_
  refine r_callT (pc' := 8) (k' := 0) (n' := 0) (Z := m_J0_length_8abf5) (nn := 0) (As := []) (rest := []) dJ5_init_a7421_5 mb_J0_length_8abf5 mi_J0_length_8abf5 rfl ht lk_J5_32 rfl rfl rfl rfl rfl (Nat.le_of_ble_eq_true rfl) rfl (c_J0_length_8abf5 ht (cpI ?_))
  rw [show Int32.ofNat tx.toList.length = nI (tb tx).length from by rw [tb_len]; rfl]
  refine r_istore_n (pc' := 9) (lv' := [(2, _), (0, _), (1, _)]) dJ5_init_a7421_8 rfl (by decide) rfl rfl ?_
  refine r_iload_n (pc' := 10) dJ5_init_a7421_9 rfl 0 rfl rfl ?_
  refine r_ldc (pc' := 12) (v := 2147483631) dJ5_init_a7421_10 kw_J5_38 rfl ?_
  refine r_icmp_ge (tgt := 22) (pc' := 15) dJ5_init_a7421_12 rfl rfl (fun h12 => ?_) (fun h12 => ?_)
  · exact absurd h12 (show ¬ nI 2147483631 ≤ nI _ from nI_ge (by omega) (by decide))
  · refine r_iload_n (pc' := 16) dJ5_init_a7421_15 rfl 0 rfl rfl ?_
    refine r_bipush (pc' := 18) (v := 16) dJ5_init_a7421_16 (by decide) rfl ?_
    refine r_iaddv (pc' := 19) dJ5_init_a7421_18 (nI_add _ 16) rfl ?_
    refine r_goto (tgt := 24) dJ5_init_a7421_19 rfl ?_
    refine r_istore_n (pc' := 25) (lv' := [(3, _), (2, _), (0, _), (1, _)]) dJ5_init_a7421_24 rfl (by decide) rfl rfl ?_
    refine r_aload_n (pc' := 26) dJ5_init_a7421_25 rfl 3 rfl rfl ?_
    refine r_callT (pc' := 29) (k' := 0) (n' := 0) (Z := m_J0_coder_7d493) (nn := 0) (As := []) (rest := []) dJ5_init_a7421_26 mb_J0_coder_7d493 mi_J0_coder_7d493 rfl ht lk_J5_40 rfl rfl rfl rfl rfl (Nat.le_of_ble_eq_true rfl) rfl (c_J0_coder_7d493 ht (cpI ?_))
    refine r_istore (pc' := 31) (lv' := [(4, _), (3, _), (2, _), (0, _), (1, _)]) dJ5_init_a7421_29 (by decide) rfl rfl ?_
    refine r_aload_n (pc' := 32) dJ5_init_a7421_31 rfl 3 rfl rfl ?_
    refine r_iload (pc' := 34) dJ5_init_a7421_32 0 rfl rfl ?_
    refine r_putB (pc' := 37) dJ5_init_a7421_34 fa_J5_22 ho rfl rfl rfl ?_
    refine r_aload_n (pc' := 38) dJ5_init_a7421_37 rfl 3 rfl rfl ?_
    refine r_iload (pc' := 40) dJ5_init_a7421_38 0 rfl rfl ?_
    refine r_if_ne (tgt := 49) (pc' := 43) dJ5_init_a7421_40 rfl rfl (fun h40 => ?_) (fun h40 => ?_)
    · exact absurd rfl h40
    · refine r_iload_n (pc' := 44) dJ5_init_a7421_43 rfl 1 rfl rfl ?_
      refine r_newBG (pc' := 46) (N := ((tb tx).length + 16)) dJ5_init_a7421_44 (nI_pos (by omega)) (nI_clamp (by omega)) (by omega) (Nat.le_of_ble_eq_true rfl) (show 0 + _ ≤ 3000 from by omega) rfl (fun z hz => aa_widen (k' := 1) (n' := 1000) (by decide) (by omega) ?_)
      have hz2 : z ∉ sL S := notin_of hz
      have hbz : b ≠ z := fun e => hz2 (e ▸ ho.1)
      have hob : b ∈ sL (nwN S z 10 ((tb tx).length + 16)) ∧ sK (nwN S z 10 ((tb tx).length + 16)) b = 16 := (Kp.nw (P := fun _ => False) (I := I) hz2).o ho
      refine r_goto (tgt := 53) dJ5_init_a7421_46 rfl ?_
      refine r_putR (pc' := 56) dJ5_init_a7421_53 fa_J5_15 hob rfl ⟨rfl, rfl⟩ (fun h => by cases h) rfl ?_
      have hn : SBk (stR (nwN S z 10 ((tb tx).length + 16)) b 0 (some z)) (nwI (stI I b 1 0) z) b z ((tb tx).length + 16) [] := ⟨hob, stR_R1, (show ArE 10 (nwN S z 10 ((tb tx).length + 16)) z _ from nwN_ar), by rw [nwI_o hbz, stI_at], by rw [nwI_o hbz, stI_aj (by decide), h3]; rfl, Nat.zero_le _, by omega, fun j hj => absurd hj (Nat.not_lt_zero _), fun x hx => (by cases hx), fun j hj => (by rw [nwI_z]; exact fit_0)⟩
      refine r_aload_n (pc' := 57) dJ5_init_a7421_56 rfl 3 rfl rfl ?_
      refine r_aload_n (pc' := 58) dJ5_init_a7421_57 rfl 4 rfl rfl ?_
      refine r_callU (pc' := 61) (k' := 2) (n' := 3000) (nn := 1) (As := [_]) (rest := []) dJ5_init_a7421_58 uc_J5_43 hob (by decide) rfl rfl rfl rfl rfl rfl (Nat.le_of_ble_eq_true rfl) rfl (c_J4_append_cf1ce hn ht hs (by rw [List.length_nil]; omega) (fun I' S' hp => ?_))
      refine r_pop (pc' := 62) dJ5_init_a7421_61 rfl rfl ?_
      refine r_ret dJ5_init_a7421_62 rfl (by decide) (by decide) (hQ _ _ ?_)
      obtain ⟨v', cap', g1, g2, g3⟩ := hp
      rw [List.nil_append] at g1
      refine ⟨v', cap', g1, g2.elim (fun e => e ▸ hz2) (fun e q => e (show v' ∈ sL S ++ [z] from List.mem_append_left _ q)), ?_⟩
      refine Kp.fin ((Kp.st (k := 1) (x := 0) (Or.inl rfl)).tr ((Kp.nw hz2).tr ((Kp.stR (Or.inl rfl)).tr (g3.mono (fun c _ e => e.elim Or.inl (fun e => Or.inr (e ▸ hz2)))))))
set_option maxHeartbeats 2000000 in
theorem c_J4_init_a7421 {Ω : JO} {I : JI} {S : JS} {Q : JQ} {b : Nat} (ho : b ∈ sL S ∧ sK S b = 16) (h3 : I b 3 = 0) {own : String} {sk : Nat} {tx : String} (ht : Cond.stringRef own sk tx ∈ lw_tbl) (hs : ∀ x, x ∈ tb tx → x < 128) (hl : (tb tx).length ≤ 100) (hQ : ∀ I' S', SBn b I S I' S' (tb tx) → Q (.inl none) I' S') : Call Ω m_J4_init_a7421 [.ref b, .ref (Ω.2.2.2.2.1 own sk).1] I S Q := by
  refine call_of (by decide +kernel) rfl (Nat.le_of_ble_eq_true rfl) ?_
  change AA Ω m_J4_init_a7421 (FQ Ω m_J4_init_a7421 Q) 0 0 0 [(0, .ref b), (1, .ref (Ω.2.2.2.2.1 own sk).1)] [] I S
  refine r_aload_n (pc' := 1) dJ4_init_a7421_0 rfl 0 rfl rfl ?_
  refine r_aload_n (pc' := 2) dJ4_init_a7421_1 rfl 1 rfl rfl ?_
  refine r_callI (pc' := 5) (k' := 2) (n' := 3000) (nn := 1) (As := [_]) (rest := []) dJ4_init_a7421_2 mb_J5_init_a7421 mc_J5_init_a7421 lk_J4_7 rfl rfl rfl rfl rfl (Nat.le_of_ble_eq_true rfl) rfl (c_J5_init_a7421 ho h3 ht hs hl (fun I' S' hp => (cpV ?_)))
  exact r_ret dJ4_init_a7421_5 rfl (by decide) (by decide) (hQ _ _ hp)
set_option maxHeartbeats 2000000 in
theorem c_J1_canEncode_fc78d {Ω : JO} {I : JI} {S : JS} {Q : JQ} {c : Nat} (hc : c < 128) (hQ : Q (.inl (some (.int 1))) I S) : Call Ω m_J1_canEncode_fc78d [.int (nI c)] I S Q := by
  refine call_of (by decide +kernel) rfl (Nat.le_of_ble_eq_true rfl) ?_
  change AA Ω m_J1_canEncode_fc78d (FQ Ω m_J1_canEncode_fc78d Q) 0 0 0 [(0, .int (nI c))] [] I S
  refine r_iload_n (pc' := 1) dJ1_canEncode_fc78d_0 rfl 0 rfl rfl ?_
  refine r_sipush (pc' := 4) (v := 255) dJ1_canEncode_fc78d_1 (by decide) rfl ?_
  refine r_icmp_gt (tgt := 11) (pc' := 7) dJ1_canEncode_fc78d_4 rfl rfl (fun h4 => ?_) (fun h4 => ?_)
  · exact absurd h4 (show ¬ nI 255 < nI c from nI_nlt (by omega) (by decide))
  · refine r_iconst (pc' := 8) (v := 1) dJ1_canEncode_fc78d_7 (by decide) rfl ?_
    refine r_goto (tgt := 12) dJ1_canEncode_fc78d_8 rfl ?_
    exact r_zret dJ1_canEncode_fc78d_12 rfl (by first | exact zb01 _ | decide) (by decide) (by decide) (hQ)
set_option maxHeartbeats 2000000 in
theorem c_J5_append_3fe6f {Ω : JO} {I : JI} {S : JS} {Q : JQ} {b v cap c : Nat} {t : List Nat} (h : SBk S I b v cap t) (hc : c < 128) (hl : t.length + 1 ≤ 1000) (hQ : ∀ I' S', SBp b v I S I' S' (t ++ [c]) → Q (.inl (some (.ref b))) I' S') : Call Ω m_J5_append_3fe6f [.ref b, .int (nI c)] I S Q := by
  refine call_of (by decide +kernel) rfl (Nat.le_of_ble_eq_true rfl) ?_
  change AA Ω m_J5_append_3fe6f (FQ Ω m_J5_append_3fe6f Q) 0 0 0 [(0, .ref b), (1, .int (nI c))] [] I S
  refine r_aload_n (pc' := 1) dJ5_append_3fe6f_0 rfl 0 rfl rfl ?_
  refine r_aload_n (pc' := 2) dJ5_append_3fe6f_1 rfl 0 rfl rfl ?_
  refine r_getIv (pc' := 5) dJ5_append_3fe6f_2 fa_J5_79 h.o rfl h.n rfl ?_
  refine r_iconst (pc' := 6) (v := 1) dJ5_append_3fe6f_5 (by decide) rfl ?_
  refine r_iaddv (pc' := 7) dJ5_append_3fe6f_6 (nI_add _ 1) rfl ?_
  refine r_callU (pc' := 10) (k' := 1) (n' := 2000) (nn := 1) (As := [_]) (rest := []) dJ5_append_3fe6f_7 uc_J5_100 h.o (by decide) rfl rfl rfl rfl rfl rfl (Nat.le_of_ble_eq_true rfl) rfl (c_J5_ensureCapacityInternal_d00df h hl (fun v1 cap1 I1 S1 hq h1 hv hK => ?_))
  refine r_aload_n (pc' := 11) dJ5_append_3fe6f_10 rfl 0 rfl rfl ?_
  refine r_callU (pc' := 14) (k' := 1) (n' := 2000) (nn := 0) (As := []) (rest := []) dJ5_append_3fe6f_11 uc_J5_83 h1.o (by decide) rfl rfl rfl rfl rfl rfl (Nat.le_of_ble_eq_true rfl) rfl (c_J5_isLatin1_aae02 h1.o h1.cd (?_))
  refine r_if_eq (tgt := 45) (pc' := 17) dJ5_append_3fe6f_14 rfl rfl (fun h14 => ?_) (fun h14 => ?_)
  · exact absurd h14 (by decide)
  · refine r_iload_n (pc' := 18) dJ5_append_3fe6f_17 rfl 1 rfl rfl ?_
    refine r_callS (pc' := 21) (k' := 1) (n' := 2000) (nn := 1) (As := [_]) (rest := []) dJ5_append_3fe6f_18 mb_J1_canEncode_fc78d ms_J1_canEncode_fc78d lk_J5_191 rfl rfl rfl rfl rfl (Nat.le_of_ble_eq_true rfl) rfl (c_J1_canEncode_fc78d hc (cpI ?_))
    refine r_if_eq (tgt := 45) (pc' := 24) dJ5_append_3fe6f_21 rfl rfl (fun h21 => ?_) (fun h21 => ?_)
    · exact absurd h21 (by decide)
    · refine r_aload_n (pc' := 25) dJ5_append_3fe6f_24 rfl 0 rfl rfl ?_
      refine r_getO (pc' := 28) dJ5_append_3fe6f_25 fa_J5_15 h1.o rfl h1.r rfl ?_
      refine r_aload_n (pc' := 29) dJ5_append_3fe6f_28 rfl 0 rfl rfl ?_
      refine r_dup (pc' := 30) dJ5_append_3fe6f_29 rfl rfl ?_
      refine r_getIv (pc' := 33) dJ5_append_3fe6f_30 fa_J5_79 h1.o rfl h1.n rfl ?_
      refine r_dup_x1 (pc' := 34) dJ5_append_3fe6f_33 rfl rfl rfl ?_
      refine r_iconst (pc' := 35) (v := 1) dJ5_append_3fe6f_34 (by decide) rfl ?_
      refine r_iaddv (pc' := 36) dJ5_append_3fe6f_35 (nI_add _ 1) rfl ?_
      refine r_putI (pc' := 39) dJ5_append_3fe6f_36 fa_J5_79 h1.o rfl rfl ?_
      refine r_iload_n (pc' := 40) dJ5_append_3fe6f_39 rfl 1 rfl rfl ?_
      refine r_i2b (pc' := 41) dJ5_append_3fe6f_40 rfl ?_
      refine r_bastN (pc' := 42) dJ5_append_3fe6f_41 h1.arr rfl hq (by have := h1.hc; omega) (nar_b2 hc) rfl ?_
      refine r_goto (tgt := 75) dJ5_append_3fe6f_42 rfl ?_
      refine r_aload_n (pc' := 76) dJ5_append_3fe6f_75 rfl 0 rfl rfl ?_
      exact r_aret dJ5_append_3fe6f_76 rfl (Or.inl ⟨_, rfl⟩) (Or.inr ⟨_, rfl⟩) (by decide) (by decide) (hQ _ _ (SBp.mk h1 hv hK (by rw [List.length_append]; exact hq) (fun x hx => by rw [List.mem_singleton.mp hx]; exact hc) rfl (by rw [stI_o h1.ne, stI_aj (by decide)]; exact h1.cd) (by rw [stI_o h1.ne, stI_at, List.length_append]; rfl) (fun j hj => by rw [stI_aj (Nat.ne_of_lt hj), stI_o h1.ne.symm]) (fun j hj => by have e : j = 0 := Nat.lt_one_iff.mp hj; subst e; show stI _ v1 t.length (nI c) v1 t.length = nI c; exact stI_at) (fun j hj => by rw [List.length_append] at hj; rw [stI_aj (Nat.ne_of_gt hj), stI_o h1.ne.symm]) (fun c hc hcv => by rw [stI_ne hcv, stI_ne hc])))
set_option maxHeartbeats 2000000 in
theorem c_J4_append_cf468 {Ω : JO} {I : JI} {S : JS} {Q : JQ} {b v cap c : Nat} {t : List Nat} (h : SBk S I b v cap t) (hc : c < 128) (hl : t.length + 1 ≤ 1000) (hQ : ∀ I' S', SBp b v I S I' S' (t ++ [c]) → Q (.inl (some (.ref b))) I' S') : Call Ω m_J4_append_cf468 [.ref b, .int (nI c)] I S Q := by
  refine call_of (by decide +kernel) rfl (Nat.le_of_ble_eq_true rfl) ?_
  change AA Ω m_J4_append_cf468 (FQ Ω m_J4_append_cf468 Q) 0 0 0 [(0, .ref b), (1, .int (nI c))] [] I S
  refine r_aload_n (pc' := 1) dJ4_append_cf468_0 rfl 0 rfl rfl ?_
  refine r_iload_n (pc' := 2) dJ4_append_cf468_1 rfl 1 rfl rfl ?_
  refine r_callSU (pc' := 5) (k' := 1) (n' := 2000) (nn := 1) (As := [_]) (rest := []) dJ4_append_cf468_2 sc_J4_50 h.o (by decide) rfl rfl rfl rfl rfl rfl (Nat.le_of_ble_eq_true rfl) rfl (c_J5_append_3fe6f h hc hl (fun I' S' hp => ?_))
  refine r_pop (pc' := 6) dJ4_append_cf468_5 rfl rfl ?_
  refine r_aload_n (pc' := 7) dJ4_append_cf468_6 rfl 0 rfl rfl ?_
  exact r_aret dJ4_append_cf468_7 rfl (Or.inl ⟨_, rfl⟩) (Or.inr ⟨_, rfl⟩) (by decide) (by decide) (hQ _ _ hp)
def dg (u : Nat) : List Nat := if u < 10 then [48 + u] else [48 + u / 10, 48 + u % 10]
theorem dg_1 {u : Nat} (h : u < 10) : dg u = [48 + u] := if_pos h
theorem dg_2 {u : Nat} (h : ¬ u < 10) : dg u = [48 + u / 10, 48 + u % 10] := if_neg h
theorem dg_le (u : Nat) : 1 ≤ (dg u).length ∧ (dg u).length ≤ 2 := by
  by_cases h : u < 10
  · rw [dg_1 h]; exact ⟨Nat.le_refl 1, (by decide : 1 ≤ 2)⟩
  · rw [dg_2 h]; exact ⟨(by decide : 1 ≤ 2), Nat.le_refl 2⟩
theorem dg_sm {u : Nat} (hu : u < 100) : ∀ x, x ∈ dg u → x < 128 := by
  intro x hx
  by_cases h : u < 10
  · rw [dg_1 h, List.mem_singleton] at hx; omega
  · rw [dg_2 h] at hx
    simp only [List.mem_cons, List.not_mem_nil, or_false] at hx
    omega
theorem ng_10 {u : Nat} (h : u < 100) : (-(nI u) ≤ -10) ↔ 10 ≤ u := by_fin (n := 100) (P := fun u => (-(nI u) ≤ -10) ↔ 10 ≤ u) (by decide +kernel) h
theorem ng_9 {u : Nat} (h : u < 100) : (-9 ≤ -(nI u)) ↔ u < 10 := by_fin (n := 100) (P := fun u => (-9 ≤ -(nI u)) ↔ u < 10) (by decide +kernel) h
theorem ng_100 {u : Nat} (h : u < 100) : ¬ (-(nI u) ≤ -100) := by_fin (n := 100) (P := fun u => ¬ (-(nI u) ≤ -100)) (by decide +kernel) h
theorem ng_lt {u : Nat} (h : u < 100) : (-100 : Int32) < -(nI u) := by_fin (n := 100) (P := fun u => (-100 : Int32) < -(nI u)) (by decide +kernel) h
theorem nI_m1p {n : Nat} (h : 0 < n) : nI n + Int32.ofInt (-1) = nI (n - 1) := by
  obtain ⟨m, rfl⟩ : ∃ m, n = m + 1 := ⟨n - 1, by omega⟩
  exact nI_m1 m
set_option maxHeartbeats 2000000 in
theorem c_J6_stringSize_0f7a4 {Ω : JO} {I : JI} {S : JS} {Q : JQ} {u : Nat} (hu : u < 100) (hQ : Q (.inl (some (.int (nI (dg u).length)))) I S) : Call Ω m_J6_stringSize_0f7a4 [.int (nI u)] I S Q := by
  refine call_of (by decide +kernel) rfl (Nat.le_of_ble_eq_true rfl) ?_
  change AA Ω m_J6_stringSize_0f7a4 (FQ Ω m_J6_stringSize_0f7a4 Q) 0 0 0 [(0, .int (nI u))] [] I S
  have e1 : ¬ (-(nI u) ≤ -10) → (1 : Int32) + 0 = nI (dg u).length := fun q => by
    rw [dg_1 (Nat.lt_of_not_le fun h => q ((ng_10 hu).mpr h))]; rfl
  have e2 : -(nI u) ≤ -10 → (1 : Int32) + Int32.ofInt 1 + 0 = nI (dg u).length := fun q => by
    rw [dg_2 (Nat.not_lt.mpr ((ng_10 hu).mp q))]; rfl
  refine r_iconst (pc' := 1) (v := 1) dJ6_stringSize_0f7a4_0 (by decide) rfl ?_
  refine r_istore_n (pc' := 2) (lv' := [(1, _), (0, _)]) dJ6_stringSize_0f7a4_1 rfl (by decide) rfl rfl ?_
  refine r_iload_n (pc' := 3) dJ6_stringSize_0f7a4_2 rfl 1 rfl rfl ?_
  refine r_if_lt (tgt := 11) (pc' := 6) dJ6_stringSize_0f7a4_3 rfl rfl (fun h3 => ?_) (fun h3 => ?_)
  · exact absurd h3 (nI_pos (by omega))
  · refine r_iconst (pc' := 7) (v := 0) dJ6_stringSize_0f7a4_6 (by decide) rfl ?_
    refine r_istore_n (pc' := 8) (lv' := [(1, _), (0, _)]) dJ6_stringSize_0f7a4_7 rfl (by decide) rfl rfl ?_
    refine r_iload_n (pc' := 9) dJ6_stringSize_0f7a4_8 rfl 1 rfl rfl ?_
    refine r_ineg (pc' := 10) dJ6_stringSize_0f7a4_9 rfl ?_
    refine r_istore_n (pc' := 11) (lv' := [(0, _), (1, _)]) dJ6_stringSize_0f7a4_10 rfl (by decide) rfl rfl ?_
    refine r_bipush (pc' := 13) (v := -10) dJ6_stringSize_0f7a4_11 (by decide) rfl ?_
    refine r_istore_n (pc' := 14) (lv' := [(2, _), (0, _), (1, _)]) dJ6_stringSize_0f7a4_13 rfl (by decide) rfl rfl ?_
    refine r_iconst (pc' := 15) (v := 1) dJ6_stringSize_0f7a4_14 (by decide) rfl ?_
    refine r_istore_n (pc' := 16) (lv' := [(3, _), (2, _), (0, _), (1, _)]) dJ6_stringSize_0f7a4_15 rfl (by decide) rfl rfl ?_
    refine r_iload_n (pc' := 17) dJ6_stringSize_0f7a4_16 rfl 0 rfl rfl ?_
    refine r_bipush (pc' := 19) (v := 10) dJ6_stringSize_0f7a4_17 (by decide) rfl ?_
    refine r_icmp_ge (tgt := 42) (pc' := 22) dJ6_stringSize_0f7a4_19 rfl rfl (fun h19 => ?_) (fun h19 => ?_)
    · exact absurd h19 (by decide)
    · refine r_iload_n (pc' := 23) dJ6_stringSize_0f7a4_22 rfl 2 rfl rfl ?_
      refine r_iload_n (pc' := 24) dJ6_stringSize_0f7a4_23 rfl 1 rfl rfl ?_
      refine r_icmp_le (tgt := 31) (pc' := 27) dJ6_stringSize_0f7a4_24 rfl rfl (fun g24 => ?_) (fun g24 => ?_)
      · refine r_bipush (pc' := 33) (v := 10) dJ6_stringSize_0f7a4_31 (by decide) rfl ?_
        refine r_iload_n (pc' := 34) dJ6_stringSize_0f7a4_33 rfl 1 rfl rfl ?_
        refine r_imulv (pc' := 35) dJ6_stringSize_0f7a4_34 (show (10 : Int32) * -10 = -100 from by decide) rfl ?_
        refine r_istore_n (pc' := 36) (lv' := [(2, _), (3, _), (0, _), (1, _)]) dJ6_stringSize_0f7a4_35 rfl (by decide) rfl rfl ?_
        refine r_iinc (pc' := 39) (lv' := [(3, _), (2, _), (0, _), (1, _)]) dJ6_stringSize_0f7a4_36 1 rfl rfl (by decide) rfl rfl ?_
        refine r_goto (tgt := 16) dJ6_stringSize_0f7a4_39 rfl ?_
        refine r_iload_n (pc' := 17) dJ6_stringSize_0f7a4_16 rfl 0 rfl rfl ?_
        refine r_bipush (pc' := 19) (v := 10) dJ6_stringSize_0f7a4_17 (by decide) rfl ?_
        refine r_icmp_ge (tgt := 42) (pc' := 22) dJ6_stringSize_0f7a4_19 rfl rfl (fun h19 => ?_) (fun h19 => ?_)
        · exact absurd h19 (by decide)
        · refine r_iload_n (pc' := 23) dJ6_stringSize_0f7a4_22 rfl 2 rfl rfl ?_
          refine r_iload_n (pc' := 24) dJ6_stringSize_0f7a4_23 rfl 1 rfl rfl ?_
          refine r_icmp_le (tgt := 31) (pc' := 27) dJ6_stringSize_0f7a4_24 rfl rfl (fun h24 => ?_) (fun h24 => ?_)
          · exact absurd h24 (ng_100 hu)
          · refine r_iload_n (pc' := 28) dJ6_stringSize_0f7a4_27 rfl 0 rfl rfl ?_
            refine r_iload_n (pc' := 29) dJ6_stringSize_0f7a4_28 rfl 3 rfl rfl ?_
            refine r_iaddv (pc' := 30) dJ6_stringSize_0f7a4_29 (by first | exact e2 g24 | exact e1 g24) rfl ?_
            exact r_iret dJ6_stringSize_0f7a4_30 rfl (by decide) (by decide) (hQ)
      · refine r_iload_n (pc' := 28) dJ6_stringSize_0f7a4_27 rfl 0 rfl rfl ?_
        refine r_iload_n (pc' := 29) dJ6_stringSize_0f7a4_28 rfl 3 rfl rfl ?_
        refine r_iaddv (pc' := 30) dJ6_stringSize_0f7a4_29 (by first | exact e2 g24 | exact e1 g24) rfl ?_
        exact r_iret dJ6_stringSize_0f7a4_30 rfl (by decide) (by decide) (hQ)
set_option maxHeartbeats 2000000 in
theorem c_J6_getChars_ba4f3 {Ω : JO} {I : JI} {S : JS} {Q : JQ} {u d v N : Nat} (hu : u < 100) (hA : ArE 10 S v N) (hin : d + (dg u).length ≤ N) (hN : N < 2 ^ 31) (hQ : ∀ I' r, (∀ c, c ≠ v → I' c = I c) → (∀ j, j < (dg u).length → I' v (d + j) = nI ((dg u).getD j 0)) → (∀ j, j < d ∨ d + (dg u).length ≤ j → I' v j = I v j) → Q (.inl (some (.int r))) I' S) : Call Ω m_J6_getChars_ba4f3 [.int (nI u), .int (nI (d + (dg u).length)), .ref v] I S Q := by
  refine call_of (by decide +kernel) rfl (Nat.le_of_ble_eq_true rfl) ?_
  change AA Ω m_J6_getChars_ba4f3 (FQ Ω m_J6_getChars_ba4f3 Q) 0 0 0 [(0, .int (nI u)), (1, .int (nI (d + (dg u).length))), (2, .ref v)] [] I S
  have hd := dg_le u
  refine r_iload_n (pc' := 1) dJ6_getChars_ba4f3_0 rfl 1 rfl rfl ?_
  refine r_istore (pc' := 3) (lv' := [(5, _), (0, _), (1, _), (2, _)]) dJ6_getChars_ba4f3_1 (by decide) rfl rfl ?_
  refine r_iload_n (pc' := 4) dJ6_getChars_ba4f3_3 rfl 1 rfl rfl ?_
  refine r_if_ge (tgt := 11) (pc' := 7) dJ6_getChars_ba4f3_4 rfl rfl (fun h4 => ?_) (fun h4 => ?_)
  · refine r_iconst (pc' := 12) (v := 0) dJ6_getChars_ba4f3_11 (by decide) rfl ?_
    refine r_istore (pc' := 14) (lv' := [(6, _), (5, _), (0, _), (1, _), (2, _)]) dJ6_getChars_ba4f3_12 (by decide) rfl rfl ?_
    refine r_iload (pc' := 16) dJ6_getChars_ba4f3_14 0 rfl rfl ?_
    refine r_if_ne (tgt := 22) (pc' := 19) dJ6_getChars_ba4f3_16 rfl rfl (fun h16 => ?_) (fun h16 => ?_)
    · exact absurd rfl h16
    · refine r_iload_n (pc' := 20) dJ6_getChars_ba4f3_19 rfl 2 rfl rfl ?_
      refine r_ineg (pc' := 21) dJ6_getChars_ba4f3_20 rfl ?_
      refine r_istore_n (pc' := 22) (lv' := [(0, _), (6, _), (5, _), (1, _), (2, _)]) dJ6_getChars_ba4f3_21 rfl (by decide) rfl rfl ?_
      refine r_iload_n (pc' := 23) dJ6_getChars_ba4f3_22 rfl 0 rfl rfl ?_
      refine r_bipush (pc' := 25) (v := -100) dJ6_getChars_ba4f3_23 (by decide) rfl ?_
      refine r_icmp_gt (tgt := 72) (pc' := 28) dJ6_getChars_ba4f3_25 rfl rfl (fun h25 => ?_) (fun h25 => ?_)
      · refine r_aload_n (pc' := 73) dJ6_getChars_ba4f3_72 rfl 4 rfl rfl ?_
        refine r_iinc (pc' := 76) (lv' := [(5, _), (0, _), (6, _), (1, _), (2, _)]) dJ6_getChars_ba4f3_73 2 rfl rfl (by decide) rfl rfl ?_
        refine r_iload (pc' := 78) dJ6_getChars_ba4f3_76 0 rfl rfl ?_
        refine r_gets (pc' := 81) (v := .ref (oD1 Ω)) dJ6_getChars_ba4f3_78 fl_J6_83 (fun _ _ h => h.2.2.2.2.2.2.2.2.2.1.1) rfl ?_
        refine r_iload_n (pc' := 82) dJ6_getChars_ba4f3_81 rfl 1 rfl rfl ?_
        refine r_ineg (pc' := 83) dJ6_getChars_ba4f3_82 rfl ?_
        refine r_dig1 (pc' := 84) (j := u) dJ6_getChars_ba4f3_83 hu Int32.neg_neg rfl rfl ?_
        refine r_bastN (pc' := 85) dJ6_getChars_ba4f3_84 hA (nI_m1p (by omega)) (by omega) hN (nar_b (by omega)) rfl ?_
        refine r_iload_n (pc' := 86) dJ6_getChars_ba4f3_85 rfl 1 rfl rfl ?_
        refine r_bipush (pc' := 88) (v := -9) dJ6_getChars_ba4f3_86 (by decide) rfl ?_
        refine r_icmp_ge (tgt := 104) (pc' := 91) dJ6_getChars_ba4f3_88 rfl rfl (fun h88 => ?_) (fun h88 => ?_)
        · have hL : (dg u).length = 1 := by rw [dg_1 ((ng_9 hu).mp h88)]; rfl
          refine r_iload (pc' := 106) dJ6_getChars_ba4f3_104 2 rfl rfl ?_
          refine r_if_eq (tgt := 118) (pc' := 109) dJ6_getChars_ba4f3_106 rfl rfl (fun h106 => ?_) (fun h106 => ?_)
          · refine r_iload (pc' := 120) dJ6_getChars_ba4f3_118 0 rfl rfl ?_
            refine r_iret dJ6_getChars_ba4f3_120 rfl (by decide) (by decide) (hQ _ _ ?_ ?_ ?_)
            · intro c hc
              first | rw [stI_ne hc, stI_ne hc] | rw [stI_ne hc]
            · have h88 := h88
              rw [ng_9 hu] at h88
              first
                | (rw [dg_1 h88]
                   intro j hj
                   have e : j = 0 := Nat.lt_one_iff.mp hj
                   subst e
                   show stI I v (d + 1 - 1) (nI (48 + u % 10)) v d = nI (48 + u)
                   rw [show d + 1 - 1 = d from rfl, stI_at, Nat.mod_eq_of_lt h88])
                | (rw [dg_2 h88]
                   intro j hj
                   show stI (stI I v (d + 2 - 1) (nI (48 + u % 10))) v (d + 2 - 1 - 1) (nI (48 + u / 10)) v (d + j) = _
                   rw [show d + 2 - 1 - 1 = d from rfl, show d + 2 - 1 = d + 1 from rfl]
                   rcases (show j = 0 ∨ j = 1 from by have : j < 2 := hj; omega) with rfl | rfl
                   · exact stI_at
                   · rw [stI_aj (by omega), stI_at]; rfl)
            · intro j hj
              first | rw [stI_aj (by omega), stI_aj (by omega)] | rw [stI_aj (by omega)]
          · exact absurd rfl h106
        · have hL : (dg u).length = 2 := by rw [dg_2 (fun q => h88 ((ng_9 hu).mpr q))]; rfl
          refine r_aload_n (pc' := 92) dJ6_getChars_ba4f3_91 rfl 4 rfl rfl ?_
          refine r_iinc (pc' := 95) (lv' := [(5, _), (0, _), (6, _), (1, _), (2, _)]) dJ6_getChars_ba4f3_92 0 rfl rfl (by decide) rfl rfl ?_
          refine r_iload (pc' := 97) dJ6_getChars_ba4f3_95 0 rfl rfl ?_
          refine r_gets (pc' := 100) (v := .ref (oD2 Ω)) dJ6_getChars_ba4f3_97 fl_J6_87 (fun _ _ h => h.2.2.2.2.2.2.2.2.2.2.1) rfl ?_
          refine r_iload_n (pc' := 101) dJ6_getChars_ba4f3_100 rfl 1 rfl rfl ?_
          refine r_ineg (pc' := 102) dJ6_getChars_ba4f3_101 rfl ?_
          refine r_dig2 (pc' := 103) (j := u) dJ6_getChars_ba4f3_102 hu Int32.neg_neg rfl rfl ?_
          refine r_bastN (pc' := 104) dJ6_getChars_ba4f3_103 hA ((congrArg (· + Int32.ofInt (-1)) (nI_m1p (by omega))).trans (nI_m1p (by omega))) (by omega) hN (nar_b (by omega)) rfl ?_
          refine r_iload (pc' := 106) dJ6_getChars_ba4f3_104 2 rfl rfl ?_
          refine r_if_eq (tgt := 118) (pc' := 109) dJ6_getChars_ba4f3_106 rfl rfl (fun h106 => ?_) (fun h106 => ?_)
          · refine r_iload (pc' := 120) dJ6_getChars_ba4f3_118 0 rfl rfl ?_
            refine r_iret dJ6_getChars_ba4f3_120 rfl (by decide) (by decide) (hQ _ _ ?_ ?_ ?_)
            · intro c hc
              first | rw [stI_ne hc, stI_ne hc] | rw [stI_ne hc]
            · have h88 := h88
              rw [ng_9 hu] at h88
              first
                | (rw [dg_1 h88]
                   intro j hj
                   have e : j = 0 := Nat.lt_one_iff.mp hj
                   subst e
                   show stI I v (d + 1 - 1) (nI (48 + u % 10)) v d = nI (48 + u)
                   rw [show d + 1 - 1 = d from rfl, stI_at, Nat.mod_eq_of_lt h88])
                | (rw [dg_2 h88]
                   intro j hj
                   show stI (stI I v (d + 2 - 1) (nI (48 + u % 10))) v (d + 2 - 1 - 1) (nI (48 + u / 10)) v (d + j) = _
                   rw [show d + 2 - 1 - 1 = d from rfl, show d + 2 - 1 = d + 1 from rfl]
                   rcases (show j = 0 ∨ j = 1 from by have : j < 2 := hj; omega) with rfl | rfl
                   · exact stI_at
                   · rw [stI_aj (by omega), stI_at]; rfl)
            · intro j hj
              first | rw [stI_aj (by omega), stI_aj (by omega)] | rw [stI_aj (by omega)]
          · exact absurd rfl h106
      · exact absurd (ng_lt hu) h25
  · exact absurd (nI_pos' (by omega)) h4
