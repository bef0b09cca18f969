/-! StringBuilder: append(int), toString; a String of one's own -/
set_option maxHeartbeats 2000000 in
theorem c_J5_append_c97b9 {Ω : JO} {I : JI} {S : JS} {Q : JQ} {b v cap u : Nat} {t : List Nat} (h : SBk S I b v cap t) (hu : u < 100) (hl : t.length + 2 ≤ 1000) (hQ : ∀ I' S', SBp b v I S I' S' (t ++ dg u) → Q (.inl (some (.ref b))) I' S') : Call Ω m_J5_append_c97b9 [.ref b, .int (nI u)] I S Q := by
  refine call_of (by decide +kernel) rfl (Nat.le_of_ble_eq_true rfl) ?_
  change AA Ω m_J5_append_c97b9 (FQ Ω m_J5_append_c97b9 Q) 0 0 0 [(0, .ref b), (1, .int (nI u))] [] I S
  have hd := dg_le u
  refine r_aload_n (pc' := 1) dJ5_append_c97b9_0 rfl 0 rfl rfl ?_
  refine r_getIv (pc' := 4) dJ5_append_c97b9_1 fa_J5_79 h.o rfl h.n rfl ?_
  refine r_istore_n (pc' := 5) (lv' := [(2, _), (0, _), (1, _)]) dJ5_append_c97b9_4 rfl (by decide) rfl rfl ?_
  refine r_iload_n (pc' := 6) dJ5_append_c97b9_5 rfl 0 rfl rfl ?_
  refine r_iload_n (pc' := 7) dJ5_append_c97b9_6 rfl 2 rfl rfl ?_
  refine r_callS (pc' := 10) (k' := 0) (n' := 0) (nn := 1) (As := [_]) (rest := [_]) dJ5_append_c97b9_7 mb_J6_stringSize_0f7a4 ms_J6_stringSize_0f7a4 lk_J5_245 rfl rfl rfl rfl rfl (Nat.le_of_ble_eq_true rfl) rfl (c_J6_stringSize_0f7a4 hu (cpI ?_))
  refine r_iaddv (pc' := 11) dJ5_append_c97b9_10 (nI_add _ _) rfl ?_
  refine r_istore_n (pc' := 12) (lv' := [(3, _), (2, _), (0, _), (1, _)]) dJ5_append_c97b9_11 rfl (by decide) rfl rfl ?_
  refine r_aload_n (pc' := 13) dJ5_append_c97b9_12 rfl 2 rfl rfl ?_
  refine r_iload_n (pc' := 14) dJ5_append_c97b9_13 rfl 0 rfl rfl ?_
  refine r_callU (pc' := 17) (k' := 1) (n' := 2000) (nn := 1) (As := [_]) (rest := []) dJ5_append_c97b9_14 uc_J5_100 h.o (by decide) rfl rfl rfl rfl rfl rfl (Nat.le_of_ble_eq_true rfl) rfl (c_J5_ensureCapacityInternal_d00df h (by omega) (fun v1 cap1 I1 S1 hq h1 hv hK => ?_))
  refine r_aload_n (pc' := 18) dJ5_append_c97b9_17 rfl 2 rfl rfl ?_
  refine r_callU (pc' := 21) (k' := 1) (n' := 2000) (nn := 0) (As := []) (rest := []) dJ5_append_c97b9_18 uc_J5_83 h1.o (by decide) rfl rfl rfl rfl rfl rfl (Nat.le_of_ble_eq_true rfl) rfl (c_J5_isLatin1_aae02 h1.o h1.cd (?_))
  refine r_if_eq (tgt := 37) (pc' := 24) dJ5_append_c97b9_21 rfl rfl (fun h21 => ?_) (fun h21 => ?_)
  · exact absurd h21 (by decide)
  · refine r_iload_n (pc' := 25) dJ5_append_c97b9_24 rfl 3 rfl rfl ?_
    refine r_iload_n (pc' := 26) dJ5_append_c97b9_25 rfl 0 rfl rfl ?_
    refine r_aload_n (pc' := 27) dJ5_append_c97b9_26 rfl 2 rfl rfl ?_
    refine r_getO (pc' := 30) dJ5_append_c97b9_27 fa_J5_15 h1.o rfl h1.r rfl ?_
    refine r_callS (pc' := 33) (k' := 1) (n' := 2000) (nn := 3) (As := [_, _, _]) (rest := []) dJ5_append_c97b9_30 mb_J6_getChars_ba4f3 ms_J6_getChars_ba4f3 lk_J5_248 rfl rfl rfl rfl rfl (Nat.le_of_ble_eq_true rfl) rfl (c_J6_getChars_ba4f3 hu h1.arr hq (by have := h1.hc; omega) (fun I2 r2 ho hin hout => (cpI ?_)))
    refine r_pop (pc' := 34) dJ5_append_c97b9_33 rfl rfl ?_
    refine r_goto (tgt := 48) dJ5_append_c97b9_34 rfl ?_
    refine r_aload_n (pc' := 49) dJ5_append_c97b9_48 rfl 2 rfl rfl ?_
    refine r_iload_n (pc' := 50) dJ5_append_c97b9_49 rfl 0 rfl rfl ?_
    refine r_putI (pc' := 53) dJ5_append_c97b9_50 fa_J5_79 h1.o rfl rfl ?_
    refine r_aload_n (pc' := 54) dJ5_append_c97b9_53 rfl 2 rfl rfl ?_
    exact r_aret dJ5_append_c97b9_54 rfl (Or.inl ⟨_, rfl⟩) (Or.inr ⟨_, rfl⟩) (by decide) (by decide) (hQ _ _ (SBp.mk h1 hv hK (by rw [List.length_append]; exact hq) (dg_sm hu) rfl (by rw [stI_aj (by decide), ho _ h1.ne]; exact h1.cd) (by rw [stI_at, List.length_append]) (fun j hj => by rw [stI_o h1.ne.symm, hout j (Or.inl hj)]) (fun j hj => by rw [stI_o h1.ne.symm, hin j hj]) (fun j hj => by rw [stI_o h1.ne.symm, hout j (Or.inr (by rw [List.length_append] at hj; exact hj))]) (fun c hc hcv => by rw [stI_ne hc, ho c hcv])))
set_option maxHeartbeats 2000000 in
theorem c_J4_append_bf812 {Ω : JO} {I : JI} {S : JS} {Q : JQ} {b v cap u : Nat} {t : List Nat} (h : SBk S I b v cap t) (hu : u < 100) (hl : t.length + 2 ≤ 1000) (hQ : ∀ I' S', SBp b v I S I' S' (t ++ dg u) → Q (.inl (some (.ref b))) I' S') : Call Ω m_J4_append_bf812 [.ref b, .int (nI u)] I S Q := by
  refine call_of (by decide +kernel) rfl (Nat.le_of_ble_eq_true rfl) ?_
  change AA Ω m_J4_append_bf812 (FQ Ω m_J4_append_bf812 Q) 0 0 0 [(0, .ref b), (1, .int (nI u))] [] I S
  refine r_aload_n (pc' := 1) dJ4_append_bf812_0 rfl 0 rfl rfl ?_
  refine r_iload_n (pc' := 2) dJ4_append_bf812_1 rfl 1 rfl rfl ?_
  refine r_callSU (pc' := 5) (k' := 1) (n' := 2000) (nn := 1) (As := [_]) (rest := []) dJ4_append_bf812_2 sc_J4_53 h.o (by decide) rfl rfl rfl rfl rfl rfl (Nat.le_of_ble_eq_true rfl) rfl (c_J5_append_c97b9 h hu hl (fun I' S' hp => ?_))
  refine r_pop (pc' := 6) dJ4_append_bf812_5 rfl rfl ?_
  refine r_aload_n (pc' := 7) dJ4_append_bf812_6 rfl 0 rfl rfl ?_
  exact r_aret dJ4_append_bf812_7 rfl (Or.inl ⟨_, rfl⟩) (Or.inr ⟨_, rfl⟩) (by decide) (by decide) (hQ _ _ hp)
/-- a String of one's own -/
def STk (S : JS) (I : JI) (z : Nat) (t : List Nat) : Prop := (z ∈ sL S ∧ sK S z = 17) ∧ ∃ w, sR S z 0 = some w ∧ ArE 10 S w t.length ∧ I z 1 = 0 ∧ (∀ j, j < t.length → I w j = nI (t.getD j 0)) ∧ (∀ x, x ∈ t → x < 128) ∧ t.length ≤ 1000
theorem STk.kp {S S' : JS} {I I' : JI} {z : Nat} {t : List Nat} {P : Nat → Prop} (h : STk S I z t) (x : Kp P I S I' S') (hT : sT S' = none) (hz : ¬ P z) (hw : ∀ w, sR S z 0 = some w → ¬ P w) : STk S' I' z t := by
  obtain ⟨h1, w, h2, h3, h4, h5, h6, h7⟩ := h
  exact ⟨x.o h1, w, by rw [x.gR h1.1 hz]; exact h2, x.ar hT h3, by rw [x.gI h1.1 hz]; exact h4, by rw [x.gI h3.1 (hw w h2)]; exact h5, h6, h7⟩
set_option maxHeartbeats 2000000 in
theorem c_J7_checkLength_df160 {Ω : JO} {I : JI} {S : JS} {Q : JQ} {x y : Int32} (h : ¬ y < x) (hQ : Q (.inl none) I S) : Call Ω m_J7_checkLength_df160 [.int x, .int y] I S Q := by
  refine call_of (by decide +kernel) rfl (Nat.le_of_ble_eq_true rfl) ?_
  change AA Ω m_J7_checkLength_df160 (FQ Ω m_J7_checkLength_df160 Q) 0 0 0 [(0, .int x), (1, .int y)] [] I S
  refine r_iload_n (pc' := 1) dJ7_checkLength_df160_0 rfl 1 rfl rfl ?_
  refine r_iload_n (pc' := 2) dJ7_checkLength_df160_1 rfl 0 rfl rfl ?_
  refine r_icmp_ge (tgt := 37) (pc' := 5) dJ7_checkLength_df160_2 rfl rfl (fun h2 => ?_) (fun h2 => ?_)
  · exact r_ret dJ7_checkLength_df160_37 rfl (by decide) (by decide) (hQ)
  · exact absurd (Int32.not_le.mp h2) h
set_option maxHeartbeats 2000000 in
theorem c_J7_copyOfRangeByte_39247 {Ω : JO} {I : JI} {S : JS} {Q : JQ} {a n m : Nat} (hA : ArE 10 S a n) (hm : m ≤ n) (hn : n ≤ 2002) (hm2 : m ≤ 2000) (hf : ∀ j, j < n → fits .byte (.int (I a j)) = true) (hQ : ∀ z I', z ∉ sL S → Kp (fun _ => False) I S I' (nwN S z 10 m) → (∀ j, j < m → I' z j = I a j) → Q (.inl (some (.ref z))) I' (nwN S z 10 m)) : Call Ω m_J7_copyOfRangeByte_39247 [.ref a, .int 0, .int (nI m)] I S Q := by
  refine call_of (by decide +kernel) rfl (Nat.le_of_ble_eq_true rfl) ?_
  change AA Ω m_J7_copyOfRangeByte_39247 (FQ Ω m_J7_copyOfRangeByte_39247 Q) 0 0 0 [(0, .ref a), (1, .int 0), (2, .int (nI m))] [] I S
  refine r_iload_n (pc' := 1) dJ7_copyOfRangeByte_39247_0 rfl 1 rfl rfl ?_
  refine r_iload_n (pc' := 2) dJ7_copyOfRangeByte_39247_1 rfl 2 rfl rfl ?_
  refine r_callS (pc' := 5) (k' := 0) (n' := 0) (nn := 2) (As := [_, _]) (rest := []) dJ7_copyOfRangeByte_39247_2 mb_J7_checkLength_df160 ms_J7_checkLength_df160 lk_J7_343 rfl rfl rfl rfl rfl (Nat.le_of_ble_eq_true rfl) rfl (c_J7_checkLength_df160 (nI_pos (by omega)) (cpV ?_))
  refine r_iload_n (pc' := 6) dJ7_copyOfRangeByte_39247_5 rfl 2 rfl rfl ?_
  refine r_iload_n (pc' := 7) dJ7_copyOfRangeByte_39247_6 rfl 1 rfl rfl ?_
  refine r_isubv (pc' := 8) dJ7_copyOfRangeByte_39247_7 (Int32.sub_zero _) rfl ?_
  refine r_istore_n (pc' := 9) (lv' := [(3, _), (0, _), (1, _), (2, _)]) dJ7_copyOfRangeByte_39247_8 rfl (by decide) rfl rfl ?_
  refine r_iload_n (pc' := 10) dJ7_copyOfRangeByte_39247_9 rfl 0 rfl rfl ?_
  refine r_newBG (pc' := 12) (N := m) dJ7_copyOfRangeByte_39247_10 (nI_pos (by omega)) (nI_clamp (by omega)) (by omega) (Nat.le_of_ble_eq_true rfl) (show 0 + m ≤ 2000 from by omega) rfl (fun z hz => aa_widen (k' := 1) (n' := 2000) (by decide) (by omega) ?_)
  have hz2 : z ∉ sL S := notin_of hz
  have hne : a ≠ z := fun e => hz2 (e ▸ hA.1)
  have hA2 : ArE 10 (nwN S z 10 m) a n := (Kp.nw (P := fun _ => False) (I := I) hz2).ar nwN_T hA
  refine r_astore (pc' := 14) (lv' := [(4, _), (3, _), (0, _), (1, _), (2, _)]) dJ7_copyOfRangeByte_39247_12 (by decide) rfl rfl ?_
  refine r_aload_n (pc' := 15) dJ7_copyOfRangeByte_39247_14 rfl 2 rfl rfl ?_
  refine r_iload_n (pc' := 16) dJ7_copyOfRangeByte_39247_15 rfl 3 rfl rfl ?_
  refine r_aload (pc' := 18) dJ7_copyOfRangeByte_39247_16 0 rfl rfl ?_
  refine r_iconst (pc' := 19) (v := 0) dJ7_copyOfRangeByte_39247_18 (by decide) rfl ?_
  refine r_aload_n (pc' := 20) dJ7_copyOfRangeByte_39247_19 rfl 2 rfl rfl ?_
  refine r_alen (pc' := 21) dJ7_copyOfRangeByte_39247_20 hA2 (by decide) rfl rfl ?_
  refine r_iload_n (pc' := 22) dJ7_copyOfRangeByte_39247_21 rfl 3 rfl rfl ?_
  refine r_isubv (pc' := 23) dJ7_copyOfRangeByte_39247_22 (Int32.sub_zero _) rfl ?_
  refine r_iload_n (pc' := 24) dJ7_copyOfRangeByte_39247_23 rfl 1 rfl rfl ?_
  refine r_mmin (pc' := 27) dJ7_copyOfRangeByte_39247_24 mw_J7_304 (by decide) (Nat.le_of_ble_eq_true rfl) (by decide) (by decide) rfl ?_
  rw [show Int32.ofNat n = nI n from rfl, mn_r (by omega) (by omega)]
  refine r_copyB0 (pc' := 30) (d := 0) dJ7_copyOfRangeByte_39247_27 aw_J7_150 hA2 nwN_ar (by omega) (by omega) ⟨by omega, by omega⟩ (fun i hi => by rw [nwI_o hne]; exact hf i (by omega)) (by decide) (Nat.le_of_ble_eq_true rfl) rfl ?_
  refine r_aload (pc' := 32) dJ7_copyOfRangeByte_39247_30 0 rfl rfl ?_
  exact r_aret dJ7_copyOfRangeByte_39247_32 rfl (Or.inr ⟨_, rfl⟩) (Or.inr ⟨_, rfl⟩) (by decide) (by decide) (hQ z _ hz2 ((Kp.nw hz2).trans (Kp.cy (P := fun c => c = z) rfl) (fun c hc h => h.elim id (fun e => hz2 (e ▸ hc)))) (fun j hj => by have e := cyR_in (I := nwI I z) (f := nwI I z a) (a := z) (dp := 0) hj; rw [Nat.zero_add] at e; rw [e, nwI_o hne]))
theorem Kp.cl {S : JS} {I : JI} {a z ki m : Nat} {P : Nat → Prop} (hz : z ∉ sL S) : Kp P I S (clI I a z) (nwN S z ki m) := fun c hc => by
  have hne : c ≠ z := fun e => hz (e ▸ hc)
  exact ⟨List.mem_append_left _ hc, by rw [nwN_K, if_neg hne], by rw [nwN_N, if_neg hne], fun _ => ⟨by funext j; simp [clI, hne], by funext j; rw [nwN_R, if_neg hne], by funext j; rw [nwN_X, if_neg hne]⟩⟩
theorem clI_z {I : JI} {a z j : Nat} : clI I a z z j = I a j := by simp [clI]
set_option maxHeartbeats 2000000 in
theorem c_J7_copyOfRange_39247 {Ω : JO} {I : JI} {S : JS} {Q : JQ} {a n m : Nat} (hA : ArE 10 S a n) (hm : m ≤ n) (hn : n ≤ 2002) (hm2 : m ≤ 2000) (hf : ∀ j, j < n → fits .byte (.int (I a j)) = true) (hQ : ∀ z I', z ∉ sL S → Kp (fun _ => False) I S I' (nwN S z 10 m) → (∀ j, j < m → I' z j = I a j) → Q (.inl (some (.ref z))) I' (nwN S z 10 m)) : Call Ω m_J7_copyOfRange_39247 [.ref a, .int 0, .int (nI m)] I S Q := by
  refine call_of (by decide +kernel) rfl (Nat.le_of_ble_eq_true rfl) ?_
  change AA Ω m_J7_copyOfRange_39247 (FQ Ω m_J7_copyOfRange_39247 Q) 0 0 0 [(0, .ref a), (1, .int 0), (2, .int (nI m))] [] I S
  refine r_iload_n (pc' := 1) dJ7_copyOfRange_39247_0 rfl 1 rfl rfl ?_
  refine r_if_ne (tgt := 10) (pc' := 4) dJ7_copyOfRange_39247_1 rfl rfl (fun h1 => ?_) (fun h1 => ?_)
  · exact absurd rfl h1
  · refine r_iload_n (pc' := 5) dJ7_copyOfRange_39247_4 rfl 2 rfl rfl ?_
    refine r_aload_n (pc' := 6) dJ7_copyOfRange_39247_5 rfl 0 rfl rfl ?_
    refine r_alen (pc' := 7) dJ7_copyOfRange_39247_6 hA (by decide) rfl rfl ?_
    refine r_icmp_eq (tgt := 17) (pc' := 10) dJ7_copyOfRange_39247_7 rfl rfl (fun h7 => ?_) (fun h7 => ?_)
    · have e7 : m = n := (nI_eq (by omega) (by omega)).mp (show nI m = nI n from h7)
      subst e7
      refine r_aload_n (pc' := 18) dJ7_copyOfRange_39247_17 rfl 0 rfl rfl ?_
      refine r_clone10 (pc' := 21) dJ7_copyOfRange_39247_18 hA cl_J7_310 clm_B cln_n cln_i cls_B clc_B hf (by decide) (Nat.le_of_ble_eq_true rfl) (Nat.le_of_ble_eq_true rfl) (show 0 + m ≤ 2000 from by omega) rfl (fun z hz => aa_widen (k' := 1) (n' := 2000) (by decide) (by omega) ?_)
      refine r_cast10 (pc' := 24) dJ7_copyOfRange_39247_21 cw_J7_311 nwN_ar rfl ?_
      exact r_aret dJ7_copyOfRange_39247_24 rfl (Or.inr ⟨_, rfl⟩) (Or.inr ⟨_, rfl⟩) (by decide) (by decide) (hQ z _ hz (Kp.cl hz) (fun j _ => clI_z))
    · refine r_aload_n (pc' := 11) dJ7_copyOfRange_39247_10 rfl 0 rfl rfl ?_
      refine r_iload_n (pc' := 12) dJ7_copyOfRange_39247_11 rfl 1 rfl rfl ?_
      refine r_iload_n (pc' := 13) dJ7_copyOfRange_39247_12 rfl 2 rfl rfl ?_
      refine r_callS (pc' := 16) (k' := 1) (n' := 2000) (nn := 3) (As := [_, _, _]) (rest := []) dJ7_copyOfRange_39247_13 mb_J7_copyOfRangeByte_39247 ms_J7_copyOfRangeByte_39247 lk_J7_339 rfl rfl rfl rfl rfl (Nat.le_of_ble_eq_true rfl) rfl (c_J7_copyOfRangeByte_39247 hA hm hn hm2 hf (fun z I' hz hK hv => (cpR ?_)))
      exact r_aret dJ7_copyOfRange_39247_16 rfl (Or.inr ⟨_, rfl⟩) (Or.inr ⟨_, rfl⟩) (by decide) (by decide) (hQ _ _ hz hK hv)
set_option maxHeartbeats 2000000 in
theorem c_J5_getValue_6d5f1 {Ω : JO} {I : JI} {S : JS} {Q : JQ} {b v cap : Nat} {t : List Nat} (h : SBk S I b v cap t) (hQ : Q (.inl (some (.ref v))) I S) : Call Ω m_J5_getValue_6d5f1 [.ref b] I S Q := by
  refine call_of (by decide +kernel) rfl (Nat.le_of_ble_eq_true rfl) ?_
  change AA Ω m_J5_getValue_6d5f1 (FQ Ω m_J5_getValue_6d5f1 Q) 0 0 0 [(0, .ref b)] [] I S
  refine r_aload_n (pc' := 1) dJ5_getValue_6d5f1_0 rfl 0 rfl rfl ?_
  refine r_getO (pc' := 4) dJ5_getValue_6d5f1_1 fa_J5_15 h.o rfl h.r rfl ?_
  exact r_aret dJ5_getValue_6d5f1_4 rfl (Or.inr ⟨_, rfl⟩) (Or.inr ⟨_, rfl⟩) (by decide) (by decide) (hQ)
set_option maxHeartbeats 2000000 in
theorem c_J5_length_8abf5 {Ω : JO} {I : JI} {S : JS} {Q : JQ} {b v cap : Nat} {t : List Nat} (h : SBk S I b v cap t) (hQ : Q (.inl (some (.int (nI t.length)))) I S) : Call Ω m_J5_length_8abf5 [.ref b] I S Q := by
  refine call_of (by decide +kernel) rfl (Nat.le_of_ble_eq_true rfl) ?_
  change AA Ω m_J5_length_8abf5 (FQ Ω m_J5_length_8abf5 Q) 0 0 0 [(0, .ref b)] [] I S
  refine r_aload_n (pc' := 1) dJ5_length_8abf5_0 rfl 0 rfl rfl ?_
  refine r_getIv (pc' := 4) dJ5_length_8abf5_1 fa_J5_79 h.o rfl h.n rfl ?_
  exact r_iret dJ5_length_8abf5_4 rfl (by decide) (by decide) (hQ)
set_option maxHeartbeats 2000000 in
theorem c_J4_length_8abf5 {Ω : JO} {I : JI} {S : JS} {Q : JQ} {b v cap : Nat} {t : List Nat} (h : SBk S I b v cap t) (hQ : Q (.inl (some (.int (nI t.length)))) I S) : Call Ω m_J4_length_8abf5 [.ref b] I S Q := by
  refine call_of (by decide +kernel) rfl (Nat.le_of_ble_eq_true rfl) ?_
  change AA Ω m_J4_length_8abf5 (FQ Ω m_J4_length_8abf5 Q) 0 0 0 [(0, .ref b)] [] I S
  refine r_aload_n (pc' := 1) dJ4_length_8abf5_0 rfl 0 rfl rfl ?_
  refine r_callSU (pc' := 4) (k' := 0) (n' := 0) (nn := 0) (As := []) (rest := []) dJ4_length_8abf5_1 sc_J4_343 h.o (by decide) rfl rfl rfl rfl rfl rfl (Nat.le_of_ble_eq_true rfl) rfl (c_J5_length_8abf5 h (?_))
  exact r_iret dJ4_length_8abf5_4 rfl (by decide) (by decide) (hQ)
set_option maxHeartbeats 2000000 in
theorem c_J0_init_db425 {Ω : JO} {I : JI} {S : JS} {Q : JQ} {z b v cap : Nat} {t : List Nat} (ho : z ∈ sL S ∧ sK S z = 17) (h : SBk S I b v cap t) (hl : t.length ≤ 1000) (hQ : ∀ I' S', STk S' I' z t → Kp (fun c => c = z) I S I' S' → sT S' = none → (∀ w, sR S' z 0 = some w → w ∉ sL S) → Q (.inl none) I' S') : Call Ω m_J0_init_db425 [.ref z, .ref b, .null] I S Q := by
  refine call_of (by decide +kernel) rfl (Nat.le_of_ble_eq_true rfl) ?_
  change AA Ω m_J0_init_db425 (FQ Ω m_J0_init_db425 Q) 0 0 0 [(0, .ref z), (1, .ref b), (2, .null)] [] I S
  have hzb : z ≠ b := fun e => by have h1 := h.o.2; have h2 := ho.2; rw [e, h1] at h2; exact absurd h2 (by decide)
  have hzv : z ≠ v := fun e => by have h1 := h.arr.2.1; have h2 := ho.2; rw [e, h1] at h2; exact absurd h2 (by decide)
  refine r_aload_n (pc' := 1) dJ0_init_db425_0 rfl 0 rfl rfl ?_
  refine r_objInit (pc' := 4) dJ0_init_db425_1 ow_J0_1 ow_i ow_c (by decide) (by decide) rfl ?_
  refine r_aload_n (pc' := 5) dJ0_init_db425_4 rfl 1 rfl rfl ?_
  refine r_callU (pc' := 8) (k' := 0) (n' := 0) (nn := 0) (As := []) (rest := []) dJ0_init_db425_5 uc_J0_552 h.o (by decide) rfl rfl rfl rfl rfl rfl (Nat.le_of_ble_eq_true rfl) rfl (c_J5_getValue_6d5f1 h (?_))
  refine r_astore_n (pc' := 9) (lv' := [(3, _), (0, _), (1, _), (2, _)]) dJ0_init_db425_8 rfl (by decide) rfl rfl ?_
  refine r_aload_n (pc' := 10) dJ0_init_db425_9 rfl 2 rfl rfl ?_
  refine r_callU (pc' := 13) (k' := 0) (n' := 0) (nn := 0) (As := []) (rest := []) dJ0_init_db425_10 uc_J0_549 h.o (by decide) rfl rfl rfl rfl rfl rfl (Nat.le_of_ble_eq_true rfl) rfl (c_J4_length_8abf5 h (?_))
  refine r_istore (pc' := 15) (lv' := [(4, _), (3, _), (0, _), (1, _), (2, _)]) dJ0_init_db425_13 (by decide) rfl rfl ?_
  refine r_aload_n (pc' := 16) dJ0_init_db425_15 rfl 3 rfl rfl ?_
  refine r_callU (pc' := 19) (k' := 0) (n' := 0) (nn := 0) (As := []) (rest := []) dJ0_init_db425_16 uc_J0_1047 h.o (by decide) rfl rfl rfl rfl rfl rfl (Nat.le_of_ble_eq_true rfl) rfl (c_J5_isLatin1_aae02 h.o h.cd (?_))
  refine r_if_eq (tgt := 41) (pc' := 22) dJ0_init_db425_19 rfl rfl (fun h19 => ?_) (fun h19 => ?_)
  · exact absurd h19 (by decide)
  · refine r_aload_n (pc' := 23) dJ0_init_db425_22 rfl 2 rfl rfl ?_
    refine r_iconst (pc' := 24) (v := 0) dJ0_init_db425_23 (by decide) rfl ?_
    refine r_putBf (pc' := 27) dJ0_init_db425_24 fa_J0_15 ho rfl rfl ⟨rfl, ⟨_, _, _, rfl, rfl⟩⟩ rfl ?_
    refine r_aload_n (pc' := 28) dJ0_init_db425_27 rfl 2 rfl rfl ?_
    refine r_aload_n (pc' := 29) dJ0_init_db425_28 rfl 1 rfl rfl ?_
    refine r_iconst (pc' := 30) (v := 0) dJ0_init_db425_29 (by decide) rfl ?_
    refine r_iload (pc' := 32) dJ0_init_db425_30 0 rfl rfl ?_
    refine r_callS (pc' := 35) (k' := 1) (n' := 2000) (nn := 3) (As := [_, _, _]) (rest := [_]) dJ0_init_db425_32 mb_J7_copyOfRange_39247 ms_J7_copyOfRange_39247 lk_J0_54 rfl rfl rfl rfl rfl (Nat.le_of_ble_eq_true rfl) rfl (c_J7_copyOfRange_39247 h.arr h.le h.hc (by omega) (fun j hj => by rw [stI_ne hzv.symm]; exact h.fit j hj) (fun q I' hq hK hv => (cpR ?_)))
    refine r_putR (pc' := 38) dJ0_init_db425_35 fa_J0_9 (hK.o ho) rfl ⟨rfl, rfl⟩ (fun _ => ⟨rfl, ⟨_, _, _, rfl, rfl⟩⟩) rfl ?_
    refine r_goto (tgt := 97) dJ0_init_db425_38 rfl ?_
    refine r_ret dJ0_init_db425_97 rfl (by decide) (by decide) (hQ _ _ ⟨hK.o ho, q, stR_R1, (show ArE 10 (nwN S q 10 t.length) q _ from nwN_ar), ?_, ?_, h.sm, hl⟩ ?_ rfl (fun w hw => by rw [stR_R1] at hw; cases hw; exact hq))
    · rw [hK.gI ho.1 (fun e => e)]; exact stI_at
    · intro j hj
      rw [hv j hj, stI_ne hzv.symm]; exact h.at j hj
    · exact (Kp.st (P := fun c => c = z) rfl).trans (hK.trans (Kp.stR (P := fun c => c = z) rfl) (fun c _ e => e.elim False.elim id)) (fun c _ e => e.elim id id)
set_option maxHeartbeats 2000000 in
theorem c_J0_init_81219 {Ω : JO} {I : JI} {S : JS} {Q : JQ} {z b v cap : Nat} {t : List Nat} (ho : z ∈ sL S ∧ sK S z = 17) (h : SBk S I b v cap t) (hl : t.length ≤ 1000) (hQ : ∀ I' S', STk S' I' z t → Kp (fun c => c = z) I S I' S' → sT S' = none → (∀ w, sR S' z 0 = some w → w ∉ sL S) → Q (.inl none) I' S') : Call Ω m_J0_init_81219 [.ref z, .ref b] I S Q := by
  refine call_of (by decide +kernel) rfl (Nat.le_of_ble_eq_true rfl) ?_
  change AA Ω m_J0_init_81219 (FQ Ω m_J0_init_81219 Q) 0 0 0 [(0, .ref z), (1, .ref b)] [] I S
  refine r_aload_n (pc' := 1) dJ0_init_81219_0 rfl 0 rfl rfl ?_
  refine r_aload_n (pc' := 2) dJ0_init_81219_1 rfl 1 rfl rfl ?_
  refine r_null (pc' := 3) dJ0_init_81219_2 rfl ?_
  refine r_callI (pc' := 6) (k' := 2) (n' := 2500) (nn := 2) (As := [_, _]) (rest := []) dJ0_init_81219_3 mb_J0_init_db425 mc_J0_init_db425 lk_J0_489 rfl rfl rfl rfl rfl (Nat.le_of_ble_eq_true rfl) rfl (c_J0_init_db425 ho h hl (fun I' S' h1 h2 h3 h4 => (cpV ?_)))
  exact r_ret dJ0_init_81219_6 rfl (by decide) (by decide) (hQ _ _ h1 h2 h3 h4)
set_option maxHeartbeats 2000000 in
theorem c_J4_toString_0e30d {Ω : JO} {I : JI} {S : JS} {Q : JQ} {b v cap : Nat} {t : List Nat} (h : SBk S I b v cap t) (hl : t.length ≤ 1000) (hQ : ∀ z I' S', z ∉ sL S → STk S' I' z t → Kp (fun _ => False) I S I' S' → sT S' = none → (∀ w, sR S' z 0 = some w → w ∉ sL S) → Q (.inl (some (.ref z))) I' S') : Call Ω m_J4_toString_0e30d [.ref b] I S Q := by
  refine call_of (by decide +kernel) rfl (Nat.le_of_ble_eq_true rfl) ?_
  change AA Ω m_J4_toString_0e30d (FQ Ω m_J4_toString_0e30d Q) 0 0 0 [(0, .ref b)] [] I S
  refine r_newG (pc' := 3) dJ4_toString_0e30d_0 cw_J4_18 nwJ0 (Nat.le_of_ble_eq_true rfl) (Nat.le_of_ble_eq_true rfl) rfl (fun z hz => aa_widen (k' := 1) (n' := 4) (by decide) (by decide) ?_)
  have hz2 : z ∉ sL S := notin_of hz
  have hb2 : SBk (nwN S z 17 0) (nwI I z) b v cap t := h.kp (Kp.nw (P := fun _ => False) hz2) rfl (fun e => e) (fun e => e)
  refine r_dup (pc' := 4) dJ4_toString_0e30d_3 rfl rfl ?_
  refine r_aload_n (pc' := 5) dJ4_toString_0e30d_4 rfl 0 rfl rfl ?_
  refine r_callI (pc' := 8) (k' := 3) (n' := 2504) (nn := 1) (As := [_]) (rest := [_]) dJ4_toString_0e30d_5 mb_J0_init_81219 mc_J0_init_81219 lk_J4_137 rfl rfl rfl rfl rfl (Nat.le_of_ble_eq_true rfl) rfl (c_J0_init_81219 nwN_o hb2 hl (fun I' S' h1 h2 h3 h4 => (cpV ?_)))
  exact r_aret dJ4_toString_0e30d_8 rfl (Or.inl ⟨_, rfl⟩) (Or.inr ⟨_, rfl⟩) (by decide) (by decide) (hQ z _ _ hz2 h1 ((Kp.nw hz2).trans h2 (fun c hc e => e.elim id fun e => hz2 (e ▸ hc))) h3 (fun w hw q => h4 w hw (List.mem_append_left _ q)))
