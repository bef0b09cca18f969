/-! the law's wrappers -/
theorem ca_IX : Cond.castable eIX eIX ∈ lw_tbl := List.mem_of_getElem? (i := 528) (by decide +kernel)
theorem ca_IA : Cond.castable eIA eIA ∈ lw_tbl := List.mem_of_getElem? (i := 971) (by decide +kernel)
theorem ca_IS : Cond.castable eIS eIS ∈ lw_tbl := List.mem_of_getElem? (i := 1003) (by decide +kernel)
theorem nc_eIX_eIA : (eIX, eIA) ∈ ncE := by unfold ncE eIX eIA; decide +kernel
theorem nc_eIX_eIS : (eIX, eIS) ∈ ncE := by unfold ncE eIX eIS; decide +kernel
theorem nc_eIA_eIX : (eIA, eIX) ∈ ncE := by unfold ncE eIA eIX; decide +kernel
theorem nc_eIA_eIS : (eIA, eIS) ∈ ncE := by unfold ncE eIA eIS; decide +kernel
theorem nc_eIS_eIX : (eIS, eIX) ∈ ncE := by unfold ncE eIS eIX; decide +kernel
theorem nc_eIS_eIA : (eIS, eIA) ∈ ncE := by unfold ncE eIS eIA; decide +kernel
theorem cl_13 : Cond.classLink RL 13 eIX ∈ gTbl := cw_L_13
theorem cl_15 : Cond.classLink RL 15 eIA ∈ gTbl := cw_L_15
theorem cl_21 : Cond.classLink RL 21 eIS ∈ gTbl := cw_L_21
/-- a truth as a long -/
def zl (b : Bool) : Int64 := if b = true then 1 else 0
section WRAP
variable {Ω : JO} {I J : JI} {S : JS} {Q : JQ} {c L P o : Nat} {x y t : Int32}
abbrev m_L_parseSetup : JM := (yL_parseSetup, cL_parseSetup, 4, (some .int), [(0, 9, 12, 13), (0, 9, 15, 15)], { frames := 13, cells := 2, slots := 12, locals := 481 })
theorem mb_L_parseSetup : SBH m_L_parseSetup 3 := ⟨gm 519 (by decide +kernel) rfl, gm 152 (by decide +kernel) rfl, by decide +kernel, by decide +kernel⟩
theorem ms_L_parseSetup : SS m_L_parseSetup := gm 518 (by decide +kernel) rfl
theorem lw_L_209 : LK RL 209 m_L_parseSetup := gm 517 (by decide +kernel) rfl
theorem w_parseSetup {r : Int32 ⊕ String} {v : Int32} (hc : Is8 S c L P) (ho : ArE 14 S o 1) (h : s_X8_parseSetup I c L P x = some (r, J)) (hR : Res [eIX, eIA] r v t) (hv : r = .inl v → t = 0 → Q (.inl (some (.int t))) J (stX (stR (stR S (c + 1) 1 (some L)) c 5 (some P)) o 0 v.toInt64)) (he : ∀ E, r = .inr E → Q (.inl (some (.int t))) J S) : CallH Ω m_L_parseSetup [.ref c, .int x, .ref o] I S Q := by
  refine call_ofH (by decide +kernel) (Nat.le_of_ble_eq_true rfl) ?_
  refine r_aload_n (pc' := 1) dL_parseSetup_0 rfl 2 rfl rfl ?_
  refine r_iconst (v := 0) (pc' := 2) dL_parseSetup_1 rfl rfl ?_
  refine r_aload_n (pc' := 3) dL_parseSetup_2 rfl 0 rfl rfl ?_
  refine r_iload_n (pc' := 4) dL_parseSetup_3 rfl 1 rfl rfl ?_
  refine r_callV1 (pc' := 7) (k' := 2) (n' := 12) dL_parseSetup_4 mb_X8_parseSetup mi_X8_parseSetup hc.o (by decide) rfl lk_L_7 rfl (Nat.zero_add _) (Nat.zero_add _) (Nat.le_of_ble_eq_true rfl) rfl (c_X8_parseSetup hc ho.2.2.2 h ?_)
  refine ⟨fun v0 h0 => ?_, fun E h0 => ?_⟩
  · subst h0
    obtain ⟨rfl, rfl⟩ := hR
    refine cpI ?_
    refine r_i2l (pc' := 8) dL_parseSetup_7 rfl ?_
    refine r_lastore (pc' := 9) dL_parseSetup_8 ho (by unfold vp_in; decide +kernel) rfl ?_
    refine r_goto (tgt := 18) dL_parseSetup_9 (by decide) ?_
    refine r_iconst (v := 0) (pc' := 19) dL_parseSetup_18 rfl rfl ?_
    exact r_iret dL_parseSetup_19 rfl (Nat.le_of_ble_eq_true rfl) (Nat.le_of_ble_eq_true rfl) (hv rfl rfl)
  · subst h0
    refine cpX ?_
    obtain ⟨i, hi, rfl⟩ := hR
    match i, hi with
    | 0, hi =>
      cases hi
      refine ax_catch (E := eIX) (name := eIX) (hd := (0, 9, 12, 13)) [] [(0, 9, 15, 15)] rfl (fun z hz => absurd hz List.not_mem_nil) rfl (by decide) cl_13 ca_IX (fun q => ?_)
      refine r_astore_n (pc' := 13) dL_parseSetup_12 rfl (by decide) rfl rfl ?_
      refine r_iconst (v := nI (0 + 1)) (pc' := 14) dL_parseSetup_13 (by decide) rfl ?_
      exact r_iret dL_parseSetup_14 rfl (Nat.le_of_ble_eq_true rfl) (Nat.le_of_ble_eq_true rfl) (he _ rfl)
    | 1, hi =>
      cases hi
      refine ax_catch (E := eIA) (name := eIA) (hd := (0, 9, 15, 15)) [(0, 9, 12, 13)] [] rfl (List.forall_mem_cons.mpr ⟨⟨by decide, eIX, cl_13, nc_eIA_eIX⟩, fun _ hz => absurd hz List.not_mem_nil⟩) rfl (by decide) cl_15 ca_IA (fun q => ?_)
      refine r_astore_n (pc' := 16) dL_parseSetup_15 rfl (by decide) rfl rfl ?_
      refine r_iconst (v := nI (1 + 1)) (pc' := 17) dL_parseSetup_16 (by decide) rfl ?_
      exact r_iret dL_parseSetup_17 rfl (Nat.le_of_ble_eq_true rfl) (Nat.le_of_ble_eq_true rfl) (he _ rfl)
    | n + 2, hi => simp at hi
abbrev m_L_harnessCount : JM := (yL_harnessCount, cL_harnessCount, 3, (some .int), [(0, 8, 11, 21)], { frames := 8, cells := 1, slots := 6, locals := 296 })
theorem mb_L_harnessCount : SBH m_L_harnessCount 2 := ⟨gm 991 (by decide +kernel) rfl, gm 152 (by decide +kernel) rfl, by decide +kernel, by decide +kernel⟩
theorem ms_L_harnessCount : SS m_L_harnessCount := gm 990 (by decide +kernel) rfl
theorem lw_L_230 : LK RL 230 m_L_harnessCount := gm 989 (by decide +kernel) rfl
theorem w_harnessCount {r : Int32 ⊕ String} {v : Int32} (hc : Is8 S c L P) (ho : ArE 14 S o 1) (h : s_X8_harnessCount I c L P = some (r, J)) (hR : Res [eIS] r v t) (hQ : ∀ S2, (t = 0 → S2 = stX S o 0 v.toInt64) → (S2 = S ∨ S2 = stX S o 0 v.toInt64) → Q (.inl (some (.int t))) J S2) : CallH Ω m_L_harnessCount [.ref c, .ref o] I S Q := by
  refine call_ofH (by decide +kernel) (Nat.le_of_ble_eq_true rfl) ?_
  refine r_aload_n (pc' := 1) dL_harnessCount_0 rfl 1 rfl rfl ?_
  refine r_iconst (v := 0) (pc' := 2) dL_harnessCount_1 rfl rfl ?_
  refine r_aload_n (pc' := 3) dL_harnessCount_2 rfl 0 rfl rfl ?_
  refine r_callV0 (pc' := 6) (k' := 1) (n' := 6) dL_harnessCount_3 mb_X8_harnessCount mi_X8_harnessCount hc.o (by decide) rfl lk_L_17 rfl (Nat.zero_add _) (Nat.zero_add _) (Nat.le_of_ble_eq_true rfl) rfl (c_X8_harnessCount hc ho.2.2.2 h ?_)
  cases r with
  | inl v0 =>
    obtain ⟨rfl, rfl⟩ := hR
    refine cpI ?_
    refine r_i2l (pc' := 7) dL_harnessCount_6 rfl ?_
    refine r_lastore (pc' := 8) dL_harnessCount_7 ho (by unfold vp_in; decide +kernel) rfl ?_
    refine r_goto (tgt := 14) dL_harnessCount_8 (by decide) ?_
    refine r_iconst (v := 0) (pc' := 15) dL_harnessCount_14 rfl rfl ?_
    exact r_iret dL_harnessCount_15 rfl (Nat.le_of_ble_eq_true rfl) (Nat.le_of_ble_eq_true rfl) (hQ _ (fun _ => rfl) (Or.inr rfl))
  | inr E0 =>
    refine cpX ?_
    obtain ⟨i, hi, rfl⟩ := hR
    match i, hi with
    | 0, hi =>
      cases hi
      refine ax_catch (E := eIS) (name := eIS) (hd := (0, 8, 11, 21)) [] [] rfl (fun z hz => absurd hz List.not_mem_nil) rfl (by decide) cl_21 ca_IS (fun q => ?_)
      refine r_astore_n (pc' := 12) dL_harnessCount_11 rfl (by decide) rfl rfl ?_
      refine r_iconst (v := nI (0 + 1)) (pc' := 13) dL_harnessCount_12 (by decide) rfl ?_
      exact r_iret dL_harnessCount_13 rfl (Nat.le_of_ble_eq_true rfl) (Nat.le_of_ble_eq_true rfl) (hQ _ (fun q => absurd q (by decide)) (Or.inl rfl))
    | n + 1, hi => simp at hi
abbrev m_L_warpCount : JM := (yL_warpCount, cL_warpCount, 3, (some .int), [(0, 8, 11, 21)], { frames := 8, cells := 1, slots := 6, locals := 296 })
theorem mb_L_warpCount : SBH m_L_warpCount 2 := ⟨gm 1019 (by decide +kernel) rfl, gm 152 (by decide +kernel) rfl, by decide +kernel, by decide +kernel⟩
theorem ms_L_warpCount : SS m_L_warpCount := gm 1018 (by decide +kernel) rfl
theorem lw_L_234 : LK RL 234 m_L_warpCount := gm 1017 (by decide +kernel) rfl
theorem w_warpCount {r : Int32 ⊕ String} {v : Int32} (hc : Is8 S c L P) (ho : ArE 14 S o 1) (h : s_X8_warpCount I c L P = some (r, J)) (hR : Res [eIS] r v t) (hQ : ∀ S2, (t = 0 → S2 = stX S o 0 v.toInt64) → (S2 = S ∨ S2 = stX S o 0 v.toInt64) → Q (.inl (some (.int t))) J S2) : CallH Ω m_L_warpCount [.ref c, .ref o] I S Q := by
  refine call_ofH (by decide +kernel) (Nat.le_of_ble_eq_true rfl) ?_
  refine r_aload_n (pc' := 1) dL_warpCount_0 rfl 1 rfl rfl ?_
  refine r_iconst (v := 0) (pc' := 2) dL_warpCount_1 rfl rfl ?_
  refine r_aload_n (pc' := 3) dL_warpCount_2 rfl 0 rfl rfl ?_
  refine r_callV0 (pc' := 6) (k' := 1) (n' := 6) dL_warpCount_3 mb_X8_warpCount mi_X8_warpCount hc.o (by decide) rfl lk_L_23 rfl (Nat.zero_add _) (Nat.zero_add _) (Nat.le_of_ble_eq_true rfl) rfl (c_X8_warpCount hc ho.2.2.2 h ?_)
  cases r with
  | inl v0 =>
    obtain ⟨rfl, rfl⟩ := hR
    refine cpI ?_
    refine r_i2l (pc' := 7) dL_warpCount_6 rfl ?_
    refine r_lastore (pc' := 8) dL_warpCount_7 ho (by unfold vp_in; decide +kernel) rfl ?_
    refine r_goto (tgt := 14) dL_warpCount_8 (by decide) ?_
    refine r_iconst (v := 0) (pc' := 15) dL_warpCount_14 rfl rfl ?_
    exact r_iret dL_warpCount_15 rfl (Nat.le_of_ble_eq_true rfl) (Nat.le_of_ble_eq_true rfl) (hQ _ (fun _ => rfl) (Or.inr rfl))
  | inr E0 =>
    refine cpX ?_
    obtain ⟨i, hi, rfl⟩ := hR
    match i, hi with
    | 0, hi =>
      cases hi
      refine ax_catch (E := eIS) (name := eIS) (hd := (0, 8, 11, 21)) [] [] rfl (fun z hz => absurd hz List.not_mem_nil) rfl (by decide) cl_21 ca_IS (fun q => ?_)
      refine r_astore_n (pc' := 12) dL_warpCount_11 rfl (by decide) rfl rfl ?_
      refine r_iconst (v := nI (0 + 1)) (pc' := 13) dL_warpCount_12 (by decide) rfl ?_
      exact r_iret dL_warpCount_13 rfl (Nat.le_of_ble_eq_true rfl) (Nat.le_of_ble_eq_true rfl) (hQ _ (fun q => absurd q (by decide)) (Or.inl rfl))
    | n + 1, hi => simp at hi
abbrev m_L_warpHarness : JM := (yL_warpHarness, cL_warpHarness, 4, (some .int), [(0, 9, 12, 21), (0, 9, 15, 13)], { frames := 9, cells := 2, slots := 12, locals := 333 })
theorem mb_L_warpHarness : SBH m_L_warpHarness 3 := ⟨gm 1026 (by decide +kernel) rfl, gm 152 (by decide +kernel) rfl, by decide +kernel, by decide +kernel⟩
theorem ms_L_warpHarness : SS m_L_warpHarness := gm 1025 (by decide +kernel) rfl
theorem lw_L_237 : LK RL 237 m_L_warpHarness := gm 1024 (by decide +kernel) rfl
theorem w_warpHarness {r : Int32 ⊕ String} {v : Int32} (hc : Is8 S c L P) (ho : ArE 14 S o 1) (h : s_X8_warpHarness I c L P x = some (r, J)) (hR : Res [eIS, eIX] r v t) (hQ : ∀ S2, (t = 0 → S2 = stX S o 0 v.toInt64) → (S2 = S ∨ S2 = stX S o 0 v.toInt64) → Q (.inl (some (.int t))) J S2) : CallH Ω m_L_warpHarness [.ref c, .int x, .ref o] I S Q := by
  refine call_ofH (by decide +kernel) (Nat.le_of_ble_eq_true rfl) ?_
  refine r_aload_n (pc' := 1) dL_warpHarness_0 rfl 2 rfl rfl ?_
  refine r_iconst (v := 0) (pc' := 2) dL_warpHarness_1 rfl rfl ?_
  refine r_aload_n (pc' := 3) dL_warpHarness_2 rfl 0 rfl rfl ?_
  refine r_iload_n (pc' := 4) dL_warpHarness_3 rfl 1 rfl rfl ?_
  refine r_callV1 (pc' := 7) (k' := 2) (n' := 12) dL_warpHarness_4 mb_X8_warpHarness mi_X8_warpHarness hc.o (by decide) rfl lk_L_26 rfl (Nat.zero_add _) (Nat.zero_add _) (Nat.le_of_ble_eq_true rfl) rfl (c_X8_warpHarness hc ho.2.2.2 h ?_)
  cases r with
  | inl v0 =>
    obtain ⟨rfl, rfl⟩ := hR
    refine cpI ?_
    refine r_i2l (pc' := 8) dL_warpHarness_7 rfl ?_
    refine r_lastore (pc' := 9) dL_warpHarness_8 ho (by unfold vp_in; decide +kernel) rfl ?_
    refine r_goto (tgt := 18) dL_warpHarness_9 (by decide) ?_
    refine r_iconst (v := 0) (pc' := 19) dL_warpHarness_18 rfl rfl ?_
    exact r_iret dL_warpHarness_19 rfl (Nat.le_of_ble_eq_true rfl) (Nat.le_of_ble_eq_true rfl) (hQ _ (fun _ => rfl) (Or.inr rfl))
  | inr E0 =>
    refine cpX ?_
    obtain ⟨i, hi, rfl⟩ := hR
    match i, hi with
    | 0, hi =>
      cases hi
      refine ax_catch (E := eIS) (name := eIS) (hd := (0, 9, 12, 21)) [] [(0, 9, 15, 13)] rfl (fun z hz => absurd hz List.not_mem_nil) rfl (by decide) cl_21 ca_IS (fun q => ?_)
      refine r_astore_n (pc' := 13) dL_warpHarness_12 rfl (by decide) rfl rfl ?_
      refine r_iconst (v := nI (0 + 1)) (pc' := 14) dL_warpHarness_13 (by decide) rfl ?_
      exact r_iret dL_warpHarness_14 rfl (Nat.le_of_ble_eq_true rfl) (Nat.le_of_ble_eq_true rfl) (hQ _ (fun q => absurd q (by decide)) (Or.inl rfl))
    | 1, hi =>
      cases hi
      refine ax_catch (E := eIX) (name := eIX) (hd := (0, 9, 15, 13)) [(0, 9, 12, 21)] [] rfl (List.forall_mem_cons.mpr ⟨⟨by decide, eIS, cl_21, nc_eIX_eIS⟩, fun _ hz => absurd hz List.not_mem_nil⟩) rfl (by decide) cl_13 ca_IX (fun q => ?_)
      refine r_astore_n (pc' := 16) dL_warpHarness_15 rfl (by decide) rfl rfl ?_
      refine r_iconst (v := nI (1 + 1)) (pc' := 17) dL_warpHarness_16 (by decide) rfl ?_
      exact r_iret dL_warpHarness_17 rfl (Nat.le_of_ble_eq_true rfl) (Nat.le_of_ble_eq_true rfl) (hQ _ (fun q => absurd q (by decide)) (Or.inl rfl))
    | n + 2, hi => simp at hi
abbrev m_L_warpColour : JM := (yL_warpColour, cL_warpColour, 4, (some .int), [(0, 9, 12, 21), (0, 9, 15, 13)], { frames := 9, cells := 2, slots := 12, locals := 333 })
theorem mb_L_warpColour : SBH m_L_warpColour 3 := ⟨gm 1042 (by decide +kernel) rfl, gm 152 (by decide +kernel) rfl, by decide +kernel, by decide +kernel⟩
theorem ms_L_warpColour : SS m_L_warpColour := gm 1041 (by decide +kernel) rfl
theorem lw_L_240 : LK RL 240 m_L_warpColour := gm 1040 (by decide +kernel) rfl
theorem w_warpColour {r : Int32 ⊕ String} {v : Int32} (hc : Is8 S c L P) (ho : ArE 14 S o 1) (h : s_X8_warpColour I c L P x = some (r, J)) (hR : Res [eIS, eIX] r v t) (hQ : ∀ S2, (t = 0 → S2 = stX S o 0 v.toInt64) → (S2 = S ∨ S2 = stX S o 0 v.toInt64) → Q (.inl (some (.int t))) J S2) : CallH Ω m_L_warpColour [.ref c, .int x, .ref o] I S Q := by
  refine call_ofH (by decide +kernel) (Nat.le_of_ble_eq_true rfl) ?_
  refine r_aload_n (pc' := 1) dL_warpColour_0 rfl 2 rfl rfl ?_
  refine r_iconst (v := 0) (pc' := 2) dL_warpColour_1 rfl rfl ?_
  refine r_aload_n (pc' := 3) dL_warpColour_2 rfl 0 rfl rfl ?_
  refine r_iload_n (pc' := 4) dL_warpColour_3 rfl 1 rfl rfl ?_
  refine r_callV1 (pc' := 7) (k' := 2) (n' := 12) dL_warpColour_4 mb_X8_warpColour mi_X8_warpColour hc.o (by decide) rfl lk_L_29 rfl (Nat.zero_add _) (Nat.zero_add _) (Nat.le_of_ble_eq_true rfl) rfl (c_X8_warpColour hc ho.2.2.2 h ?_)
  cases r with
  | inl v0 =>
    obtain ⟨rfl, rfl⟩ := hR
    refine cpI ?_
    refine r_i2l (pc' := 8) dL_warpColour_7 rfl ?_
    refine r_lastore (pc' := 9) dL_warpColour_8 ho (by unfold vp_in; decide +kernel) rfl ?_
    refine r_goto (tgt := 18) dL_warpColour_9 (by decide) ?_
    refine r_iconst (v := 0) (pc' := 19) dL_warpColour_18 rfl rfl ?_
    exact r_iret dL_warpColour_19 rfl (Nat.le_of_ble_eq_true rfl) (Nat.le_of_ble_eq_true rfl) (hQ _ (fun _ => rfl) (Or.inr rfl))
  | inr E0 =>
    refine cpX ?_
    obtain ⟨i, hi, rfl⟩ := hR
    match i, hi with
    | 0, hi =>
      cases hi
      refine ax_catch (E := eIS) (name := eIS) (hd := (0, 9, 12, 21)) [] [(0, 9, 15, 13)] rfl (fun z hz => absurd hz List.not_mem_nil) rfl (by decide) cl_21 ca_IS (fun q => ?_)
      refine r_astore_n (pc' := 13) dL_warpColour_12 rfl (by decide) rfl rfl ?_
      refine r_iconst (v := nI (0 + 1)) (pc' := 14) dL_warpColour_13 (by decide) rfl ?_
      exact r_iret dL_warpColour_14 rfl (Nat.le_of_ble_eq_true rfl) (Nat.le_of_ble_eq_true rfl) (hQ _ (fun q => absurd q (by decide)) (Or.inl rfl))
    | 1, hi =>
      cases hi
      refine ax_catch (E := eIX) (name := eIX) (hd := (0, 9, 15, 13)) [(0, 9, 12, 21)] [] rfl (List.forall_mem_cons.mpr ⟨⟨by decide, eIS, cl_21, nc_eIX_eIS⟩, fun _ hz => absurd hz List.not_mem_nil⟩) rfl (by decide) cl_13 ca_IX (fun q => ?_)
      refine r_astore_n (pc' := 16) dL_warpColour_15 rfl (by decide) rfl rfl ?_
      refine r_iconst (v := nI (1 + 1)) (pc' := 17) dL_warpColour_16 (by decide) rfl ?_
      exact r_iret dL_warpColour_17 rfl (Nat.le_of_ble_eq_true rfl) (Nat.le_of_ble_eq_true rfl) (hQ _ (fun q => absurd q (by decide)) (Or.inl rfl))
    | n + 2, hi => simp at hi
abbrev m_L_warpsOn : JM := (yL_warpsOn, cL_warpsOn, 4, (some .int), [(0, 9, 12, 21), (0, 9, 15, 13)], { frames := 9, cells := 2, slots := 12, locals := 333 })
theorem mb_L_warpsOn : SBH m_L_warpsOn 3 := ⟨gm 1049 (by decide +kernel) rfl, gm 152 (by decide +kernel) rfl, by decide +kernel, by decide +kernel⟩
theorem ms_L_warpsOn : SS m_L_warpsOn := gm 1048 (by decide +kernel) rfl
theorem lw_L_243 : LK RL 243 m_L_warpsOn := gm 1047 (by decide +kernel) rfl
theorem w_warpsOn {r : Int32 ⊕ String} {v : Int32} (hc : Is8 S c L P) (ho : ArE 14 S o 1) (h : s_X8_warpsOn I c L P x = some (r, J)) (hR : Res [eIS, eIX] r v t) (hQ : ∀ S2, (t = 0 → S2 = stX S o 0 v.toInt64) → (S2 = S ∨ S2 = stX S o 0 v.toInt64) → Q (.inl (some (.int t))) J S2) : CallH Ω m_L_warpsOn [.ref c, .int x, .ref o] I S Q := by
  refine call_ofH (by decide +kernel) (Nat.le_of_ble_eq_true rfl) ?_
  refine r_aload_n (pc' := 1) dL_warpsOn_0 rfl 2 rfl rfl ?_
  refine r_iconst (v := 0) (pc' := 2) dL_warpsOn_1 rfl rfl ?_
  refine r_aload_n (pc' := 3) dL_warpsOn_2 rfl 0 rfl rfl ?_
  refine r_iload_n (pc' := 4) dL_warpsOn_3 rfl 1 rfl rfl ?_
  refine r_callV1 (pc' := 7) (k' := 2) (n' := 12) dL_warpsOn_4 mb_X8_warpsOn mi_X8_warpsOn hc.o (by decide) rfl lk_L_32 rfl (Nat.zero_add _) (Nat.zero_add _) (Nat.le_of_ble_eq_true rfl) rfl (c_X8_warpsOn hc ho.2.2.2 h ?_)
  cases r with
  | inl v0 =>
    obtain ⟨rfl, rfl⟩ := hR
    refine cpI ?_
    refine r_i2l (pc' := 8) dL_warpsOn_7 rfl ?_
    refine r_lastore (pc' := 9) dL_warpsOn_8 ho (by unfold vp_in; decide +kernel) rfl ?_
    refine r_goto (tgt := 18) dL_warpsOn_9 (by decide) ?_
    refine r_iconst (v := 0) (pc' := 19) dL_warpsOn_18 rfl rfl ?_
    exact r_iret dL_warpsOn_19 rfl (Nat.le_of_ble_eq_true rfl) (Nat.le_of_ble_eq_true rfl) (hQ _ (fun _ => rfl) (Or.inr rfl))
  | inr E0 =>
    refine cpX ?_
    obtain ⟨i, hi, rfl⟩ := hR
    match i, hi with
    | 0, hi =>
      cases hi
      refine ax_catch (E := eIS) (name := eIS) (hd := (0, 9, 12, 21)) [] [(0, 9, 15, 13)] rfl (fun z hz => absurd hz List.not_mem_nil) rfl (by decide) cl_21 ca_IS (fun q => ?_)
      refine r_astore_n (pc' := 13) dL_warpsOn_12 rfl (by decide) rfl rfl ?_
      refine r_iconst (v := nI (0 + 1)) (pc' := 14) dL_warpsOn_13 (by decide) rfl ?_
      exact r_iret dL_warpsOn_14 rfl (Nat.le_of_ble_eq_true rfl) (Nat.le_of_ble_eq_true rfl) (hQ _ (fun q => absurd q (by decide)) (Or.inl rfl))
    | 1, hi =>
      cases hi
      refine ax_catch (E := eIX) (name := eIX) (hd := (0, 9, 15, 13)) [(0, 9, 12, 21)] [] rfl (List.forall_mem_cons.mpr ⟨⟨by decide, eIS, cl_21, nc_eIX_eIS⟩, fun _ hz => absurd hz List.not_mem_nil⟩) rfl (by decide) cl_13 ca_IX (fun q => ?_)
      refine r_astore_n (pc' := 16) dL_warpsOn_15 rfl (by decide) rfl rfl ?_
      refine r_iconst (v := nI (1 + 1)) (pc' := 17) dL_warpsOn_16 (by decide) rfl ?_
      exact r_iret dL_warpsOn_17 rfl (Nat.le_of_ble_eq_true rfl) (Nat.le_of_ble_eq_true rfl) (hQ _ (fun q => absurd q (by decide)) (Or.inl rfl))
    | n + 2, hi => simp at hi
abbrev m_L_isBroken : JM := (yL_isBroken, cL_isBroken, 4, (some .int), [(0, 16, 19, 21), (0, 16, 22, 13)], { frames := 9, cells := 2, slots := 12, locals := 333 })
theorem mb_L_isBroken : SBH m_L_isBroken 3 := ⟨gm 1062 (by decide +kernel) rfl, gm 152 (by decide +kernel) rfl, by decide +kernel, by decide +kernel⟩
theorem ms_L_isBroken : SS m_L_isBroken := gm 1061 (by decide +kernel) rfl
theorem lw_L_246 : LK RL 246 m_L_isBroken := gm 1060 (by decide +kernel) rfl
theorem w_isBroken {r : Bool ⊕ String} {v : Bool} (hc : Is8 S c L P) (ho : ArE 14 S o 1) (h : s_X8_isBroken I c L P x = some (r, J)) (hR : Res [eIS, eIX] r v t) (hQ : ∀ S2, (t = 0 → S2 = stX S o 0 (zl v)) → (S2 = S ∨ S2 = stX S o 0 (zl v)) → Q (.inl (some (.int t))) J S2) : CallH Ω m_L_isBroken [.ref c, .int x, .ref o] I S Q := by
  refine call_ofH (by decide +kernel) (Nat.le_of_ble_eq_true rfl) ?_
  refine r_aload_n (pc' := 1) dL_isBroken_0 rfl 2 rfl rfl ?_
  refine r_iconst (v := 0) (pc' := 2) dL_isBroken_1 rfl rfl ?_
  refine r_aload_n (pc' := 3) dL_isBroken_2 rfl 0 rfl rfl ?_
  refine r_iload_n (pc' := 4) dL_isBroken_3 rfl 1 rfl rfl ?_
  refine r_callV1 (pc' := 7) (k' := 2) (n' := 12) dL_isBroken_4 mb_X8_isBroken mi_X8_isBroken hc.o (by decide) rfl lk_L_35 rfl (Nat.zero_add _) (Nat.zero_add _) (Nat.le_of_ble_eq_true rfl) rfl (c_X8_isBroken hc ho.2.2.2 h ?_)
  cases r with
  | inl v0 =>
    obtain ⟨rfl, rfl⟩ := hR
    cases v0 with
    | false =>
      refine cpI (r := 0) ?_
      refine r_if_eq (tgt := 14) (pc' := 10) dL_isBroken_7 (by decide) rfl (fun _ => ?_) (fun q => absurd rfl q)
      refine r_lconst (v := 0) (pc' := 15) dL_isBroken_14 rfl rfl ?_
      refine r_lastore (pc' := 16) dL_isBroken_15 ho (by unfold vp_in; decide +kernel) rfl ?_
      refine r_goto (tgt := 25) dL_isBroken_16 (by decide) ?_
      refine r_iconst (v := 0) (pc' := 26) dL_isBroken_25 rfl rfl ?_
      exact r_iret dL_isBroken_26 rfl (Nat.le_of_ble_eq_true rfl) (Nat.le_of_ble_eq_true rfl) (hQ _ (fun _ => rfl) (Or.inr rfl))
    | true =>
      refine cpI (r := 1) ?_
      refine r_if_eq (tgt := 14) (pc' := 10) dL_isBroken_7 (by decide) rfl (fun q => absurd q (by decide)) (fun _ => ?_)
      refine r_lconst (v := 1) (pc' := 11) dL_isBroken_10 rfl rfl ?_
      refine r_goto (tgt := 15) dL_isBroken_11 (by decide) ?_
      refine r_lastore (pc' := 16) dL_isBroken_15 ho (by unfold vp_in; decide +kernel) rfl ?_
      refine r_goto (tgt := 25) dL_isBroken_16 (by decide) ?_
      refine r_iconst (v := 0) (pc' := 26) dL_isBroken_25 rfl rfl ?_
      exact r_iret dL_isBroken_26 rfl (Nat.le_of_ble_eq_true rfl) (Nat.le_of_ble_eq_true rfl) (hQ _ (fun _ => rfl) (Or.inr rfl))
  | inr E0 =>
    refine cpX ?_
    obtain ⟨i, hi, rfl⟩ := hR
    match i, hi with
    | 0, hi =>
      cases hi
      refine ax_catch (E := eIS) (name := eIS) (hd := (0, 16, 19, 21)) [] [(0, 16, 22, 13)] rfl (fun z hz => absurd hz List.not_mem_nil) rfl (by decide) cl_21 ca_IS (fun q => ?_)
      refine r_astore_n (pc' := 20) dL_isBroken_19 rfl (by decide) rfl rfl ?_
      refine r_iconst (v := nI (0 + 1)) (pc' := 21) dL_isBroken_20 (by decide) rfl ?_
      exact r_iret dL_isBroken_21 rfl (Nat.le_of_ble_eq_true rfl) (Nat.le_of_ble_eq_true rfl) (hQ _ (fun q => absurd q (by decide)) (Or.inl rfl))
    | 1, hi =>
      cases hi
      refine ax_catch (E := eIX) (name := eIX) (hd := (0, 16, 22, 13)) [(0, 16, 19, 21)] [] rfl (List.forall_mem_cons.mpr ⟨⟨by decide, eIS, cl_21, nc_eIX_eIS⟩, fun _ hz => absurd hz List.not_mem_nil⟩) rfl (by decide) cl_13 ca_IX (fun q => ?_)
      refine r_astore_n (pc' := 23) dL_isBroken_22 rfl (by decide) rfl rfl ?_
      refine r_iconst (v := nI (1 + 1)) (pc' := 24) dL_isBroken_23 (by decide) rfl ?_
      exact r_iret dL_isBroken_24 rfl (Nat.le_of_ble_eq_true rfl) (Nat.le_of_ble_eq_true rfl) (hQ _ (fun q => absurd q (by decide)) (Or.inl rfl))
    | n + 2, hi => simp at hi
abbrev m_L_brokenCount : JM := (yL_brokenCount, cL_brokenCount, 3, (some .int), [(0, 8, 11, 21)], { frames := 8, cells := 1, slots := 6, locals := 296 })
theorem mb_L_brokenCount : SBH m_L_brokenCount 2 := ⟨gm 1070 (by decide +kernel) rfl, gm 152 (by decide +kernel) rfl, by decide +kernel, by decide +kernel⟩
theorem ms_L_brokenCount : SS m_L_brokenCount := gm 1069 (by decide +kernel) rfl
theorem lw_L_249 : LK RL 249 m_L_brokenCount := gm 1068 (by decide +kernel) rfl
theorem w_brokenCount {r : Int32 ⊕ String} {v : Int32} (hc : Is8 S c L P) (ho : ArE 14 S o 1) (h : s_X8_brokenCount I c L P = some (r, J)) (hR : Res [eIS] r v t) (hQ : ∀ S2, (t = 0 → S2 = stX S o 0 v.toInt64) → (S2 = S ∨ S2 = stX S o 0 v.toInt64) → Q (.inl (some (.int t))) J S2) : CallH Ω m_L_brokenCount [.ref c, .ref o] I S Q := by
  refine call_ofH (by decide +kernel) (Nat.le_of_ble_eq_true rfl) ?_
  refine r_aload_n (pc' := 1) dL_brokenCount_0 rfl 1 rfl rfl ?_
  refine r_iconst (v := 0) (pc' := 2) dL_brokenCount_1 rfl rfl ?_
  refine r_aload_n (pc' := 3) dL_brokenCount_2 rfl 0 rfl rfl ?_
  refine r_callV0 (pc' := 6) (k' := 1) (n' := 6) dL_brokenCount_3 mb_X8_brokenCount mi_X8_brokenCount hc.o (by decide) rfl lk_L_39 rfl (Nat.zero_add _) (Nat.zero_add _) (Nat.le_of_ble_eq_true rfl) rfl (c_X8_brokenCount hc ho.2.2.2 h ?_)
  cases r with
  | inl v0 =>
    obtain ⟨rfl, rfl⟩ := hR
    refine cpI ?_
    refine r_i2l (pc' := 7) dL_brokenCount_6 rfl ?_
    refine r_lastore (pc' := 8) dL_brokenCount_7 ho (by unfold vp_in; decide +kernel) rfl ?_
    refine r_goto (tgt := 14) dL_brokenCount_8 (by decide) ?_
    refine r_iconst (v := 0) (pc' := 15) dL_brokenCount_14 rfl rfl ?_
    exact r_iret dL_brokenCount_15 rfl (Nat.le_of_ble_eq_true rfl) (Nat.le_of_ble_eq_true rfl) (hQ _ (fun _ => rfl) (Or.inr rfl))
  | inr E0 =>
    refine cpX ?_
    obtain ⟨i, hi, rfl⟩ := hR
    match i, hi with
    | 0, hi =>
      cases hi
      refine ax_catch (E := eIS) (name := eIS) (hd := (0, 8, 11, 21)) [] [] rfl (fun z hz => absurd hz List.not_mem_nil) rfl (by decide) cl_21 ca_IS (fun q => ?_)
      refine r_astore_n (pc' := 12) dL_brokenCount_11 rfl (by decide) rfl rfl ?_
      refine r_iconst (v := nI (0 + 1)) (pc' := 13) dL_brokenCount_12 (by decide) rfl ?_
      exact r_iret dL_brokenCount_13 rfl (Nat.le_of_ble_eq_true rfl) (Nat.le_of_ble_eq_true rfl) (hQ _ (fun q => absurd q (by decide)) (Or.inl rfl))
    | n + 1, hi => simp at hi
abbrev m_L_isLifted : JM := (yL_isLifted, cL_isLifted, 4, (some .int), [(0, 16, 19, 21), (0, 16, 22, 13)], { frames := 9, cells := 2, slots := 12, locals := 333 })
theorem mb_L_isLifted : SBH m_L_isLifted 3 := ⟨gm 1077 (by decide +kernel) rfl, gm 152 (by decide +kernel) rfl, by decide +kernel, by decide +kernel⟩
theorem ms_L_isLifted : SS m_L_isLifted := gm 1076 (by decide +kernel) rfl
theorem lw_L_252 : LK RL 252 m_L_isLifted := gm 1075 (by decide +kernel) rfl
theorem w_isLifted {r : Bool ⊕ String} {v : Bool} (hc : Is8 S c L P) (ho : ArE 14 S o 1) (h : s_X8_isLifted I c L P x = some (r, J)) (hR : Res [eIS, eIX] r v t) (hQ : ∀ S2, (t = 0 → S2 = stX S o 0 (zl v)) → (S2 = S ∨ S2 = stX S o 0 (zl v)) → Q (.inl (some (.int t))) J S2) : CallH Ω m_L_isLifted [.ref c, .int x, .ref o] I S Q := by
  refine call_ofH (by decide +kernel) (Nat.le_of_ble_eq_true rfl) ?_
  refine r_aload_n (pc' := 1) dL_isLifted_0 rfl 2 rfl rfl ?_
  refine r_iconst (v := 0) (pc' := 2) dL_isLifted_1 rfl rfl ?_
  refine r_aload_n (pc' := 3) dL_isLifted_2 rfl 0 rfl rfl ?_
  refine r_iload_n (pc' := 4) dL_isLifted_3 rfl 1 rfl rfl ?_
  refine r_callV1 (pc' := 7) (k' := 2) (n' := 12) dL_isLifted_4 mb_X8_isLifted mi_X8_isLifted hc.o (by decide) rfl lk_L_42 rfl (Nat.zero_add _) (Nat.zero_add _) (Nat.le_of_ble_eq_true rfl) rfl (c_X8_isLifted hc ho.2.2.2 h ?_)
  cases r with
  | inl v0 =>
    obtain ⟨rfl, rfl⟩ := hR
    cases v0 with
    | false =>
      refine cpI (r := 0) ?_
      refine r_if_eq (tgt := 14) (pc' := 10) dL_isLifted_7 (by decide) rfl (fun _ => ?_) (fun q => absurd rfl q)
      refine r_lconst (v := 0) (pc' := 15) dL_isLifted_14 rfl rfl ?_
      refine r_lastore (pc' := 16) dL_isLifted_15 ho (by unfold vp_in; decide +kernel) rfl ?_
      refine r_goto (tgt := 25) dL_isLifted_16 (by decide) ?_
      refine r_iconst (v := 0) (pc' := 26) dL_isLifted_25 rfl rfl ?_
      exact r_iret dL_isLifted_26 rfl (Nat.le_of_ble_eq_true rfl) (Nat.le_of_ble_eq_true rfl) (hQ _ (fun _ => rfl) (Or.inr rfl))
    | true =>
      refine cpI (r := 1) ?_
      refine r_if_eq (tgt := 14) (pc' := 10) dL_isLifted_7 (by decide) rfl (fun q => absurd q (by decide)) (fun _ => ?_)
      refine r_lconst (v := 1) (pc' := 11) dL_isLifted_10 rfl rfl ?_
      refine r_goto (tgt := 15) dL_isLifted_11 (by decide) ?_
      refine r_lastore (pc' := 16) dL_isLifted_15 ho (by unfold vp_in; decide +kernel) rfl ?_
      refine r_goto (tgt := 25) dL_isLifted_16 (by decide) ?_
      refine r_iconst (v := 0) (pc' := 26) dL_isLifted_25 rfl rfl ?_
      exact r_iret dL_isLifted_26 rfl (Nat.le_of_ble_eq_true rfl) (Nat.le_of_ble_eq_true rfl) (hQ _ (fun _ => rfl) (Or.inr rfl))
  | inr E0 =>
    refine cpX ?_
    obtain ⟨i, hi, rfl⟩ := hR
    match i, hi with
    | 0, hi =>
      cases hi
      refine ax_catch (E := eIS) (name := eIS) (hd := (0, 16, 19, 21)) [] [(0, 16, 22, 13)] rfl (fun z hz => absurd hz List.not_mem_nil) rfl (by decide) cl_21 ca_IS (fun q => ?_)
      refine r_astore_n (pc' := 20) dL_isLifted_19 rfl (by decide) rfl rfl ?_
      refine r_iconst (v := nI (0 + 1)) (pc' := 21) dL_isLifted_20 (by decide) rfl ?_
      exact r_iret dL_isLifted_21 rfl (Nat.le_of_ble_eq_true rfl) (Nat.le_of_ble_eq_true rfl) (hQ _ (fun q => absurd q (by decide)) (Or.inl rfl))
    | 1, hi =>
      cases hi
      refine ax_catch (E := eIX) (name := eIX) (hd := (0, 16, 22, 13)) [(0, 16, 19, 21)] [] rfl (List.forall_mem_cons.mpr ⟨⟨by decide, eIS, cl_21, nc_eIX_eIS⟩, fun _ hz => absurd hz List.not_mem_nil⟩) rfl (by decide) cl_13 ca_IX (fun q => ?_)
      refine r_astore_n (pc' := 23) dL_isLifted_22 rfl (by decide) rfl rfl ?_
      refine r_iconst (v := nI (1 + 1)) (pc' := 24) dL_isLifted_23 (by decide) rfl ?_
      exact r_iret dL_isLifted_24 rfl (Nat.le_of_ble_eq_true rfl) (Nat.le_of_ble_eq_true rfl) (hQ _ (fun q => absurd q (by decide)) (Or.inl rfl))
    | n + 2, hi => simp at hi
abbrev m_L_wear : JM := (yL_wear, cL_wear, 4, (some .int), [(0, 9, 12, 21), (0, 9, 15, 13)], { frames := 9, cells := 2, slots := 12, locals := 333 })
theorem mb_L_wear : SBH m_L_wear 3 := ⟨gm 1084 (by decide +kernel) rfl, gm 152 (by decide +kernel) rfl, by decide +kernel, by decide +kernel⟩
theorem ms_L_wear : SS m_L_wear := gm 1083 (by decide +kernel) rfl
theorem lw_L_255 : LK RL 255 m_L_wear := gm 1082 (by decide +kernel) rfl
theorem w_wear {r : Int32 ⊕ String} {v : Int32} (hc : Is8 S c L P) (ho : ArE 14 S o 1) (h : s_X8_wear I c L P x = some (r, J)) (hR : Res [eIS, eIX] r v t) (hQ : ∀ S2, (t = 0 → S2 = stX S o 0 v.toInt64) → (S2 = S ∨ S2 = stX S o 0 v.toInt64) → Q (.inl (some (.int t))) J S2) : CallH Ω m_L_wear [.ref c, .int x, .ref o] I S Q := by
  refine call_ofH (by decide +kernel) (Nat.le_of_ble_eq_true rfl) ?_
  refine r_aload_n (pc' := 1) dL_wear_0 rfl 2 rfl rfl ?_
  refine r_iconst (v := 0) (pc' := 2) dL_wear_1 rfl rfl ?_
  refine r_aload_n (pc' := 3) dL_wear_2 rfl 0 rfl rfl ?_
  refine r_iload_n (pc' := 4) dL_wear_3 rfl 1 rfl rfl ?_
  refine r_callV1 (pc' := 7) (k' := 2) (n' := 12) dL_wear_4 mb_X8_wear mi_X8_wear hc.o (by decide) rfl lk_L_45 rfl (Nat.zero_add _) (Nat.zero_add _) (Nat.le_of_ble_eq_true rfl) rfl (c_X8_wear hc ho.2.2.2 h ?_)
  cases r with
  | inl v0 =>
    obtain ⟨rfl, rfl⟩ := hR
    refine cpI ?_
    refine r_i2l (pc' := 8) dL_wear_7 rfl ?_
    refine r_lastore (pc' := 9) dL_wear_8 ho (by unfold vp_in; decide +kernel) rfl ?_
    refine r_goto (tgt := 18) dL_wear_9 (by decide) ?_
    refine r_iconst (v := 0) (pc' := 19) dL_wear_18 rfl rfl ?_
    exact r_iret dL_wear_19 rfl (Nat.le_of_ble_eq_true rfl) (Nat.le_of_ble_eq_true rfl) (hQ _ (fun _ => rfl) (Or.inr rfl))
  | inr E0 =>
    refine cpX ?_
    obtain ⟨i, hi, rfl⟩ := hR
    match i, hi with
    | 0, hi =>
      cases hi
      refine ax_catch (E := eIS) (name := eIS) (hd := (0, 9, 12, 21)) [] [(0, 9, 15, 13)] rfl (fun z hz => absurd hz List.not_mem_nil) rfl (by decide) cl_21 ca_IS (fun q => ?_)
      refine r_astore_n (pc' := 13) dL_wear_12 rfl (by decide) rfl rfl ?_
      refine r_iconst (v := nI (0 + 1)) (pc' := 14) dL_wear_13 (by decide) rfl ?_
      exact r_iret dL_wear_14 rfl (Nat.le_of_ble_eq_true rfl) (Nat.le_of_ble_eq_true rfl) (hQ _ (fun q => absurd q (by decide)) (Or.inl rfl))
    | 1, hi =>
      cases hi
      refine ax_catch (E := eIX) (name := eIX) (hd := (0, 9, 15, 13)) [(0, 9, 12, 21)] [] rfl (List.forall_mem_cons.mpr ⟨⟨by decide, eIS, cl_21, nc_eIX_eIS⟩, fun _ hz => absurd hz List.not_mem_nil⟩) rfl (by decide) cl_13 ca_IX (fun q => ?_)
      refine r_astore_n (pc' := 16) dL_wear_15 rfl (by decide) rfl rfl ?_
      refine r_iconst (v := nI (1 + 1)) (pc' := 17) dL_wear_16 (by decide) rfl ?_
      exact r_iret dL_wear_17 rfl (Nat.le_of_ble_eq_true rfl) (Nat.le_of_ble_eq_true rfl) (hQ _ (fun q => absurd q (by decide)) (Or.inl rfl))
    | n + 2, hi => simp at hi
abbrev m_L_isStuck : JM := (yL_isStuck, cL_isStuck, 4, (some .int), [(0, 16, 19, 21), (0, 16, 22, 13)], { frames := 9, cells := 2, slots := 12, locals := 333 })
theorem mb_L_isStuck : SBH m_L_isStuck 3 := ⟨gm 1091 (by decide +kernel) rfl, gm 152 (by decide +kernel) rfl, by decide +kernel, by decide +kernel⟩
theorem ms_L_isStuck : SS m_L_isStuck := gm 1090 (by decide +kernel) rfl
theorem lw_L_258 : LK RL 258 m_L_isStuck := gm 1089 (by decide +kernel) rfl
theorem w_isStuck {r : Bool ⊕ String} {v : Bool} (hc : Is8 S c L P) (ho : ArE 14 S o 1) (h : s_X8_isStuck I c L P x = some (r, J)) (hR : Res [eIS, eIX] r v t) (hQ : ∀ S2, (t = 0 → S2 = stX S o 0 (zl v)) → (S2 = S ∨ S2 = stX S o 0 (zl v)) → Q (.inl (some (.int t))) J S2) : CallH Ω m_L_isStuck [.ref c, .int x, .ref o] I S Q := by
  refine call_ofH (by decide +kernel) (Nat.le_of_ble_eq_true rfl) ?_
  refine r_aload_n (pc' := 1) dL_isStuck_0 rfl 2 rfl rfl ?_
  refine r_iconst (v := 0) (pc' := 2) dL_isStuck_1 rfl rfl ?_
  refine r_aload_n (pc' := 3) dL_isStuck_2 rfl 0 rfl rfl ?_
  refine r_iload_n (pc' := 4) dL_isStuck_3 rfl 1 rfl rfl ?_
  refine r_callV1 (pc' := 7) (k' := 2) (n' := 12) dL_isStuck_4 mb_X8_isStuck mi_X8_isStuck hc.o (by decide) rfl lk_L_48 rfl (Nat.zero_add _) (Nat.zero_add _) (Nat.le_of_ble_eq_true rfl) rfl (c_X8_isStuck hc ho.2.2.2 h ?_)
  cases r with
  | inl v0 =>
    obtain ⟨rfl, rfl⟩ := hR
    cases v0 with
    | false =>
      refine cpI (r := 0) ?_
      refine r_if_eq (tgt := 14) (pc' := 10) dL_isStuck_7 (by decide) rfl (fun _ => ?_) (fun q => absurd rfl q)
      refine r_lconst (v := 0) (pc' := 15) dL_isStuck_14 rfl rfl ?_
      refine r_lastore (pc' := 16) dL_isStuck_15 ho (by unfold vp_in; decide +kernel) rfl ?_
      refine r_goto (tgt := 25) dL_isStuck_16 (by decide) ?_
      refine r_iconst (v := 0) (pc' := 26) dL_isStuck_25 rfl rfl ?_
      exact r_iret dL_isStuck_26 rfl (Nat.le_of_ble_eq_true rfl) (Nat.le_of_ble_eq_true rfl) (hQ _ (fun _ => rfl) (Or.inr rfl))
    | true =>
      refine cpI (r := 1) ?_
      refine r_if_eq (tgt := 14) (pc' := 10) dL_isStuck_7 (by decide) rfl (fun q => absurd q (by decide)) (fun _ => ?_)
      refine r_lconst (v := 1) (pc' := 11) dL_isStuck_10 rfl rfl ?_
      refine r_goto (tgt := 15) dL_isStuck_11 (by decide) ?_
      refine r_lastore (pc' := 16) dL_isStuck_15 ho (by unfold vp_in; decide +kernel) rfl ?_
      refine r_goto (tgt := 25) dL_isStuck_16 (by decide) ?_
      refine r_iconst (v := 0) (pc' := 26) dL_isStuck_25 rfl rfl ?_
      exact r_iret dL_isStuck_26 rfl (Nat.le_of_ble_eq_true rfl) (Nat.le_of_ble_eq_true rfl) (hQ _ (fun _ => rfl) (Or.inr rfl))
  | inr E0 =>
    refine cpX ?_
    obtain ⟨i, hi, rfl⟩ := hR
    match i, hi with
    | 0, hi =>
      cases hi
      refine ax_catch (E := eIS) (name := eIS) (hd := (0, 16, 19, 21)) [] [(0, 16, 22, 13)] rfl (fun z hz => absurd hz List.not_mem_nil) rfl (by decide) cl_21 ca_IS (fun q => ?_)
      refine r_astore_n (pc' := 20) dL_isStuck_19 rfl (by decide) rfl rfl ?_
      refine r_iconst (v := nI (0 + 1)) (pc' := 21) dL_isStuck_20 (by decide) rfl ?_
      exact r_iret dL_isStuck_21 rfl (Nat.le_of_ble_eq_true rfl) (Nat.le_of_ble_eq_true rfl) (hQ _ (fun q => absurd q (by decide)) (Or.inl rfl))
    | 1, hi =>
      cases hi
      refine ax_catch (E := eIX) (name := eIX) (hd := (0, 16, 22, 13)) [(0, 16, 19, 21)] [] rfl (List.forall_mem_cons.mpr ⟨⟨by decide, eIS, cl_21, nc_eIX_eIS⟩, fun _ hz => absurd hz List.not_mem_nil⟩) rfl (by decide) cl_13 ca_IX (fun q => ?_)
      refine r_astore_n (pc' := 23) dL_isStuck_22 rfl (by decide) rfl rfl ?_
      refine r_iconst (v := nI (1 + 1)) (pc' := 24) dL_isStuck_23 (by decide) rfl ?_
      exact r_iret dL_isStuck_24 rfl (Nat.le_of_ble_eq_true rfl) (Nat.le_of_ble_eq_true rfl) (hQ _ (fun q => absurd q (by decide)) (Or.inl rfl))
    | n + 2, hi => simp at hi
abbrev m_L_cardCount : JM := (yL_cardCount, cL_cardCount, 3, (some .int), [(0, 8, 11, 21)], { frames := 8, cells := 1, slots := 6, locals := 296 })
theorem mb_L_cardCount : SBH m_L_cardCount 2 := ⟨gm 1098 (by decide +kernel) rfl, gm 152 (by decide +kernel) rfl, by decide +kernel, by decide +kernel⟩
theorem ms_L_cardCount : SS m_L_cardCount := gm 1097 (by decide +kernel) rfl
theorem lw_L_261 : LK RL 261 m_L_cardCount := gm 1096 (by decide +kernel) rfl
theorem w_cardCount {r : Int32 ⊕ String} {v : Int32} (hc : Is8 S c L P) (ho : ArE 14 S o 1) (h : s_X8_cardCount I c L P = some (r, J)) (hR : Res [eIS] r v t) (hQ : ∀ S2, (t = 0 → S2 = stX S o 0 v.toInt64) → (S2 = S ∨ S2 = stX S o 0 v.toInt64) → Q (.inl (some (.int t))) J S2) : CallH Ω m_L_cardCount [.ref c, .ref o] I S Q := by
  refine call_ofH (by decide +kernel) (Nat.le_of_ble_eq_true rfl) ?_
  refine r_aload_n (pc' := 1) dL_cardCount_0 rfl 1 rfl rfl ?_
  refine r_iconst (v := 0) (pc' := 2) dL_cardCount_1 rfl rfl ?_
  refine r_aload_n (pc' := 3) dL_cardCount_2 rfl 0 rfl rfl ?_
  refine r_callV0 (pc' := 6) (k' := 1) (n' := 6) dL_cardCount_3 mb_X8_cardCount mi_X8_cardCount hc.o (by decide) rfl lk_L_51 rfl (Nat.zero_add _) (Nat.zero_add _) (Nat.le_of_ble_eq_true rfl) rfl (c_X8_cardCount hc ho.2.2.2 h ?_)
  cases r with
  | inl v0 =>
    obtain ⟨rfl, rfl⟩ := hR
    refine cpI ?_
    refine r_i2l (pc' := 7) dL_cardCount_6 rfl ?_
    refine r_lastore (pc' := 8) dL_cardCount_7 ho (by unfold vp_in; decide +kernel) rfl ?_
    refine r_goto (tgt := 14) dL_cardCount_8 (by decide) ?_
    refine r_iconst (v := 0) (pc' := 15) dL_cardCount_14 rfl rfl ?_
    exact r_iret dL_cardCount_15 rfl (Nat.le_of_ble_eq_true rfl) (Nat.le_of_ble_eq_true rfl) (hQ _ (fun _ => rfl) (Or.inr rfl))
  | inr E0 =>
    refine cpX ?_
    obtain ⟨i, hi, rfl⟩ := hR
    match i, hi with
    | 0, hi =>
      cases hi
      refine ax_catch (E := eIS) (name := eIS) (hd := (0, 8, 11, 21)) [] [] rfl (fun z hz => absurd hz List.not_mem_nil) rfl (by decide) cl_21 ca_IS (fun q => ?_)
      refine r_astore_n (pc' := 12) dL_cardCount_11 rfl (by decide) rfl rfl ?_
      refine r_iconst (v := nI (0 + 1)) (pc' := 13) dL_cardCount_12 (by decide) rfl ?_
      exact r_iret dL_cardCount_13 rfl (Nat.le_of_ble_eq_true rfl) (Nat.le_of_ble_eq_true rfl) (hQ _ (fun q => absurd q (by decide)) (Or.inl rfl))
    | n + 1, hi => simp at hi
abbrev m_L_lifts : JM := (yL_lifts, cL_lifts, 5, (some .int), [(0, 17, 20, 21), (0, 17, 24, 13)], { frames := 9, cells := 4, slots := 24, locals := 333 })
theorem mb_L_lifts : SBH m_L_lifts 4 := ⟨gm 1105 (by decide +kernel) rfl, gm 152 (by decide +kernel) rfl, by decide +kernel, by decide +kernel⟩
theorem ms_L_lifts : SS m_L_lifts := gm 1104 (by decide +kernel) rfl
theorem lw_L_264 : LK RL 264 m_L_lifts := gm 1103 (by decide +kernel) rfl
theorem w_lifts {r : Bool ⊕ String} {v : Bool} (hc : Is8 S c L P) (ho : ArE 14 S o 1) (h : s_X8_lifts I c L P x y = some (r, J)) (hR : Res [eIS, eIX] r v t) (hQ : ∀ S2, (t = 0 → S2 = stX S o 0 (zl v)) → (S2 = S ∨ S2 = stX S o 0 (zl v)) → Q (.inl (some (.int t))) J S2) : CallH Ω m_L_lifts [.ref c, .int x, .int y, .ref o] I S Q := by
  refine call_ofH (by decide +kernel) (Nat.le_of_ble_eq_true rfl) ?_
  refine r_aload_n (pc' := 1) dL_lifts_0 rfl 3 rfl rfl ?_
  refine r_iconst (v := 0) (pc' := 2) dL_lifts_1 rfl rfl ?_
  refine r_aload_n (pc' := 3) dL_lifts_2 rfl 0 rfl rfl ?_
  refine r_iload_n (pc' := 4) dL_lifts_3 rfl 1 rfl rfl ?_
  refine r_iload_n (pc' := 5) dL_lifts_4 rfl 2 rfl rfl ?_
  refine r_callV2 (pc' := 8) (k' := 4) (n' := 24) dL_lifts_5 mb_X8_lifts mi_X8_lifts hc.o (by decide) rfl lk_L_54 rfl (Nat.zero_add _) (Nat.zero_add _) (Nat.le_of_ble_eq_true rfl) rfl (c_X8_lifts hc ho.2.2.2 h ?_)
  cases r with
  | inl v0 =>
    obtain ⟨rfl, rfl⟩ := hR
    cases v0 with
    | false =>
      refine cpI (r := 0) ?_
      refine r_if_eq (tgt := 15) (pc' := 11) dL_lifts_8 (by decide) rfl (fun _ => ?_) (fun q => absurd rfl q)
      refine r_lconst (v := 0) (pc' := 16) dL_lifts_15 rfl rfl ?_
      refine r_lastore (pc' := 17) dL_lifts_16 ho (by unfold vp_in; decide +kernel) rfl ?_
      refine r_goto (tgt := 28) dL_lifts_17 (by decide) ?_
      refine r_iconst (v := 0) (pc' := 29) dL_lifts_28 rfl rfl ?_
      exact r_iret dL_lifts_29 rfl (Nat.le_of_ble_eq_true rfl) (Nat.le_of_ble_eq_true rfl) (hQ _ (fun _ => rfl) (Or.inr rfl))
    | true =>
      refine cpI (r := 1) ?_
      refine r_if_eq (tgt := 15) (pc' := 11) dL_lifts_8 (by decide) rfl (fun q => absurd q (by decide)) (fun _ => ?_)
      refine r_lconst (v := 1) (pc' := 12) dL_lifts_11 rfl rfl ?_
      refine r_goto (tgt := 16) dL_lifts_12 (by decide) ?_
      refine r_lastore (pc' := 17) dL_lifts_16 ho (by unfold vp_in; decide +kernel) rfl ?_
      refine r_goto (tgt := 28) dL_lifts_17 (by decide) ?_
      refine r_iconst (v := 0) (pc' := 29) dL_lifts_28 rfl rfl ?_
      exact r_iret dL_lifts_29 rfl (Nat.le_of_ble_eq_true rfl) (Nat.le_of_ble_eq_true rfl) (hQ _ (fun _ => rfl) (Or.inr rfl))
  | inr E0 =>
    refine cpX ?_
    obtain ⟨i, hi, rfl⟩ := hR
    match i, hi with
    | 0, hi =>
      cases hi
      refine ax_catch (E := eIS) (name := eIS) (hd := (0, 17, 20, 21)) [] [(0, 17, 24, 13)] rfl (fun z hz => absurd hz List.not_mem_nil) rfl (by decide) cl_21 ca_IS (fun q => ?_)
      refine r_astore (pc' := 22) dL_lifts_20 (by decide) rfl rfl ?_
      refine r_iconst (v := nI (0 + 1)) (pc' := 23) dL_lifts_22 (by decide) rfl ?_
      exact r_iret dL_lifts_23 rfl (Nat.le_of_ble_eq_true rfl) (Nat.le_of_ble_eq_true rfl) (hQ _ (fun q => absurd q (by decide)) (Or.inl rfl))
    | 1, hi =>
      cases hi
      refine ax_catch (E := eIX) (name := eIX) (hd := (0, 17, 24, 13)) [(0, 17, 20, 21)] [] rfl (List.forall_mem_cons.mpr ⟨⟨by decide, eIS, cl_21, nc_eIX_eIS⟩, fun _ hz => absurd hz List.not_mem_nil⟩) rfl (by decide) cl_13 ca_IX (fun q => ?_)
      refine r_astore (pc' := 26) dL_lifts_24 (by decide) rfl rfl ?_
      refine r_iconst (v := nI (1 + 1)) (pc' := 27) dL_lifts_26 (by decide) rfl ?_
      exact r_iret dL_lifts_27 rfl (Nat.le_of_ble_eq_true rfl) (Nat.le_of_ble_eq_true rfl) (hQ _ (fun q => absurd q (by decide)) (Or.inl rfl))
    | n + 2, hi => simp at hi
abbrev m_L_cardColour : JM := (yL_cardColour, cL_cardColour, 4, (some .int), [(0, 9, 12, 21), (0, 9, 15, 13)], { frames := 9, cells := 2, slots := 12, locals := 333 })
theorem mb_L_cardColour : SBH m_L_cardColour 3 := ⟨gm 1116 (by decide +kernel) rfl, gm 152 (by decide +kernel) rfl, by decide +kernel, by decide +kernel⟩
theorem ms_L_cardColour : SS m_L_cardColour := gm 1115 (by decide +kernel) rfl
theorem lw_L_268 : LK RL 268 m_L_cardColour := gm 1114 (by decide +kernel) rfl
theorem w_cardColour {r : Int32 ⊕ String} {v : Int32} (hc : Is8 S c L P) (ho : ArE 14 S o 1) (h : s_X8_cardColour I c L P x = some (r, J)) (hR : Res [eIS, eIX] r v t) (hQ : ∀ S2, (t = 0 → S2 = stX S o 0 v.toInt64) → (S2 = S ∨ S2 = stX S o 0 v.toInt64) → Q (.inl (some (.int t))) J S2) : CallH Ω m_L_cardColour [.ref c, .int x, .ref o] I S Q := by
  refine call_ofH (by decide +kernel) (Nat.le_of_ble_eq_true rfl) ?_
  refine r_aload_n (pc' := 1) dL_cardColour_0 rfl 2 rfl rfl ?_
  refine r_iconst (v := 0) (pc' := 2) dL_cardColour_1 rfl rfl ?_
  refine r_aload_n (pc' := 3) dL_cardColour_2 rfl 0 rfl rfl ?_
  refine r_iload_n (pc' := 4) dL_cardColour_3 rfl 1 rfl rfl ?_
  refine r_callV1 (pc' := 7) (k' := 2) (n' := 12) dL_cardColour_4 mb_X8_cardColour mi_X8_cardColour hc.o (by decide) rfl lk_L_58 rfl (Nat.zero_add _) (Nat.zero_add _) (Nat.le_of_ble_eq_true rfl) rfl (c_X8_cardColour hc ho.2.2.2 h ?_)
  cases r with
  | inl v0 =>
    obtain ⟨rfl, rfl⟩ := hR
    refine cpI ?_
    refine r_i2l (pc' := 8) dL_cardColour_7 rfl ?_
    refine r_lastore (pc' := 9) dL_cardColour_8 ho (by unfold vp_in; decide +kernel) rfl ?_
    refine r_goto (tgt := 18) dL_cardColour_9 (by decide) ?_
    refine r_iconst (v := 0) (pc' := 19) dL_cardColour_18 rfl rfl ?_
    exact r_iret dL_cardColour_19 rfl (Nat.le_of_ble_eq_true rfl) (Nat.le_of_ble_eq_true rfl) (hQ _ (fun _ => rfl) (Or.inr rfl))
  | inr E0 =>
    refine cpX ?_
    obtain ⟨i, hi, rfl⟩ := hR
    match i, hi with
    | 0, hi =>
      cases hi
      refine ax_catch (E := eIS) (name := eIS) (hd := (0, 9, 12, 21)) [] [(0, 9, 15, 13)] rfl (fun z hz => absurd hz List.not_mem_nil) rfl (by decide) cl_21 ca_IS (fun q => ?_)
      refine r_astore_n (pc' := 13) dL_cardColour_12 rfl (by decide) rfl rfl ?_
      refine r_iconst (v := nI (0 + 1)) (pc' := 14) dL_cardColour_13 (by decide) rfl ?_
      exact r_iret dL_cardColour_14 rfl (Nat.le_of_ble_eq_true rfl) (Nat.le_of_ble_eq_true rfl) (hQ _ (fun q => absurd q (by decide)) (Or.inl rfl))
    | 1, hi =>
      cases hi
      refine ax_catch (E := eIX) (name := eIX) (hd := (0, 9, 15, 13)) [(0, 9, 12, 21)] [] rfl (List.forall_mem_cons.mpr ⟨⟨by decide, eIS, cl_21, nc_eIX_eIS⟩, fun _ hz => absurd hz List.not_mem_nil⟩) rfl (by decide) cl_13 ca_IX (fun q => ?_)
      refine r_astore_n (pc' := 16) dL_cardColour_15 rfl (by decide) rfl rfl ?_
      refine r_iconst (v := nI (1 + 1)) (pc' := 17) dL_cardColour_16 (by decide) rfl ?_
      exact r_iret dL_cardColour_17 rfl (Nat.le_of_ble_eq_true rfl) (Nat.le_of_ble_eq_true rfl) (hQ _ (fun q => absurd q (by decide)) (Or.inl rfl))
    | n + 2, hi => simp at hi
abbrev m_L_liftedWarps : JM := (yL_liftedWarps, cL_liftedWarps, 4, (some .int), [(0, 9, 12, 21), (0, 9, 15, 13)], { frames := 9, cells := 2, slots := 12, locals := 333 })
theorem mb_L_liftedWarps : SBH m_L_liftedWarps 3 := ⟨gm 1123 (by decide +kernel) rfl, gm 152 (by decide +kernel) rfl, by decide +kernel, by decide +kernel⟩
theorem ms_L_liftedWarps : SS m_L_liftedWarps := gm 1122 (by decide +kernel) rfl
theorem lw_L_271 : LK RL 271 m_L_liftedWarps := gm 1121 (by decide +kernel) rfl
theorem w_liftedWarps {r : Int32 ⊕ String} {v : Int32} (hc : Is8 S c L P) (ho : ArE 14 S o 1) (h : s_X8_liftedWarps I c L P x = some (r, J)) (hR : Res [eIS, eIX] r v t) (hQ : ∀ S2, (t = 0 → S2 = stX S o 0 v.toInt64) → (S2 = S ∨ S2 = stX S o 0 v.toInt64) → Q (.inl (some (.int t))) J S2) : CallH Ω m_L_liftedWarps [.ref c, .int x, .ref o] I S Q := by
  refine call_ofH (by decide +kernel) (Nat.le_of_ble_eq_true rfl) ?_
  refine r_aload_n (pc' := 1) dL_liftedWarps_0 rfl 2 rfl rfl ?_
  refine r_iconst (v := 0) (pc' := 2) dL_liftedWarps_1 rfl rfl ?_
  refine r_aload_n (pc' := 3) dL_liftedWarps_2 rfl 0 rfl rfl ?_
  refine r_iload_n (pc' := 4) dL_liftedWarps_3 rfl 1 rfl rfl ?_
  refine r_callV1 (pc' := 7) (k' := 2) (n' := 12) dL_liftedWarps_4 mb_X8_liftedWarps mi_X8_liftedWarps hc.o (by decide) rfl lk_L_61 rfl (Nat.zero_add _) (Nat.zero_add _) (Nat.le_of_ble_eq_true rfl) rfl (c_X8_liftedWarps hc ho.2.2.2 h ?_)
  cases r with
  | inl v0 =>
    obtain ⟨rfl, rfl⟩ := hR
    refine cpI ?_
    refine r_i2l (pc' := 8) dL_liftedWarps_7 rfl ?_
    refine r_lastore (pc' := 9) dL_liftedWarps_8 ho (by unfold vp_in; decide +kernel) rfl ?_
    refine r_goto (tgt := 18) dL_liftedWarps_9 (by decide) ?_
    refine r_iconst (v := 0) (pc' := 19) dL_liftedWarps_18 rfl rfl ?_
    exact r_iret dL_liftedWarps_19 rfl (Nat.le_of_ble_eq_true rfl) (Nat.le_of_ble_eq_true rfl) (hQ _ (fun _ => rfl) (Or.inr rfl))
  | inr E0 =>
    refine cpX ?_
    obtain ⟨i, hi, rfl⟩ := hR
    match i, hi with
    | 0, hi =>
      cases hi
      refine ax_catch (E := eIS) (name := eIS) (hd := (0, 9, 12, 21)) [] [(0, 9, 15, 13)] rfl (fun z hz => absurd hz List.not_mem_nil) rfl (by decide) cl_21 ca_IS (fun q => ?_)
      refine r_astore_n (pc' := 13) dL_liftedWarps_12 rfl (by decide) rfl rfl ?_
      refine r_iconst (v := nI (0 + 1)) (pc' := 14) dL_liftedWarps_13 (by decide) rfl ?_
      exact r_iret dL_liftedWarps_14 rfl (Nat.le_of_ble_eq_true rfl) (Nat.le_of_ble_eq_true rfl) (hQ _ (fun q => absurd q (by decide)) (Or.inl rfl))
    | 1, hi =>
      cases hi
      refine ax_catch (E := eIX) (name := eIX) (hd := (0, 9, 15, 13)) [(0, 9, 12, 21)] [] rfl (List.forall_mem_cons.mpr ⟨⟨by decide, eIS, cl_21, nc_eIX_eIS⟩, fun _ hz => absurd hz List.not_mem_nil⟩) rfl (by decide) cl_13 ca_IX (fun q => ?_)
      refine r_astore_n (pc' := 16) dL_liftedWarps_15 rfl (by decide) rfl rfl ?_
      refine r_iconst (v := nI (1 + 1)) (pc' := 17) dL_liftedWarps_16 (by decide) rfl ?_
      exact r_iret dL_liftedWarps_17 rfl (Nat.le_of_ble_eq_true rfl) (Nat.le_of_ble_eq_true rfl) (hQ _ (fun q => absurd q (by decide)) (Or.inl rfl))
    | n + 2, hi => simp at hi
abbrev m_L_liftDistance : JM := (yL_liftDistance, cL_liftDistance, 5, (some .int), [(0, 10, 13, 21), (0, 10, 17, 13)], { frames := 9, cells := 4, slots := 24, locals := 333 })
theorem mb_L_liftDistance : SBH m_L_liftDistance 4 := ⟨gm 1130 (by decide +kernel) rfl, gm 152 (by decide +kernel) rfl, by decide +kernel, by decide +kernel⟩
theorem ms_L_liftDistance : SS m_L_liftDistance := gm 1129 (by decide +kernel) rfl
theorem lw_L_274 : LK RL 274 m_L_liftDistance := gm 1128 (by decide +kernel) rfl
theorem w_liftDistance {r : Int32 ⊕ String} {v : Int32} (hc : Is8 S c L P) (ho : ArE 14 S o 1) (h : s_X8_liftDistance I c L P x y = some (r, J)) (hR : Res [eIS, eIX] r v t) (hQ : ∀ S2, (t = 0 → S2 = stX S o 0 v.toInt64) → (S2 = S ∨ S2 = stX S o 0 v.toInt64) → Q (.inl (some (.int t))) J S2) : CallH Ω m_L_liftDistance [.ref c, .int x, .int y, .ref o] I S Q := by
  refine call_ofH (by decide +kernel) (Nat.le_of_ble_eq_true rfl) ?_
  refine r_aload_n (pc' := 1) dL_liftDistance_0 rfl 3 rfl rfl ?_
  refine r_iconst (v := 0) (pc' := 2) dL_liftDistance_1 rfl rfl ?_
  refine r_aload_n (pc' := 3) dL_liftDistance_2 rfl 0 rfl rfl ?_
  refine r_iload_n (pc' := 4) dL_liftDistance_3 rfl 1 rfl rfl ?_
  refine r_iload_n (pc' := 5) dL_liftDistance_4 rfl 2 rfl rfl ?_
  refine r_callV2 (pc' := 8) (k' := 4) (n' := 24) dL_liftDistance_5 mb_X8_liftDistance mi_X8_liftDistance hc.o (by decide) rfl lk_L_64 rfl (Nat.zero_add _) (Nat.zero_add _) (Nat.le_of_ble_eq_true rfl) rfl (c_X8_liftDistance hc ho.2.2.2 h ?_)
  cases r with
  | inl v0 =>
    obtain ⟨rfl, rfl⟩ := hR
    refine cpI ?_
    refine r_i2l (pc' := 9) dL_liftDistance_8 rfl ?_
    refine r_lastore (pc' := 10) dL_liftDistance_9 ho (by unfold vp_in; decide +kernel) rfl ?_
    refine r_goto (tgt := 21) dL_liftDistance_10 (by decide) ?_
    refine r_iconst (v := 0) (pc' := 22) dL_liftDistance_21 rfl rfl ?_
    exact r_iret dL_liftDistance_22 rfl (Nat.le_of_ble_eq_true rfl) (Nat.le_of_ble_eq_true rfl) (hQ _ (fun _ => rfl) (Or.inr rfl))
  | inr E0 =>
    refine cpX ?_
    obtain ⟨i, hi, rfl⟩ := hR
    match i, hi with
    | 0, hi =>
      cases hi
      refine ax_catch (E := eIS) (name := eIS) (hd := (0, 10, 13, 21)) [] [(0, 10, 17, 13)] rfl (fun z hz => absurd hz List.not_mem_nil) rfl (by decide) cl_21 ca_IS (fun q => ?_)
      refine r_astore (pc' := 15) dL_liftDistance_13 (by decide) rfl rfl ?_
      refine r_iconst (v := nI (0 + 1)) (pc' := 16) dL_liftDistance_15 (by decide) rfl ?_
      exact r_iret dL_liftDistance_16 rfl (Nat.le_of_ble_eq_true rfl) (Nat.le_of_ble_eq_true rfl) (hQ _ (fun q => absurd q (by decide)) (Or.inl rfl))
    | 1, hi =>
      cases hi
      refine ax_catch (E := eIX) (name := eIX) (hd := (0, 10, 17, 13)) [(0, 10, 13, 21)] [] rfl (List.forall_mem_cons.mpr ⟨⟨by decide, eIS, cl_21, nc_eIX_eIS⟩, fun _ hz => absurd hz List.not_mem_nil⟩) rfl (by decide) cl_13 ca_IX (fun q => ?_)
      refine r_astore (pc' := 19) dL_liftDistance_17 (by decide) rfl rfl ?_
      refine r_iconst (v := nI (1 + 1)) (pc' := 20) dL_liftDistance_19 (by decide) rfl ?_
      exact r_iret dL_liftDistance_20 rfl (Nat.le_of_ble_eq_true rfl) (Nat.le_of_ble_eq_true rfl) (hQ _ (fun q => absurd q (by decide)) (Or.inl rfl))
    | n + 2, hi => simp at hi
abbrev m_L_oppositeCard : JM := (yL_oppositeCard, cL_oppositeCard, 4, (some .int), [(0, 9, 12, 21), (0, 9, 15, 13)], { frames := 9, cells := 2, slots := 12, locals := 333 })
theorem mb_L_oppositeCard : SBH m_L_oppositeCard 3 := ⟨gm 1137 (by decide +kernel) rfl, gm 152 (by decide +kernel) rfl, by decide +kernel, by decide +kernel⟩
theorem ms_L_oppositeCard : SS m_L_oppositeCard := gm 1136 (by decide +kernel) rfl
theorem lw_L_277 : LK RL 277 m_L_oppositeCard := gm 1135 (by decide +kernel) rfl
theorem w_oppositeCard {r : Int32 ⊕ String} {v : Int32} (hc : Is8 S c L P) (ho : ArE 14 S o 1) (h : s_X8_oppositeCard I c L P x = some (r, J)) (hR : Res [eIS, eIX] r v t) (hQ : ∀ S2, (t = 0 → S2 = stX S o 0 v.toInt64) → (S2 = S ∨ S2 = stX S o 0 v.toInt64) → Q (.inl (some (.int t))) J S2) : CallH Ω m_L_oppositeCard [.ref c, .int x, .ref o] I S Q := by
  refine call_ofH (by decide +kernel) (Nat.le_of_ble_eq_true rfl) ?_
  refine r_aload_n (pc' := 1) dL_oppositeCard_0 rfl 2 rfl rfl ?_
  refine r_iconst (v := 0) (pc' := 2) dL_oppositeCard_1 rfl rfl ?_
  refine r_aload_n (pc' := 3) dL_oppositeCard_2 rfl 0 rfl rfl ?_
  refine r_iload_n (pc' := 4) dL_oppositeCard_3 rfl 1 rfl rfl ?_
  refine r_callV1 (pc' := 7) (k' := 2) (n' := 12) dL_oppositeCard_4 mb_X8_oppositeCard mi_X8_oppositeCard hc.o (by decide) rfl lk_L_68 rfl (Nat.zero_add _) (Nat.zero_add _) (Nat.le_of_ble_eq_true rfl) rfl (c_X8_oppositeCard hc ho.2.2.2 h ?_)
  cases r with
  | inl v0 =>
    obtain ⟨rfl, rfl⟩ := hR
    refine cpI ?_
    refine r_i2l (pc' := 8) dL_oppositeCard_7 rfl ?_
    refine r_lastore (pc' := 9) dL_oppositeCard_8 ho (by unfold vp_in; decide +kernel) rfl ?_
    refine r_goto (tgt := 18) dL_oppositeCard_9 (by decide) ?_
    refine r_iconst (v := 0) (pc' := 19) dL_oppositeCard_18 rfl rfl ?_
    exact r_iret dL_oppositeCard_19 rfl (Nat.le_of_ble_eq_true rfl) (Nat.le_of_ble_eq_true rfl) (hQ _ (fun _ => rfl) (Or.inr rfl))
  | inr E0 =>
    refine cpX ?_
    obtain ⟨i, hi, rfl⟩ := hR
    match i, hi with
    | 0, hi =>
      cases hi
      refine ax_catch (E := eIS) (name := eIS) (hd := (0, 9, 12, 21)) [] [(0, 9, 15, 13)] rfl (fun z hz => absurd hz List.not_mem_nil) rfl (by decide) cl_21 ca_IS (fun q => ?_)
      refine r_astore_n (pc' := 13) dL_oppositeCard_12 rfl (by decide) rfl rfl ?_
      refine r_iconst (v := nI (0 + 1)) (pc' := 14) dL_oppositeCard_13 (by decide) rfl ?_
      exact r_iret dL_oppositeCard_14 rfl (Nat.le_of_ble_eq_true rfl) (Nat.le_of_ble_eq_true rfl) (hQ _ (fun q => absurd q (by decide)) (Or.inl rfl))
    | 1, hi =>
      cases hi
      refine ax_catch (E := eIX) (name := eIX) (hd := (0, 9, 15, 13)) [(0, 9, 12, 21)] [] rfl (List.forall_mem_cons.mpr ⟨⟨by decide, eIS, cl_21, nc_eIX_eIS⟩, fun _ hz => absurd hz List.not_mem_nil⟩) rfl (by decide) cl_13 ca_IX (fun q => ?_)
      refine r_astore_n (pc' := 16) dL_oppositeCard_15 rfl (by decide) rfl rfl ?_
      refine r_iconst (v := nI (1 + 1)) (pc' := 17) dL_oppositeCard_16 (by decide) rfl ?_
      exact r_iret dL_oppositeCard_17 rfl (Nat.le_of_ble_eq_true rfl) (Nat.le_of_ble_eq_true rfl) (hQ _ (fun q => absurd q (by decide)) (Or.inl rfl))
    | n + 2, hi => simp at hi
abbrev m_L_deckLength : JM := (yL_deckLength, cL_deckLength, 3, (some .int), [(0, 8, 11, 21)], { frames := 8, cells := 1, slots := 6, locals := 296 })
theorem mb_L_deckLength : SBH m_L_deckLength 2 := ⟨gm 1145 (by decide +kernel) rfl, gm 152 (by decide +kernel) rfl, by decide +kernel, by decide +kernel⟩
theorem ms_L_deckLength : SS m_L_deckLength := gm 1144 (by decide +kernel) rfl
theorem lw_L_280 : LK RL 280 m_L_deckLength := gm 1143 (by decide +kernel) rfl
theorem w_deckLength {r : Int32 ⊕ String} {v : Int32} (hc : Is8 S c L P) (ho : ArE 14 S o 1) (h : s_X8_deckLength I c L P = some (r, J)) (hR : Res [eIS] r v t) (hQ : ∀ S2, (t = 0 → S2 = stX S o 0 v.toInt64) → (S2 = S ∨ S2 = stX S o 0 v.toInt64) → Q (.inl (some (.int t))) J S2) : CallH Ω m_L_deckLength [.ref c, .ref o] I S Q := by
  refine call_ofH (by decide +kernel) (Nat.le_of_ble_eq_true rfl) ?_
  refine r_aload_n (pc' := 1) dL_deckLength_0 rfl 1 rfl rfl ?_
  refine r_iconst (v := 0) (pc' := 2) dL_deckLength_1 rfl rfl ?_
  refine r_aload_n (pc' := 3) dL_deckLength_2 rfl 0 rfl rfl ?_
  refine r_callV0 (pc' := 6) (k' := 1) (n' := 6) dL_deckLength_3 mb_X8_deckLength mi_X8_deckLength hc.o (by decide) rfl lk_L_71 rfl (Nat.zero_add _) (Nat.zero_add _) (Nat.le_of_ble_eq_true rfl) rfl (c_X8_deckLength hc ho.2.2.2 h ?_)
  cases r with
  | inl v0 =>
    obtain ⟨rfl, rfl⟩ := hR
    refine cpI ?_
    refine r_i2l (pc' := 7) dL_deckLength_6 rfl ?_
    refine r_lastore (pc' := 8) dL_deckLength_7 ho (by unfold vp_in; decide +kernel) rfl ?_
    refine r_goto (tgt := 14) dL_deckLength_8 (by decide) ?_
    refine r_iconst (v := 0) (pc' := 15) dL_deckLength_14 rfl rfl ?_
    exact r_iret dL_deckLength_15 rfl (Nat.le_of_ble_eq_true rfl) (Nat.le_of_ble_eq_true rfl) (hQ _ (fun _ => rfl) (Or.inr rfl))
  | inr E0 =>
    refine cpX ?_
    obtain ⟨i, hi, rfl⟩ := hR
    match i, hi with
    | 0, hi =>
      cases hi
      refine ax_catch (E := eIS) (name := eIS) (hd := (0, 8, 11, 21)) [] [] rfl (fun z hz => absurd hz List.not_mem_nil) rfl (by decide) cl_21 ca_IS (fun q => ?_)
      refine r_astore_n (pc' := 12) dL_deckLength_11 rfl (by decide) rfl rfl ?_
      refine r_iconst (v := nI (0 + 1)) (pc' := 13) dL_deckLength_12 (by decide) rfl ?_
      exact r_iret dL_deckLength_13 rfl (Nat.le_of_ble_eq_true rfl) (Nat.le_of_ble_eq_true rfl) (hQ _ (fun q => absurd q (by decide)) (Or.inl rfl))
    | n + 1, hi => simp at hi
abbrev m_L_deckCard : JM := (yL_deckCard, cL_deckCard, 4, (some .int), [(0, 9, 12, 21), (0, 9, 15, 13)], { frames := 8, cells := 2, slots := 12, locals := 296 })
theorem mb_L_deckCard : SBH m_L_deckCard 3 := ⟨gm 1152 (by decide +kernel) rfl, gm 152 (by decide +kernel) rfl, by decide +kernel, by decide +kernel⟩
theorem ms_L_deckCard : SS m_L_deckCard := gm 1151 (by decide +kernel) rfl
theorem lw_L_283 : LK RL 283 m_L_deckCard := gm 1150 (by decide +kernel) rfl
theorem w_deckCard {r : Int32 ⊕ String} {v : Int32} (hc : Is8 S c L P) (ho : ArE 14 S o 1) (h : s_X8_deckCard I c L P x = some (r, J)) (hR : Res [eIS, eIX] r v t) (hQ : ∀ S2, (t = 0 → S2 = stX S o 0 v.toInt64) → (S2 = S ∨ S2 = stX S o 0 v.toInt64) → Q (.inl (some (.int t))) J S2) : CallH Ω m_L_deckCard [.ref c, .int x, .ref o] I S Q := by
  refine call_ofH (by decide +kernel) (Nat.le_of_ble_eq_true rfl) ?_
  refine r_aload_n (pc' := 1) dL_deckCard_0 rfl 2 rfl rfl ?_
  refine r_iconst (v := 0) (pc' := 2) dL_deckCard_1 rfl rfl ?_
  refine r_aload_n (pc' := 3) dL_deckCard_2 rfl 0 rfl rfl ?_
  refine r_iload_n (pc' := 4) dL_deckCard_3 rfl 1 rfl rfl ?_
  refine r_callV1 (pc' := 7) (k' := 2) (n' := 12) dL_deckCard_4 mb_X8_deckCard mi_X8_deckCard hc.o (by decide) rfl lk_L_74 rfl (Nat.zero_add _) (Nat.zero_add _) (Nat.le_of_ble_eq_true rfl) rfl (c_X8_deckCard hc ho.2.2.2 h ?_)
  cases r with
  | inl v0 =>
    obtain ⟨rfl, rfl⟩ := hR
    refine cpI ?_
    refine r_i2l (pc' := 8) dL_deckCard_7 rfl ?_
    refine r_lastore (pc' := 9) dL_deckCard_8 ho (by unfold vp_in; decide +kernel) rfl ?_
    refine r_goto (tgt := 18) dL_deckCard_9 (by decide) ?_
    refine r_iconst (v := 0) (pc' := 19) dL_deckCard_18 rfl rfl ?_
    exact r_iret dL_deckCard_19 rfl (Nat.le_of_ble_eq_true rfl) (Nat.le_of_ble_eq_true rfl) (hQ _ (fun _ => rfl) (Or.inr rfl))
  | inr E0 =>
    refine cpX ?_
    obtain ⟨i, hi, rfl⟩ := hR
    match i, hi with
    | 0, hi =>
      cases hi
      refine ax_catch (E := eIS) (name := eIS) (hd := (0, 9, 12, 21)) [] [(0, 9, 15, 13)] rfl (fun z hz => absurd hz List.not_mem_nil) rfl (by decide) cl_21 ca_IS (fun q => ?_)
      refine r_astore_n (pc' := 13) dL_deckCard_12 rfl (by decide) rfl rfl ?_
      refine r_iconst (v := nI (0 + 1)) (pc' := 14) dL_deckCard_13 (by decide) rfl ?_
      exact r_iret dL_deckCard_14 rfl (Nat.le_of_ble_eq_true rfl) (Nat.le_of_ble_eq_true rfl) (hQ _ (fun q => absurd q (by decide)) (Or.inl rfl))
    | 1, hi =>
      cases hi
      refine ax_catch (E := eIX) (name := eIX) (hd := (0, 9, 15, 13)) [(0, 9, 12, 21)] [] rfl (List.forall_mem_cons.mpr ⟨⟨by decide, eIS, cl_21, nc_eIX_eIS⟩, fun _ hz => absurd hz List.not_mem_nil⟩) rfl (by decide) cl_13 ca_IX (fun q => ?_)
      refine r_astore_n (pc' := 16) dL_deckCard_15 rfl (by decide) rfl rfl ?_
      refine r_iconst (v := nI (1 + 1)) (pc' := 17) dL_deckCard_16 (by decide) rfl ?_
      exact r_iret dL_deckCard_17 rfl (Nat.le_of_ble_eq_true rfl) (Nat.le_of_ble_eq_true rfl) (hQ _ (fun q => absurd q (by decide)) (Or.inl rfl))
    | n + 2, hi => simp at hi
abbrev m_L_cardUses : JM := (yL_cardUses, cL_cardUses, 4, (some .int), [(0, 9, 12, 21), (0, 9, 15, 13)], { frames := 9, cells := 2, slots := 12, locals := 333 })
theorem mb_L_cardUses : SBH m_L_cardUses 3 := ⟨gm 1159 (by decide +kernel) rfl, gm 152 (by decide +kernel) rfl, by decide +kernel, by decide +kernel⟩
theorem ms_L_cardUses : SS m_L_cardUses := gm 1158 (by decide +kernel) rfl
theorem lw_L_286 : LK RL 286 m_L_cardUses := gm 1157 (by decide +kernel) rfl
theorem w_cardUses {r : Int32 ⊕ String} {v : Int32} (hc : Is8 S c L P) (ho : ArE 14 S o 1) (h : s_X8_cardUses I c L P x = some (r, J)) (hR : Res [eIS, eIX] r v t) (hQ : ∀ S2, (t = 0 → S2 = stX S o 0 v.toInt64) → (S2 = S ∨ S2 = stX S o 0 v.toInt64) → Q (.inl (some (.int t))) J S2) : CallH Ω m_L_cardUses [.ref c, .int x, .ref o] I S Q := by
  refine call_ofH (by decide +kernel) (Nat.le_of_ble_eq_true rfl) ?_
  refine r_aload_n (pc' := 1) dL_cardUses_0 rfl 2 rfl rfl ?_
  refine r_iconst (v := 0) (pc' := 2) dL_cardUses_1 rfl rfl ?_
  refine r_aload_n (pc' := 3) dL_cardUses_2 rfl 0 rfl rfl ?_
  refine r_iload_n (pc' := 4) dL_cardUses_3 rfl 1 rfl rfl ?_
  refine r_callV1 (pc' := 7) (k' := 2) (n' := 12) dL_cardUses_4 mb_X8_cardUses mi_X8_cardUses hc.o (by decide) rfl lk_L_77 rfl (Nat.zero_add _) (Nat.zero_add _) (Nat.le_of_ble_eq_true rfl) rfl (c_X8_cardUses hc ho.2.2.2 h ?_)
  cases r with
  | inl v0 =>
    obtain ⟨rfl, rfl⟩ := hR
    refine cpI ?_
    refine r_i2l (pc' := 8) dL_cardUses_7 rfl ?_
    refine r_lastore (pc' := 9) dL_cardUses_8 ho (by unfold vp_in; decide +kernel) rfl ?_
    refine r_goto (tgt := 18) dL_cardUses_9 (by decide) ?_
    refine r_iconst (v := 0) (pc' := 19) dL_cardUses_18 rfl rfl ?_
    exact r_iret dL_cardUses_19 rfl (Nat.le_of_ble_eq_true rfl) (Nat.le_of_ble_eq_true rfl) (hQ _ (fun _ => rfl) (Or.inr rfl))
  | inr E0 =>
    refine cpX ?_
    obtain ⟨i, hi, rfl⟩ := hR
    match i, hi with
    | 0, hi =>
      cases hi
      refine ax_catch (E := eIS) (name := eIS) (hd := (0, 9, 12, 21)) [] [(0, 9, 15, 13)] rfl (fun z hz => absurd hz List.not_mem_nil) rfl (by decide) cl_21 ca_IS (fun q => ?_)
      refine r_astore_n (pc' := 13) dL_cardUses_12 rfl (by decide) rfl rfl ?_
      refine r_iconst (v := nI (0 + 1)) (pc' := 14) dL_cardUses_13 (by decide) rfl ?_
      exact r_iret dL_cardUses_14 rfl (Nat.le_of_ble_eq_true rfl) (Nat.le_of_ble_eq_true rfl) (hQ _ (fun q => absurd q (by decide)) (Or.inl rfl))
    | 1, hi =>
      cases hi
      refine ax_catch (E := eIX) (name := eIX) (hd := (0, 9, 15, 13)) [(0, 9, 12, 21)] [] rfl (List.forall_mem_cons.mpr ⟨⟨by decide, eIS, cl_21, nc_eIX_eIS⟩, fun _ hz => absurd hz List.not_mem_nil⟩) rfl (by decide) cl_13 ca_IX (fun q => ?_)
      refine r_astore_n (pc' := 16) dL_cardUses_15 rfl (by decide) rfl rfl ?_
      refine r_iconst (v := nI (1 + 1)) (pc' := 17) dL_cardUses_16 (by decide) rfl ?_
      exact r_iret dL_cardUses_17 rfl (Nat.le_of_ble_eq_true rfl) (Nat.le_of_ble_eq_true rfl) (hQ _ (fun q => absurd q (by decide)) (Or.inl rfl))
    | n + 2, hi => simp at hi
abbrev m_L_deckDepth : JM := (yL_deckDepth, cL_deckDepth, 3, (some .int), [(0, 8, 11, 21)], { frames := 8, cells := 1, slots := 6, locals := 296 })
theorem mb_L_deckDepth : SBH m_L_deckDepth 2 := ⟨gm 1170 (by decide +kernel) rfl, gm 152 (by decide +kernel) rfl, by decide +kernel, by decide +kernel⟩
theorem ms_L_deckDepth : SS m_L_deckDepth := gm 1169 (by decide +kernel) rfl
theorem lw_L_289 : LK RL 289 m_L_deckDepth := gm 1168 (by decide +kernel) rfl
theorem w_deckDepth {r : Int32 ⊕ String} {v : Int32} (hc : Is8 S c L P) (ho : ArE 14 S o 1) (h : s_X8_deckDepth I c L P = some (r, J)) (hR : Res [eIS] r v t) (hQ : ∀ S2, (t = 0 → S2 = stX S o 0 v.toInt64) → (S2 = S ∨ S2 = stX S o 0 v.toInt64) → Q (.inl (some (.int t))) J S2) : CallH Ω m_L_deckDepth [.ref c, .ref o] I S Q := by
  refine call_ofH (by decide +kernel) (Nat.le_of_ble_eq_true rfl) ?_
  refine r_aload_n (pc' := 1) dL_deckDepth_0 rfl 1 rfl rfl ?_
  refine r_iconst (v := 0) (pc' := 2) dL_deckDepth_1 rfl rfl ?_
  refine r_aload_n (pc' := 3) dL_deckDepth_2 rfl 0 rfl rfl ?_
  refine r_callV0 (pc' := 6) (k' := 1) (n' := 6) dL_deckDepth_3 mb_X8_deckDepth mi_X8_deckDepth hc.o (by decide) rfl lk_L_80 rfl (Nat.zero_add _) (Nat.zero_add _) (Nat.le_of_ble_eq_true rfl) rfl (c_X8_deckDepth hc ho.2.2.2 h ?_)
  cases r with
  | inl v0 =>
    obtain ⟨rfl, rfl⟩ := hR
    refine cpI ?_
    refine r_i2l (pc' := 7) dL_deckDepth_6 rfl ?_
    refine r_lastore (pc' := 8) dL_deckDepth_7 ho (by unfold vp_in; decide +kernel) rfl ?_
    refine r_goto (tgt := 14) dL_deckDepth_8 (by decide) ?_
    refine r_iconst (v := 0) (pc' := 15) dL_deckDepth_14 rfl rfl ?_
    exact r_iret dL_deckDepth_15 rfl (Nat.le_of_ble_eq_true rfl) (Nat.le_of_ble_eq_true rfl) (hQ _ (fun _ => rfl) (Or.inr rfl))
  | inr E0 =>
    refine cpX ?_
    obtain ⟨i, hi, rfl⟩ := hR
    match i, hi with
    | 0, hi =>
      cases hi
      refine ax_catch (E := eIS) (name := eIS) (hd := (0, 8, 11, 21)) [] [] rfl (fun z hz => absurd hz List.not_mem_nil) rfl (by decide) cl_21 ca_IS (fun q => ?_)
      refine r_astore_n (pc' := 12) dL_deckDepth_11 rfl (by decide) rfl rfl ?_
      refine r_iconst (v := nI (0 + 1)) (pc' := 13) dL_deckDepth_12 (by decide) rfl ?_
      exact r_iret dL_deckDepth_13 rfl (Nat.le_of_ble_eq_true rfl) (Nat.le_of_ble_eq_true rfl) (hQ _ (fun q => absurd q (by decide)) (Or.inl rfl))
    | n + 1, hi => simp at hi
abbrev m_L_deckPeriod : JM := (yL_deckPeriod, cL_deckPeriod, 3, (some .int), [(0, 8, 11, 21)], { frames := 8, cells := 1, slots := 6, locals := 296 })
theorem mb_L_deckPeriod : SBH m_L_deckPeriod 2 := ⟨gm 1177 (by decide +kernel) rfl, gm 152 (by decide +kernel) rfl, by decide +kernel, by decide +kernel⟩
theorem ms_L_deckPeriod : SS m_L_deckPeriod := gm 1176 (by decide +kernel) rfl
theorem lw_L_292 : LK RL 292 m_L_deckPeriod := gm 1175 (by decide +kernel) rfl
theorem w_deckPeriod {r : Int32 ⊕ String} {v : Int32} (hc : Is8 S c L P) (ho : ArE 14 S o 1) (h : s_X8_deckPeriod I c L P = some (r, J)) (hR : Res [eIS] r v t) (hQ : ∀ S2, (t = 0 → S2 = stX S o 0 v.toInt64) → (S2 = S ∨ S2 = stX S o 0 v.toInt64) → Q (.inl (some (.int t))) J S2) : CallH Ω m_L_deckPeriod [.ref c, .ref o] I S Q := by
  refine call_ofH (by decide +kernel) (Nat.le_of_ble_eq_true rfl) ?_
  refine r_aload_n (pc' := 1) dL_deckPeriod_0 rfl 1 rfl rfl ?_
  refine r_iconst (v := 0) (pc' := 2) dL_deckPeriod_1 rfl rfl ?_
  refine r_aload_n (pc' := 3) dL_deckPeriod_2 rfl 0 rfl rfl ?_
  refine r_callV0 (pc' := 6) (k' := 1) (n' := 6) dL_deckPeriod_3 mb_X8_deckPeriod mi_X8_deckPeriod hc.o (by decide) rfl lk_L_83 rfl (Nat.zero_add _) (Nat.zero_add _) (Nat.le_of_ble_eq_true rfl) rfl (c_X8_deckPeriod hc ho.2.2.2 h ?_)
  cases r with
  | inl v0 =>
    obtain ⟨rfl, rfl⟩ := hR
    refine cpI ?_
    refine r_i2l (pc' := 7) dL_deckPeriod_6 rfl ?_
    refine r_lastore (pc' := 8) dL_deckPeriod_7 ho (by unfold vp_in; decide +kernel) rfl ?_
    refine r_goto (tgt := 14) dL_deckPeriod_8 (by decide) ?_
    refine r_iconst (v := 0) (pc' := 15) dL_deckPeriod_14 rfl rfl ?_
    exact r_iret dL_deckPeriod_15 rfl (Nat.le_of_ble_eq_true rfl) (Nat.le_of_ble_eq_true rfl) (hQ _ (fun _ => rfl) (Or.inr rfl))
  | inr E0 =>
    refine cpX ?_
    obtain ⟨i, hi, rfl⟩ := hR
    match i, hi with
    | 0, hi =>
      cases hi
      refine ax_catch (E := eIS) (name := eIS) (hd := (0, 8, 11, 21)) [] [] rfl (fun z hz => absurd hz List.not_mem_nil) rfl (by decide) cl_21 ca_IS (fun q => ?_)
      refine r_astore_n (pc' := 12) dL_deckPeriod_11 rfl (by decide) rfl rfl ?_
      refine r_iconst (v := nI (0 + 1)) (pc' := 13) dL_deckPeriod_12 (by decide) rfl ?_
      exact r_iret dL_deckPeriod_13 rfl (Nat.le_of_ble_eq_true rfl) (Nat.le_of_ble_eq_true rfl) (hQ _ (fun q => absurd q (by decide)) (Or.inl rfl))
    | n + 1, hi => simp at hi
abbrev m_L_isPalindrome : JM := (yL_isPalindrome, cL_isPalindrome, 3, (some .int), [(0, 15, 18, 21)], { frames := 8, cells := 1, slots := 6, locals := 296 })
theorem mb_L_isPalindrome : SBH m_L_isPalindrome 2 := ⟨gm 1192 (by decide +kernel) rfl, gm 152 (by decide +kernel) rfl, by decide +kernel, by decide +kernel⟩
theorem ms_L_isPalindrome : SS m_L_isPalindrome := gm 1191 (by decide +kernel) rfl
theorem lw_L_295 : LK RL 295 m_L_isPalindrome := gm 1190 (by decide +kernel) rfl
theorem w_isPalindrome {r : Bool ⊕ String} {v : Bool} (hc : Is8 S c L P) (ho : ArE 14 S o 1) (h : s_X8_isPalindrome I c L P = some (r, J)) (hR : Res [eIS] r v t) (hQ : ∀ S2, (t = 0 → S2 = stX S o 0 (zl v)) → (S2 = S ∨ S2 = stX S o 0 (zl v)) → Q (.inl (some (.int t))) J S2) : CallH Ω m_L_isPalindrome [.ref c, .ref o] I S Q := by
  refine call_ofH (by decide +kernel) (Nat.le_of_ble_eq_true rfl) ?_
  refine r_aload_n (pc' := 1) dL_isPalindrome_0 rfl 1 rfl rfl ?_
  refine r_iconst (v := 0) (pc' := 2) dL_isPalindrome_1 rfl rfl ?_
  refine r_aload_n (pc' := 3) dL_isPalindrome_2 rfl 0 rfl rfl ?_
  refine r_callV0 (pc' := 6) (k' := 1) (n' := 6) dL_isPalindrome_3 mb_X8_isPalindrome mi_X8_isPalindrome hc.o (by decide) rfl lk_L_86 rfl (Nat.zero_add _) (Nat.zero_add _) (Nat.le_of_ble_eq_true rfl) rfl (c_X8_isPalindrome hc ho.2.2.2 h ?_)
  cases r with
  | inl v0 =>
    obtain ⟨rfl, rfl⟩ := hR
    cases v0 with
    | false =>
      refine cpI (r := 0) ?_
      refine r_if_eq (tgt := 13) (pc' := 9) dL_isPalindrome_6 (by decide) rfl (fun _ => ?_) (fun q => absurd rfl q)
      refine r_lconst (v := 0) (pc' := 14) dL_isPalindrome_13 rfl rfl ?_
      refine r_lastore (pc' := 15) dL_isPalindrome_14 ho (by unfold vp_in; decide +kernel) rfl ?_
      refine r_goto (tgt := 21) dL_isPalindrome_15 (by decide) ?_
      refine r_iconst (v := 0) (pc' := 22) dL_isPalindrome_21 rfl rfl ?_
      exact r_iret dL_isPalindrome_22 rfl (Nat.le_of_ble_eq_true rfl) (Nat.le_of_ble_eq_true rfl) (hQ _ (fun _ => rfl) (Or.inr rfl))
    | true =>
      refine cpI (r := 1) ?_
      refine r_if_eq (tgt := 13) (pc' := 9) dL_isPalindrome_6 (by decide) rfl (fun q => absurd q (by decide)) (fun _ => ?_)
      refine r_lconst (v := 1) (pc' := 10) dL_isPalindrome_9 rfl rfl ?_
      refine r_goto (tgt := 14) dL_isPalindrome_10 (by decide) ?_
      refine r_lastore (pc' := 15) dL_isPalindrome_14 ho (by unfold vp_in; decide +kernel) rfl ?_
      refine r_goto (tgt := 21) dL_isPalindrome_15 (by decide) ?_
      refine r_iconst (v := 0) (pc' := 22) dL_isPalindrome_21 rfl rfl ?_
      exact r_iret dL_isPalindrome_22 rfl (Nat.le_of_ble_eq_true rfl) (Nat.le_of_ble_eq_true rfl) (hQ _ (fun _ => rfl) (Or.inr rfl))
  | inr E0 =>
    refine cpX ?_
    obtain ⟨i, hi, rfl⟩ := hR
    match i, hi with
    | 0, hi =>
      cases hi
      refine ax_catch (E := eIS) (name := eIS) (hd := (0, 15, 18, 21)) [] [] rfl (fun z hz => absurd hz List.not_mem_nil) rfl (by decide) cl_21 ca_IS (fun q => ?_)
      refine r_astore_n (pc' := 19) dL_isPalindrome_18 rfl (by decide) rfl rfl ?_
      refine r_iconst (v := nI (0 + 1)) (pc' := 20) dL_isPalindrome_19 (by decide) rfl ?_
      exact r_iret dL_isPalindrome_20 rfl (Nat.le_of_ble_eq_true rfl) (Nat.le_of_ble_eq_true rfl) (hQ _ (fun q => absurd q (by decide)) (Or.inl rfl))
    | n + 1, hi => simp at hi
abbrev m_L_rowCount : JM := (yL_rowCount, cL_rowCount, 3, (some .int), [(0, 8, 11, 21)], { frames := 8, cells := 1, slots := 6, locals := 296 })
theorem mb_L_rowCount : SBH m_L_rowCount 2 := ⟨gm 1203 (by decide +kernel) rfl, gm 152 (by decide +kernel) rfl, by decide +kernel, by decide +kernel⟩
theorem ms_L_rowCount : SS m_L_rowCount := gm 1202 (by decide +kernel) rfl
theorem lw_L_298 : LK RL 298 m_L_rowCount := gm 1201 (by decide +kernel) rfl
theorem w_rowCount {r : Int32 ⊕ String} {v : Int32} (hc : Is8 S c L P) (ho : ArE 14 S o 1) (h : s_X8_rowCount I c L P = some (r, J)) (hR : Res [eIS] r v t) (hQ : ∀ S2, (t = 0 → S2 = stX S o 0 v.toInt64) → (S2 = S ∨ S2 = stX S o 0 v.toInt64) → Q (.inl (some (.int t))) J S2) : CallH Ω m_L_rowCount [.ref c, .ref o] I S Q := by
  refine call_ofH (by decide +kernel) (Nat.le_of_ble_eq_true rfl) ?_
  refine r_aload_n (pc' := 1) dL_rowCount_0 rfl 1 rfl rfl ?_
  refine r_iconst (v := 0) (pc' := 2) dL_rowCount_1 rfl rfl ?_
  refine r_aload_n (pc' := 3) dL_rowCount_2 rfl 0 rfl rfl ?_
  refine r_callV0 (pc' := 6) (k' := 1) (n' := 6) dL_rowCount_3 mb_X8_rowCount mi_X8_rowCount hc.o (by decide) rfl lk_L_90 rfl (Nat.zero_add _) (Nat.zero_add _) (Nat.le_of_ble_eq_true rfl) rfl (c_X8_rowCount hc ho.2.2.2 h ?_)
  cases r with
  | inl v0 =>
    obtain ⟨rfl, rfl⟩ := hR
    refine cpI ?_
    refine r_i2l (pc' := 7) dL_rowCount_6 rfl ?_
    refine r_lastore (pc' := 8) dL_rowCount_7 ho (by unfold vp_in; decide +kernel) rfl ?_
    refine r_goto (tgt := 14) dL_rowCount_8 (by decide) ?_
    refine r_iconst (v := 0) (pc' := 15) dL_rowCount_14 rfl rfl ?_
    exact r_iret dL_rowCount_15 rfl (Nat.le_of_ble_eq_true rfl) (Nat.le_of_ble_eq_true rfl) (hQ _ (fun _ => rfl) (Or.inr rfl))
  | inr E0 =>
    refine cpX ?_
    obtain ⟨i, hi, rfl⟩ := hR
    match i, hi with
    | 0, hi =>
      cases hi
      refine ax_catch (E := eIS) (name := eIS) (hd := (0, 8, 11, 21)) [] [] rfl (fun z hz => absurd hz List.not_mem_nil) rfl (by decide) cl_21 ca_IS (fun q => ?_)
      refine r_astore_n (pc' := 12) dL_rowCount_11 rfl (by decide) rfl rfl ?_
      refine r_iconst (v := nI (0 + 1)) (pc' := 13) dL_rowCount_12 (by decide) rfl ?_
      exact r_iret dL_rowCount_13 rfl (Nat.le_of_ble_eq_true rfl) (Nat.le_of_ble_eq_true rfl) (hQ _ (fun q => absurd q (by decide)) (Or.inl rfl))
    | n + 1, hi => simp at hi
abbrev m_L_cellColour : JM := (yL_cellColour, cL_cellColour, 5, (some .int), [(0, 10, 13, 21), (0, 10, 17, 13)], { frames := 9, cells := 4, slots := 24, locals := 333 })
theorem mb_L_cellColour : SBH m_L_cellColour 4 := ⟨gm 1210 (by decide +kernel) rfl, gm 152 (by decide +kernel) rfl, by decide +kernel, by decide +kernel⟩
theorem ms_L_cellColour : SS m_L_cellColour := gm 1209 (by decide +kernel) rfl
theorem lw_L_301 : LK RL 301 m_L_cellColour := gm 1208 (by decide +kernel) rfl
theorem w_cellColour {r : Int32 ⊕ String} {v : Int32} (hc : Is8 S c L P) (ho : ArE 14 S o 1) (h : s_X8_cellColour I c L P x y = some (r, J)) (hR : Res [eIS, eIX] r v t) (hQ : ∀ S2, (t = 0 → S2 = stX S o 0 v.toInt64) → (S2 = S ∨ S2 = stX S o 0 v.toInt64) → Q (.inl (some (.int t))) J S2) : CallH Ω m_L_cellColour [.ref c, .int x, .int y, .ref o] I S Q := by
  refine call_ofH (by decide +kernel) (Nat.le_of_ble_eq_true rfl) ?_
  refine r_aload_n (pc' := 1) dL_cellColour_0 rfl 3 rfl rfl ?_
  refine r_iconst (v := 0) (pc' := 2) dL_cellColour_1 rfl rfl ?_
  refine r_aload_n (pc' := 3) dL_cellColour_2 rfl 0 rfl rfl ?_
  refine r_iload_n (pc' := 4) dL_cellColour_3 rfl 1 rfl rfl ?_
  refine r_iload_n (pc' := 5) dL_cellColour_4 rfl 2 rfl rfl ?_
  refine r_callV2 (pc' := 8) (k' := 4) (n' := 24) dL_cellColour_5 mb_X8_cellColour mi_X8_cellColour hc.o (by decide) rfl lk_L_93 rfl (Nat.zero_add _) (Nat.zero_add _) (Nat.le_of_ble_eq_true rfl) rfl (c_X8_cellColour hc ho.2.2.2 h ?_)
  cases r with
  | inl v0 =>
    obtain ⟨rfl, rfl⟩ := hR
    refine cpI ?_
    refine r_i2l (pc' := 9) dL_cellColour_8 rfl ?_
    refine r_lastore (pc' := 10) dL_cellColour_9 ho (by unfold vp_in; decide +kernel) rfl ?_
    refine r_goto (tgt := 21) dL_cellColour_10 (by decide) ?_
    refine r_iconst (v := 0) (pc' := 22) dL_cellColour_21 rfl rfl ?_
    exact r_iret dL_cellColour_22 rfl (Nat.le_of_ble_eq_true rfl) (Nat.le_of_ble_eq_true rfl) (hQ _ (fun _ => rfl) (Or.inr rfl))
  | inr E0 =>
    refine cpX ?_
    obtain ⟨i, hi, rfl⟩ := hR
    match i, hi with
    | 0, hi =>
      cases hi
      refine ax_catch (E := eIS) (name := eIS) (hd := (0, 10, 13, 21)) [] [(0, 10, 17, 13)] rfl (fun z hz => absurd hz List.not_mem_nil) rfl (by decide) cl_21 ca_IS (fun q => ?_)
      refine r_astore (pc' := 15) dL_cellColour_13 (by decide) rfl rfl ?_
      refine r_iconst (v := nI (0 + 1)) (pc' := 16) dL_cellColour_15 (by decide) rfl ?_
      exact r_iret dL_cellColour_16 rfl (Nat.le_of_ble_eq_true rfl) (Nat.le_of_ble_eq_true rfl) (hQ _ (fun q => absurd q (by decide)) (Or.inl rfl))
    | 1, hi =>
      cases hi
      refine ax_catch (E := eIX) (name := eIX) (hd := (0, 10, 17, 13)) [(0, 10, 13, 21)] [] rfl (List.forall_mem_cons.mpr ⟨⟨by decide, eIS, cl_21, nc_eIX_eIS⟩, fun _ hz => absurd hz List.not_mem_nil⟩) rfl (by decide) cl_13 ca_IX (fun q => ?_)
      refine r_astore (pc' := 19) dL_cellColour_17 (by decide) rfl rfl ?_
      refine r_iconst (v := nI (1 + 1)) (pc' := 20) dL_cellColour_19 (by decide) rfl ?_
      exact r_iret dL_cellColour_20 rfl (Nat.le_of_ble_eq_true rfl) (Nat.le_of_ble_eq_true rfl) (hQ _ (fun q => absurd q (by decide)) (Or.inl rfl))
    | n + 2, hi => simp at hi
abbrev m_L_showsWarp : JM := (yL_showsWarp, cL_showsWarp, 5, (some .int), [(0, 17, 20, 21), (0, 17, 24, 13)], { frames := 9, cells := 4, slots := 24, locals := 333 })
theorem mb_L_showsWarp : SBH m_L_showsWarp 4 := ⟨gm 1225 (by decide +kernel) rfl, gm 152 (by decide +kernel) rfl, by decide +kernel, by decide +kernel⟩
theorem ms_L_showsWarp : SS m_L_showsWarp := gm 1224 (by decide +kernel) rfl
theorem lw_L_304 : LK RL 304 m_L_showsWarp := gm 1223 (by decide +kernel) rfl
theorem w_showsWarp {r : Bool ⊕ String} {v : Bool} (hc : Is8 S c L P) (ho : ArE 14 S o 1) (h : s_X8_showsWarp I c L P x y = some (r, J)) (hR : Res [eIS, eIX] r v t) (hQ : ∀ S2, (t = 0 → S2 = stX S o 0 (zl v)) → (S2 = S ∨ S2 = stX S o 0 (zl v)) → Q (.inl (some (.int t))) J S2) : CallH Ω m_L_showsWarp [.ref c, .int x, .int y, .ref o] I S Q := by
  refine call_ofH (by decide +kernel) (Nat.le_of_ble_eq_true rfl) ?_
  refine r_aload_n (pc' := 1) dL_showsWarp_0 rfl 3 rfl rfl ?_
  refine r_iconst (v := 0) (pc' := 2) dL_showsWarp_1 rfl rfl ?_
  refine r_aload_n (pc' := 3) dL_showsWarp_2 rfl 0 rfl rfl ?_
  refine r_iload_n (pc' := 4) dL_showsWarp_3 rfl 1 rfl rfl ?_
  refine r_iload_n (pc' := 5) dL_showsWarp_4 rfl 2 rfl rfl ?_
  refine r_callV2 (pc' := 8) (k' := 4) (n' := 24) dL_showsWarp_5 mb_X8_showsWarp mi_X8_showsWarp hc.o (by decide) rfl lk_L_96 rfl (Nat.zero_add _) (Nat.zero_add _) (Nat.le_of_ble_eq_true rfl) rfl (c_X8_showsWarp hc ho.2.2.2 h ?_)
  cases r with
  | inl v0 =>
    obtain ⟨rfl, rfl⟩ := hR
    cases v0 with
    | false =>
      refine cpI (r := 0) ?_
      refine r_if_eq (tgt := 15) (pc' := 11) dL_showsWarp_8 (by decide) rfl (fun _ => ?_) (fun q => absurd rfl q)
      refine r_lconst (v := 0) (pc' := 16) dL_showsWarp_15 rfl rfl ?_
      refine r_lastore (pc' := 17) dL_showsWarp_16 ho (by unfold vp_in; decide +kernel) rfl ?_
      refine r_goto (tgt := 28) dL_showsWarp_17 (by decide) ?_
      refine r_iconst (v := 0) (pc' := 29) dL_showsWarp_28 rfl rfl ?_
      exact r_iret dL_showsWarp_29 rfl (Nat.le_of_ble_eq_true rfl) (Nat.le_of_ble_eq_true rfl) (hQ _ (fun _ => rfl) (Or.inr rfl))
    | true =>
      refine cpI (r := 1) ?_
      refine r_if_eq (tgt := 15) (pc' := 11) dL_showsWarp_8 (by decide) rfl (fun q => absurd q (by decide)) (fun _ => ?_)
      refine r_lconst (v := 1) (pc' := 12) dL_showsWarp_11 rfl rfl ?_
      refine r_goto (tgt := 16) dL_showsWarp_12 (by decide) ?_
      refine r_lastore (pc' := 17) dL_showsWarp_16 ho (by unfold vp_in; decide +kernel) rfl ?_
      refine r_goto (tgt := 28) dL_showsWarp_17 (by decide) ?_
      refine r_iconst (v := 0) (pc' := 29) dL_showsWarp_28 rfl rfl ?_
      exact r_iret dL_showsWarp_29 rfl (Nat.le_of_ble_eq_true rfl) (Nat.le_of_ble_eq_true rfl) (hQ _ (fun _ => rfl) (Or.inr rfl))
  | inr E0 =>
    refine cpX ?_
    obtain ⟨i, hi, rfl⟩ := hR
    match i, hi with
    | 0, hi =>
      cases hi
      refine ax_catch (E := eIS) (name := eIS) (hd := (0, 17, 20, 21)) [] [(0, 17, 24, 13)] rfl (fun z hz => absurd hz List.not_mem_nil) rfl (by decide) cl_21 ca_IS (fun q => ?_)
      refine r_astore (pc' := 22) dL_showsWarp_20 (by decide) rfl rfl ?_
      refine r_iconst (v := nI (0 + 1)) (pc' := 23) dL_showsWarp_22 (by decide) rfl ?_
      exact r_iret dL_showsWarp_23 rfl (Nat.le_of_ble_eq_true rfl) (Nat.le_of_ble_eq_true rfl) (hQ _ (fun q => absurd q (by decide)) (Or.inl rfl))
    | 1, hi =>
      cases hi
      refine ax_catch (E := eIX) (name := eIX) (hd := (0, 17, 24, 13)) [(0, 17, 20, 21)] [] rfl (List.forall_mem_cons.mpr ⟨⟨by decide, eIS, cl_21, nc_eIX_eIS⟩, fun _ hz => absurd hz List.not_mem_nil⟩) rfl (by decide) cl_13 ca_IX (fun q => ?_)
      refine r_astore (pc' := 26) dL_showsWarp_24 (by decide) rfl rfl ?_
      refine r_iconst (v := nI (1 + 1)) (pc' := 27) dL_showsWarp_26 (by decide) rfl ?_
      exact r_iret dL_showsWarp_27 rfl (Nat.le_of_ble_eq_true rfl) (Nat.le_of_ble_eq_true rfl) (hQ _ (fun q => absurd q (by decide)) (Or.inl rfl))
    | n + 2, hi => simp at hi
abbrev m_L_longestWarpFloat : JM := (yL_longestWarpFloat, cL_longestWarpFloat, 4, (some .int), [(0, 9, 12, 21), (0, 9, 15, 13)], { frames := 9, cells := 2, slots := 12, locals := 333 })
theorem mb_L_longestWarpFloat : SBH m_L_longestWarpFloat 3 := ⟨gm 1232 (by decide +kernel) rfl, gm 152 (by decide +kernel) rfl, by decide +kernel, by decide +kernel⟩
theorem ms_L_longestWarpFloat : SS m_L_longestWarpFloat := gm 1231 (by decide +kernel) rfl
theorem lw_L_307 : LK RL 307 m_L_longestWarpFloat := gm 1230 (by decide +kernel) rfl
theorem w_longestWarpFloat {r : Int32 ⊕ String} {v : Int32} (hc : Is8 S c L P) (ho : ArE 14 S o 1) (h : s_X8_longestWarpFloat I c L P x = some (r, J)) (hR : Res [eIS, eIX] r v t) (hQ : ∀ S2, (t = 0 → S2 = stX S o 0 v.toInt64) → (S2 = S ∨ S2 = stX S o 0 v.toInt64) → Q (.inl (some (.int t))) J S2) : CallH Ω m_L_longestWarpFloat [.ref c, .int x, .ref o] I S Q := by
  refine call_ofH (by decide +kernel) (Nat.le_of_ble_eq_true rfl) ?_
  refine r_aload_n (pc' := 1) dL_longestWarpFloat_0 rfl 2 rfl rfl ?_
  refine r_iconst (v := 0) (pc' := 2) dL_longestWarpFloat_1 rfl rfl ?_
  refine r_aload_n (pc' := 3) dL_longestWarpFloat_2 rfl 0 rfl rfl ?_
  refine r_iload_n (pc' := 4) dL_longestWarpFloat_3 rfl 1 rfl rfl ?_
  refine r_callV1 (pc' := 7) (k' := 2) (n' := 12) dL_longestWarpFloat_4 mb_X8_longestWarpFloat mi_X8_longestWarpFloat hc.o (by decide) rfl lk_L_99 rfl (Nat.zero_add _) (Nat.zero_add _) (Nat.le_of_ble_eq_true rfl) rfl (c_X8_longestWarpFloat hc ho.2.2.2 h ?_)
  cases r with
  | inl v0 =>
    obtain ⟨rfl, rfl⟩ := hR
    refine cpI ?_
    refine r_i2l (pc' := 8) dL_longestWarpFloat_7 rfl ?_
    refine r_lastore (pc' := 9) dL_longestWarpFloat_8 ho (by unfold vp_in; decide +kernel) rfl ?_
    refine r_goto (tgt := 18) dL_longestWarpFloat_9 (by decide) ?_
    refine r_iconst (v := 0) (pc' := 19) dL_longestWarpFloat_18 rfl rfl ?_
    exact r_iret dL_longestWarpFloat_19 rfl (Nat.le_of_ble_eq_true rfl) (Nat.le_of_ble_eq_true rfl) (hQ _ (fun _ => rfl) (Or.inr rfl))
  | inr E0 =>
    refine cpX ?_
    obtain ⟨i, hi, rfl⟩ := hR
    match i, hi with
    | 0, hi =>
      cases hi
      refine ax_catch (E := eIS) (name := eIS) (hd := (0, 9, 12, 21)) [] [(0, 9, 15, 13)] rfl (fun z hz => absurd hz List.not_mem_nil) rfl (by decide) cl_21 ca_IS (fun q => ?_)
      refine r_astore_n (pc' := 13) dL_longestWarpFloat_12 rfl (by decide) rfl rfl ?_
      refine r_iconst (v := nI (0 + 1)) (pc' := 14) dL_longestWarpFloat_13 (by decide) rfl ?_
      exact r_iret dL_longestWarpFloat_14 rfl (Nat.le_of_ble_eq_true rfl) (Nat.le_of_ble_eq_true rfl) (hQ _ (fun q => absurd q (by decide)) (Or.inl rfl))
    | 1, hi =>
      cases hi
      refine ax_catch (E := eIX) (name := eIX) (hd := (0, 9, 15, 13)) [(0, 9, 12, 21)] [] rfl (List.forall_mem_cons.mpr ⟨⟨by decide, eIS, cl_21, nc_eIX_eIS⟩, fun _ hz => absurd hz List.not_mem_nil⟩) rfl (by decide) cl_13 ca_IX (fun q => ?_)
      refine r_astore_n (pc' := 16) dL_longestWarpFloat_15 rfl (by decide) rfl rfl ?_
      refine r_iconst (v := nI (1 + 1)) (pc' := 17) dL_longestWarpFloat_16 (by decide) rfl ?_
      exact r_iret dL_longestWarpFloat_17 rfl (Nat.le_of_ble_eq_true rfl) (Nat.le_of_ble_eq_true rfl) (hQ _ (fun q => absurd q (by decide)) (Or.inl rfl))
    | n + 2, hi => simp at hi
abbrev m_L_longestWeftFloat : JM := (yL_longestWeftFloat, cL_longestWeftFloat, 4, (some .int), [(0, 9, 12, 21), (0, 9, 15, 13)], { frames := 9, cells := 2, slots := 12, locals := 333 })
theorem mb_L_longestWeftFloat : SBH m_L_longestWeftFloat 3 := ⟨gm 1244 (by decide +kernel) rfl, gm 152 (by decide +kernel) rfl, by decide +kernel, by decide +kernel⟩
theorem ms_L_longestWeftFloat : SS m_L_longestWeftFloat := gm 1243 (by decide +kernel) rfl
theorem lw_L_310 : LK RL 310 m_L_longestWeftFloat := gm 1242 (by decide +kernel) rfl
theorem w_longestWeftFloat {r : Int32 ⊕ String} {v : Int32} (hc : Is8 S c L P) (ho : ArE 14 S o 1) (h : s_X8_longestWeftFloat I c L P x = some (r, J)) (hR : Res [eIS, eIX] r v t) (hQ : ∀ S2, (t = 0 → S2 = stX S o 0 v.toInt64) → (S2 = S ∨ S2 = stX S o 0 v.toInt64) → Q (.inl (some (.int t))) J S2) : CallH Ω m_L_longestWeftFloat [.ref c, .int x, .ref o] I S Q := by
  refine call_ofH (by decide +kernel) (Nat.le_of_ble_eq_true rfl) ?_
  refine r_aload_n (pc' := 1) dL_longestWeftFloat_0 rfl 2 rfl rfl ?_
  refine r_iconst (v := 0) (pc' := 2) dL_longestWeftFloat_1 rfl rfl ?_
  refine r_aload_n (pc' := 3) dL_longestWeftFloat_2 rfl 0 rfl rfl ?_
  refine r_iload_n (pc' := 4) dL_longestWeftFloat_3 rfl 1 rfl rfl ?_
  refine r_callV1 (pc' := 7) (k' := 2) (n' := 12) dL_longestWeftFloat_4 mb_X8_longestWeftFloat mi_X8_longestWeftFloat hc.o (by decide) rfl lk_L_102 rfl (Nat.zero_add _) (Nat.zero_add _) (Nat.le_of_ble_eq_true rfl) rfl (c_X8_longestWeftFloat hc ho.2.2.2 h ?_)
  cases r with
  | inl v0 =>
    obtain ⟨rfl, rfl⟩ := hR
    refine cpI ?_
    refine r_i2l (pc' := 8) dL_longestWeftFloat_7 rfl ?_
    refine r_lastore (pc' := 9) dL_longestWeftFloat_8 ho (by unfold vp_in; decide +kernel) rfl ?_
    refine r_goto (tgt := 18) dL_longestWeftFloat_9 (by decide) ?_
    refine r_iconst (v := 0) (pc' := 19) dL_longestWeftFloat_18 rfl rfl ?_
    exact r_iret dL_longestWeftFloat_19 rfl (Nat.le_of_ble_eq_true rfl) (Nat.le_of_ble_eq_true rfl) (hQ _ (fun _ => rfl) (Or.inr rfl))
  | inr E0 =>
    refine cpX ?_
    obtain ⟨i, hi, rfl⟩ := hR
    match i, hi with
    | 0, hi =>
      cases hi
      refine ax_catch (E := eIS) (name := eIS) (hd := (0, 9, 12, 21)) [] [(0, 9, 15, 13)] rfl (fun z hz => absurd hz List.not_mem_nil) rfl (by decide) cl_21 ca_IS (fun q => ?_)
      refine r_astore_n (pc' := 13) dL_longestWeftFloat_12 rfl (by decide) rfl rfl ?_
      refine r_iconst (v := nI (0 + 1)) (pc' := 14) dL_longestWeftFloat_13 (by decide) rfl ?_
      exact r_iret dL_longestWeftFloat_14 rfl (Nat.le_of_ble_eq_true rfl) (Nat.le_of_ble_eq_true rfl) (hQ _ (fun q => absurd q (by decide)) (Or.inl rfl))
    | 1, hi =>
      cases hi
      refine ax_catch (E := eIX) (name := eIX) (hd := (0, 9, 15, 13)) [(0, 9, 12, 21)] [] rfl (List.forall_mem_cons.mpr ⟨⟨by decide, eIS, cl_21, nc_eIX_eIS⟩, fun _ hz => absurd hz List.not_mem_nil⟩) rfl (by decide) cl_13 ca_IX (fun q => ?_)
      refine r_astore_n (pc' := 16) dL_longestWeftFloat_15 rfl (by decide) rfl rfl ?_
      refine r_iconst (v := nI (1 + 1)) (pc' := 17) dL_longestWeftFloat_16 (by decide) rfl ?_
      exact r_iret dL_longestWeftFloat_17 rfl (Nat.le_of_ble_eq_true rfl) (Nat.le_of_ble_eq_true rfl) (hQ _ (fun q => absurd q (by decide)) (Or.inl rfl))
    | n + 2, hi => simp at hi
abbrev m_L_cellsOfColour : JM := (yL_cellsOfColour, cL_cellsOfColour, 4, (some .int), [(0, 9, 12, 21), (0, 9, 15, 15)], { frames := 9, cells := 2, slots := 12, locals := 333 })
theorem mb_L_cellsOfColour : SBH m_L_cellsOfColour 3 := ⟨gm 1255 (by decide +kernel) rfl, gm 152 (by decide +kernel) rfl, by decide +kernel, by decide +kernel⟩
theorem ms_L_cellsOfColour : SS m_L_cellsOfColour := gm 1254 (by decide +kernel) rfl
theorem lw_L_313 : LK RL 313 m_L_cellsOfColour := gm 1253 (by decide +kernel) rfl
theorem w_cellsOfColour {r : Int32 ⊕ String} {v : Int32} (hc : Is8 S c L P) (ho : ArE 14 S o 1) (h : s_X8_cellsOfColour I c L P x = some (r, J)) (hR : Res [eIS, eIA] r v t) (hQ : ∀ S2, (t = 0 → S2 = stX S o 0 v.toInt64) → (S2 = S ∨ S2 = stX S o 0 v.toInt64) → Q (.inl (some (.int t))) J S2) : CallH Ω m_L_cellsOfColour [.ref c, .int x, .ref o] I S Q := by
  refine call_ofH (by decide +kernel) (Nat.le_of_ble_eq_true rfl) ?_
  refine r_aload_n (pc' := 1) dL_cellsOfColour_0 rfl 2 rfl rfl ?_
  refine r_iconst (v := 0) (pc' := 2) dL_cellsOfColour_1 rfl rfl ?_
  refine r_aload_n (pc' := 3) dL_cellsOfColour_2 rfl 0 rfl rfl ?_
  refine r_iload_n (pc' := 4) dL_cellsOfColour_3 rfl 1 rfl rfl ?_
  refine r_callV1 (pc' := 7) (k' := 2) (n' := 12) dL_cellsOfColour_4 mb_X8_cellsOfColour mi_X8_cellsOfColour hc.o (by decide) rfl lk_L_105 rfl (Nat.zero_add _) (Nat.zero_add _) (Nat.le_of_ble_eq_true rfl) rfl (c_X8_cellsOfColour hc ho.2.2.2 h ?_)
  cases r with
  | inl v0 =>
    obtain ⟨rfl, rfl⟩ := hR
    refine cpI ?_
    refine r_i2l (pc' := 8) dL_cellsOfColour_7 rfl ?_
    refine r_lastore (pc' := 9) dL_cellsOfColour_8 ho (by unfold vp_in; decide +kernel) rfl ?_
    refine r_goto (tgt := 18) dL_cellsOfColour_9 (by decide) ?_
    refine r_iconst (v := 0) (pc' := 19) dL_cellsOfColour_18 rfl rfl ?_
    exact r_iret dL_cellsOfColour_19 rfl (Nat.le_of_ble_eq_true rfl) (Nat.le_of_ble_eq_true rfl) (hQ _ (fun _ => rfl) (Or.inr rfl))
  | inr E0 =>
    refine cpX ?_
    obtain ⟨i, hi, rfl⟩ := hR
    match i, hi with
    | 0, hi =>
      cases hi
      refine ax_catch (E := eIS) (name := eIS) (hd := (0, 9, 12, 21)) [] [(0, 9, 15, 15)] rfl (fun z hz => absurd hz List.not_mem_nil) rfl (by decide) cl_21 ca_IS (fun q => ?_)
      refine r_astore_n (pc' := 13) dL_cellsOfColour_12 rfl (by decide) rfl rfl ?_
      refine r_iconst (v := nI (0 + 1)) (pc' := 14) dL_cellsOfColour_13 (by decide) rfl ?_
      exact r_iret dL_cellsOfColour_14 rfl (Nat.le_of_ble_eq_true rfl) (Nat.le_of_ble_eq_true rfl) (hQ _ (fun q => absurd q (by decide)) (Or.inl rfl))
    | 1, hi =>
      cases hi
      refine ax_catch (E := eIA) (name := eIA) (hd := (0, 9, 15, 15)) [(0, 9, 12, 21)] [] rfl (List.forall_mem_cons.mpr ⟨⟨by decide, eIS, cl_21, nc_eIA_eIS⟩, fun _ hz => absurd hz List.not_mem_nil⟩) rfl (by decide) cl_15 ca_IA (fun q => ?_)
      refine r_astore_n (pc' := 16) dL_cellsOfColour_15 rfl (by decide) rfl rfl ?_
      refine r_iconst (v := nI (1 + 1)) (pc' := 17) dL_cellsOfColour_16 (by decide) rfl ?_
      exact r_iret dL_cellsOfColour_17 rfl (Nat.le_of_ble_eq_true rfl) (Nat.le_of_ble_eq_true rfl) (hQ _ (fun q => absurd q (by decide)) (Or.inl rfl))
    | n + 2, hi => simp at hi
abbrev m_L_rowPeriod : JM := (yL_rowPeriod, cL_rowPeriod, 3, (some .int), [(0, 8, 11, 21)], { frames := 8, cells := 1, slots := 6, locals := 296 })
theorem mb_L_rowPeriod : SBH m_L_rowPeriod 2 := ⟨gm 1275 (by decide +kernel) rfl, gm 152 (by decide +kernel) rfl, by decide +kernel, by decide +kernel⟩
theorem ms_L_rowPeriod : SS m_L_rowPeriod := gm 1274 (by decide +kernel) rfl
theorem lw_L_316 : LK RL 316 m_L_rowPeriod := gm 1273 (by decide +kernel) rfl
theorem w_rowPeriod {r : Int32 ⊕ String} {v : Int32} (hc : Is8 S c L P) (ho : ArE 14 S o 1) (h : s_X8_rowPeriod I c L P = some (r, J)) (hR : Res [eIS] r v t) (hQ : ∀ S2, (t = 0 → S2 = stX S o 0 v.toInt64) → (S2 = S ∨ S2 = stX S o 0 v.toInt64) → Q (.inl (some (.int t))) J S2) : CallH Ω m_L_rowPeriod [.ref c, .ref o] I S Q := by
  refine call_ofH (by decide +kernel) (Nat.le_of_ble_eq_true rfl) ?_
  refine r_aload_n (pc' := 1) dL_rowPeriod_0 rfl 1 rfl rfl ?_
  refine r_iconst (v := 0) (pc' := 2) dL_rowPeriod_1 rfl rfl ?_
  refine r_aload_n (pc' := 3) dL_rowPeriod_2 rfl 0 rfl rfl ?_
  refine r_callV0 (pc' := 6) (k' := 1) (n' := 6) dL_rowPeriod_3 mb_X8_rowPeriod mi_X8_rowPeriod hc.o (by decide) rfl lk_L_108 rfl (Nat.zero_add _) (Nat.zero_add _) (Nat.le_of_ble_eq_true rfl) rfl (c_X8_rowPeriod hc ho.2.2.2 h ?_)
  cases r with
  | inl v0 =>
    obtain ⟨rfl, rfl⟩ := hR
    refine cpI ?_
    refine r_i2l (pc' := 7) dL_rowPeriod_6 rfl ?_
    refine r_lastore (pc' := 8) dL_rowPeriod_7 ho (by unfold vp_in; decide +kernel) rfl ?_
    refine r_goto (tgt := 14) dL_rowPeriod_8 (by decide) ?_
    refine r_iconst (v := 0) (pc' := 15) dL_rowPeriod_14 rfl rfl ?_
    exact r_iret dL_rowPeriod_15 rfl (Nat.le_of_ble_eq_true rfl) (Nat.le_of_ble_eq_true rfl) (hQ _ (fun _ => rfl) (Or.inr rfl))
  | inr E0 =>
    refine cpX ?_
    obtain ⟨i, hi, rfl⟩ := hR
    match i, hi with
    | 0, hi =>
      cases hi
      refine ax_catch (E := eIS) (name := eIS) (hd := (0, 8, 11, 21)) [] [] rfl (fun z hz => absurd hz List.not_mem_nil) rfl (by decide) cl_21 ca_IS (fun q => ?_)
      refine r_astore_n (pc' := 12) dL_rowPeriod_11 rfl (by decide) rfl rfl ?_
      refine r_iconst (v := nI (0 + 1)) (pc' := 13) dL_rowPeriod_12 (by decide) rfl ?_
      exact r_iret dL_rowPeriod_13 rfl (Nat.le_of_ble_eq_true rfl) (Nat.le_of_ble_eq_true rfl) (hQ _ (fun q => absurd q (by decide)) (Or.inl rfl))
    | n + 1, hi => simp at hi
abbrev m_L_warpShare : JM := (yL_warpShare, cL_warpShare, 3, (some .int), [(0, 8, 11, 21)], { frames := 8, cells := 1, slots := 6, locals := 296 })
theorem mb_L_warpShare : SBH m_L_warpShare 2 := ⟨gm 1290 (by decide +kernel) rfl, gm 152 (by decide +kernel) rfl, by decide +kernel, by decide +kernel⟩
theorem ms_L_warpShare : SS m_L_warpShare := gm 1289 (by decide +kernel) rfl
theorem lw_L_319 : LK RL 319 m_L_warpShare := gm 1288 (by decide +kernel) rfl
theorem w_warpShare {r : UInt32 ⊕ String} {v : UInt32} (hc : Is8 S c L P) (ho : ArE 15 S o 1) (h : s_X8_warpShare I c L P = some (r, J)) (hR : Res [eIS] r v t) (hb : ∀ v I2, s_X8_warpShare I c L P = some (.inl v, I2) → v.toNat ≤ 2139095040) (hQ : ∀ S2, (t = 0 → S2 = stY S o 0 (FP.f2d v)) → (S2 = S ∨ S2 = stY S o 0 (FP.f2d v)) → Q (.inl (some (.int t))) J S2) : CallH Ω m_L_warpShare [.ref c, .ref o] I S Q := by
  refine call_ofH (by decide +kernel) (Nat.le_of_ble_eq_true rfl) ?_
  refine r_aload_n (pc' := 1) dL_warpShare_0 rfl 1 rfl rfl ?_
  refine r_iconst (v := 0) (pc' := 2) dL_warpShare_1 rfl rfl ?_
  refine r_aload_n (pc' := 3) dL_warpShare_2 rfl 0 rfl rfl ?_
  refine r_callV0 (pc' := 6) (k' := 1) (n' := 6) dL_warpShare_3 mb_X8_warpShare mi_X8_warpShare hc.o (by decide) rfl lk_L_111 rfl (Nat.zero_add _) (Nat.zero_add _) (Nat.le_of_ble_eq_true rfl) rfl (c_X8_warpShare hc ho.2.2.2 h ?_)
  cases r with
  | inl v0 =>
    obtain ⟨rfl, rfl⟩ := hR
    refine cpR ?_
    refine r_f2d (pc' := 7) dL_warpShare_6 (hb _ _ h) rfl ?_
    refine r_dastore (pc' := 8) dL_warpShare_7 ho (by unfold vp_in; decide +kernel) rfl ?_
    refine r_goto (tgt := 14) dL_warpShare_8 (by decide) ?_
    refine r_iconst (v := 0) (pc' := 15) dL_warpShare_14 rfl rfl ?_
    exact r_iret dL_warpShare_15 rfl (Nat.le_of_ble_eq_true rfl) (Nat.le_of_ble_eq_true rfl) (hQ _ (fun _ => rfl) (Or.inr rfl))
  | inr E0 =>
    refine cpX ?_
    obtain ⟨i, hi, rfl⟩ := hR
    match i, hi with
    | 0, hi =>
      cases hi
      refine ax_catch (E := eIS) (name := eIS) (hd := (0, 8, 11, 21)) [] [] rfl (fun z hz => absurd hz List.not_mem_nil) rfl (by decide) cl_21 ca_IS (fun q => ?_)
      refine r_astore_n (pc' := 12) dL_warpShare_11 rfl (by decide) rfl rfl ?_
      refine r_iconst (v := nI (0 + 1)) (pc' := 13) dL_warpShare_12 (by decide) rfl ?_
      exact r_iret dL_warpShare_13 rfl (Nat.le_of_ble_eq_true rfl) (Nat.le_of_ble_eq_true rfl) (hQ _ (fun q => absurd q (by decide)) (Or.inl rfl))
    | n + 1, hi => simp at hi
abbrev m_L_averageLifts : JM := (yL_averageLifts, cL_averageLifts, 3, (some .int), [(0, 7, 10, 21)], { frames := 8, cells := 1, slots := 6, locals := 296 })
theorem mb_L_averageLifts : SBH m_L_averageLifts 2 := ⟨gm 1305 (by decide +kernel) rfl, gm 152 (by decide +kernel) rfl, by decide +kernel, by decide +kernel⟩
theorem ms_L_averageLifts : SS m_L_averageLifts := gm 1304 (by decide +kernel) rfl
theorem lw_L_323 : LK RL 323 m_L_averageLifts := gm 1303 (by decide +kernel) rfl
theorem w_averageLifts {r : UInt64 ⊕ String} {v : UInt64} (hc : Is8 S c L P) (ho : ArE 15 S o 1) (h : s_X8_averageLifts I c L P = some (r, J)) (hR : Res [eIS] r v t) (hQ : ∀ S2, (t = 0 → S2 = stY S o 0 v) → (S2 = S ∨ S2 = stY S o 0 v) → Q (.inl (some (.int t))) J S2) : CallH Ω m_L_averageLifts [.ref c, .ref o] I S Q := by
  refine call_ofH (by decide +kernel) (Nat.le_of_ble_eq_true rfl) ?_
  refine r_aload_n (pc' := 1) dL_averageLifts_0 rfl 1 rfl rfl ?_
  refine r_iconst (v := 0) (pc' := 2) dL_averageLifts_1 rfl rfl ?_
  refine r_aload_n (pc' := 3) dL_averageLifts_2 rfl 0 rfl rfl ?_
  refine r_callV0 (pc' := 6) (k' := 1) (n' := 6) dL_averageLifts_3 mb_X8_averageLifts mi_X8_averageLifts hc.o (by decide) rfl lk_L_115 rfl (Nat.zero_add _) (Nat.zero_add _) (Nat.le_of_ble_eq_true rfl) rfl (c_X8_averageLifts hc ho.2.2.2 h ?_)
  cases r with
  | inl v0 =>
    obtain ⟨rfl, rfl⟩ := hR
    refine cpR ?_
    refine r_dastore (pc' := 7) dL_averageLifts_6 ho (by unfold vp_in; decide +kernel) rfl ?_
    refine r_goto (tgt := 13) dL_averageLifts_7 (by decide) ?_
    refine r_iconst (v := 0) (pc' := 14) dL_averageLifts_13 rfl rfl ?_
    exact r_iret dL_averageLifts_14 rfl (Nat.le_of_ble_eq_true rfl) (Nat.le_of_ble_eq_true rfl) (hQ _ (fun _ => rfl) (Or.inr rfl))
  | inr E0 =>
    refine cpX ?_
    obtain ⟨i, hi, rfl⟩ := hR
    match i, hi with
    | 0, hi =>
      cases hi
      refine ax_catch (E := eIS) (name := eIS) (hd := (0, 7, 10, 21)) [] [] rfl (fun z hz => absurd hz List.not_mem_nil) rfl (by decide) cl_21 ca_IS (fun q => ?_)
      refine r_astore_n (pc' := 11) dL_averageLifts_10 rfl (by decide) rfl rfl ?_
      refine r_iconst (v := nI (0 + 1)) (pc' := 12) dL_averageLifts_11 (by decide) rfl ?_
      exact r_iret dL_averageLifts_12 rfl (Nat.le_of_ble_eq_true rfl) (Nat.le_of_ble_eq_true rfl) (hQ _ (fun q => absurd q (by decide)) (Or.inl rfl))
    | n + 1, hi => simp at hi
abbrev m_L_isWrong : JM := (yL_isWrong, cL_isWrong, 4, (some .int), [(0, 16, 19, 21), (0, 16, 22, 13)], { frames := 9, cells := 2, slots := 12, locals := 333 })
theorem mb_L_isWrong : SBH m_L_isWrong 3 := ⟨gm 1312 (by decide +kernel) rfl, gm 152 (by decide +kernel) rfl, by decide +kernel, by decide +kernel⟩
theorem ms_L_isWrong : SS m_L_isWrong := gm 1311 (by decide +kernel) rfl
theorem lw_L_326 : LK RL 326 m_L_isWrong := gm 1310 (by decide +kernel) rfl
theorem w_isWrong {r : Bool ⊕ String} {v : Bool} (hc : Is8 S c L P) (ho : ArE 14 S o 1) (h : s_X8_isWrong I c L P x = some (r, J)) (hR : Res [eIS, eIX] r v t) (hQ : ∀ S2, (t = 0 → S2 = stX S o 0 (zl v)) → (S2 = S ∨ S2 = stX S o 0 (zl v)) → Q (.inl (some (.int t))) J S2) : CallH Ω m_L_isWrong [.ref c, .int x, .ref o] I S Q := by
  refine call_ofH (by decide +kernel) (Nat.le_of_ble_eq_true rfl) ?_
  refine r_aload_n (pc' := 1) dL_isWrong_0 rfl 2 rfl rfl ?_
  refine r_iconst (v := 0) (pc' := 2) dL_isWrong_1 rfl rfl ?_
  refine r_aload_n (pc' := 3) dL_isWrong_2 rfl 0 rfl rfl ?_
  refine r_iload_n (pc' := 4) dL_isWrong_3 rfl 1 rfl rfl ?_
  refine r_callV1 (pc' := 7) (k' := 2) (n' := 12) dL_isWrong_4 mb_X8_isWrong mi_X8_isWrong hc.o (by decide) rfl lk_L_119 rfl (Nat.zero_add _) (Nat.zero_add _) (Nat.le_of_ble_eq_true rfl) rfl (c_X8_isWrong hc ho.2.2.2 h ?_)
  cases r with
  | inl v0 =>
    obtain ⟨rfl, rfl⟩ := hR
    cases v0 with
    | false =>
      refine cpI (r := 0) ?_
      refine r_if_eq (tgt := 14) (pc' := 10) dL_isWrong_7 (by decide) rfl (fun _ => ?_) (fun q => absurd rfl q)
      refine r_lconst (v := 0) (pc' := 15) dL_isWrong_14 rfl rfl ?_
      refine r_lastore (pc' := 16) dL_isWrong_15 ho (by unfold vp_in; decide +kernel) rfl ?_
      refine r_goto (tgt := 25) dL_isWrong_16 (by decide) ?_
      refine r_iconst (v := 0) (pc' := 26) dL_isWrong_25 rfl rfl ?_
      exact r_iret dL_isWrong_26 rfl (Nat.le_of_ble_eq_true rfl) (Nat.le_of_ble_eq_true rfl) (hQ _ (fun _ => rfl) (Or.inr rfl))
    | true =>
      refine cpI (r := 1) ?_
      refine r_if_eq (tgt := 14) (pc' := 10) dL_isWrong_7 (by decide) rfl (fun q => absurd q (by decide)) (fun _ => ?_)
      refine r_lconst (v := 1) (pc' := 11) dL_isWrong_10 rfl rfl ?_
      refine r_goto (tgt := 15) dL_isWrong_11 (by decide) ?_
      refine r_lastore (pc' := 16) dL_isWrong_15 ho (by unfold vp_in; decide +kernel) rfl ?_
      refine r_goto (tgt := 25) dL_isWrong_16 (by decide) ?_
      refine r_iconst (v := 0) (pc' := 26) dL_isWrong_25 rfl rfl ?_
      exact r_iret dL_isWrong_26 rfl (Nat.le_of_ble_eq_true rfl) (Nat.le_of_ble_eq_true rfl) (hQ _ (fun _ => rfl) (Or.inr rfl))
  | inr E0 =>
    refine cpX ?_
    obtain ⟨i, hi, rfl⟩ := hR
    match i, hi with
    | 0, hi =>
      cases hi
      refine ax_catch (E := eIS) (name := eIS) (hd := (0, 16, 19, 21)) [] [(0, 16, 22, 13)] rfl (fun z hz => absurd hz List.not_mem_nil) rfl (by decide) cl_21 ca_IS (fun q => ?_)
      refine r_astore_n (pc' := 20) dL_isWrong_19 rfl (by decide) rfl rfl ?_
      refine r_iconst (v := nI (0 + 1)) (pc' := 21) dL_isWrong_20 (by decide) rfl ?_
      exact r_iret dL_isWrong_21 rfl (Nat.le_of_ble_eq_true rfl) (Nat.le_of_ble_eq_true rfl) (hQ _ (fun q => absurd q (by decide)) (Or.inl rfl))
    | 1, hi =>
      cases hi
      refine ax_catch (E := eIX) (name := eIX) (hd := (0, 16, 22, 13)) [(0, 16, 19, 21)] [] rfl (List.forall_mem_cons.mpr ⟨⟨by decide, eIS, cl_21, nc_eIX_eIS⟩, fun _ hz => absurd hz List.not_mem_nil⟩) rfl (by decide) cl_13 ca_IX (fun q => ?_)
      refine r_astore_n (pc' := 23) dL_isWrong_22 rfl (by decide) rfl rfl ?_
      refine r_iconst (v := nI (1 + 1)) (pc' := 24) dL_isWrong_23 (by decide) rfl ?_
      exact r_iret dL_isWrong_24 rfl (Nat.le_of_ble_eq_true rfl) (Nat.le_of_ble_eq_true rfl) (hQ _ (fun q => absurd q (by decide)) (Or.inl rfl))
    | n + 2, hi => simp at hi
abbrev m_L_wrongCount : JM := (yL_wrongCount, cL_wrongCount, 3, (some .int), [(0, 8, 11, 21)], { frames := 8, cells := 1, slots := 6, locals := 296 })
theorem mb_L_wrongCount : SBH m_L_wrongCount 2 := ⟨gm 1327 (by decide +kernel) rfl, gm 152 (by decide +kernel) rfl, by decide +kernel, by decide +kernel⟩
theorem ms_L_wrongCount : SS m_L_wrongCount := gm 1326 (by decide +kernel) rfl
theorem lw_L_329 : LK RL 329 m_L_wrongCount := gm 1325 (by decide +kernel) rfl
theorem w_wrongCount {r : Int32 ⊕ String} {v : Int32} (hc : Is8 S c L P) (ho : ArE 14 S o 1) (h : s_X8_wrongCount I c L P = some (r, J)) (hR : Res [eIS] r v t) (hQ : ∀ S2, (t = 0 → S2 = stX S o 0 v.toInt64) → (S2 = S ∨ S2 = stX S o 0 v.toInt64) → Q (.inl (some (.int t))) J S2) : CallH Ω m_L_wrongCount [.ref c, .ref o] I S Q := by
  refine call_ofH (by decide +kernel) (Nat.le_of_ble_eq_true rfl) ?_
  refine r_aload_n (pc' := 1) dL_wrongCount_0 rfl 1 rfl rfl ?_
  refine r_iconst (v := 0) (pc' := 2) dL_wrongCount_1 rfl rfl ?_
  refine r_aload_n (pc' := 3) dL_wrongCount_2 rfl 0 rfl rfl ?_
  refine r_callV0 (pc' := 6) (k' := 1) (n' := 6) dL_wrongCount_3 mb_X8_wrongCount mi_X8_wrongCount hc.o (by decide) rfl lk_L_122 rfl (Nat.zero_add _) (Nat.zero_add _) (Nat.le_of_ble_eq_true rfl) rfl (c_X8_wrongCount hc ho.2.2.2 h ?_)
  cases r with
  | inl v0 =>
    obtain ⟨rfl, rfl⟩ := hR
    refine cpI ?_
    refine r_i2l (pc' := 7) dL_wrongCount_6 rfl ?_
    refine r_lastore (pc' := 8) dL_wrongCount_7 ho (by unfold vp_in; decide +kernel) rfl ?_
    refine r_goto (tgt := 14) dL_wrongCount_8 (by decide) ?_
    refine r_iconst (v := 0) (pc' := 15) dL_wrongCount_14 rfl rfl ?_
    exact r_iret dL_wrongCount_15 rfl (Nat.le_of_ble_eq_true rfl) (Nat.le_of_ble_eq_true rfl) (hQ _ (fun _ => rfl) (Or.inr rfl))
  | inr E0 =>
    refine cpX ?_
    obtain ⟨i, hi, rfl⟩ := hR
    match i, hi with
    | 0, hi =>
      cases hi
      refine ax_catch (E := eIS) (name := eIS) (hd := (0, 8, 11, 21)) [] [] rfl (fun z hz => absurd hz List.not_mem_nil) rfl (by decide) cl_21 ca_IS (fun q => ?_)
      refine r_astore_n (pc' := 12) dL_wrongCount_11 rfl (by decide) rfl rfl ?_
      refine r_iconst (v := nI (0 + 1)) (pc' := 13) dL_wrongCount_12 (by decide) rfl ?_
      exact r_iret dL_wrongCount_13 rfl (Nat.le_of_ble_eq_true rfl) (Nat.le_of_ble_eq_true rfl) (hQ _ (fun q => absurd q (by decide)) (Or.inl rfl))
    | n + 1, hi => simp at hi
abbrev m_L_firstWrongRow : JM := (yL_firstWrongRow, cL_firstWrongRow, 3, (some .int), [(0, 8, 11, 21)], { frames := 8, cells := 1, slots := 6, locals := 296 })
theorem mb_L_firstWrongRow : SBH m_L_firstWrongRow 2 := ⟨gm 1339 (by decide +kernel) rfl, gm 152 (by decide +kernel) rfl, by decide +kernel, by decide +kernel⟩
theorem ms_L_firstWrongRow : SS m_L_firstWrongRow := gm 1338 (by decide +kernel) rfl
theorem lw_L_332 : LK RL 332 m_L_firstWrongRow := gm 1337 (by decide +kernel) rfl
theorem w_firstWrongRow {r : Int32 ⊕ String} {v : Int32} (hc : Is8 S c L P) (ho : ArE 14 S o 1) (h : s_X8_firstWrongRow I c L P = some (r, J)) (hR : Res [eIS] r v t) (hQ : ∀ S2, (t = 0 → S2 = stX S o 0 v.toInt64) → (S2 = S ∨ S2 = stX S o 0 v.toInt64) → Q (.inl (some (.int t))) J S2) : CallH Ω m_L_firstWrongRow [.ref c, .ref o] I S Q := by
  refine call_ofH (by decide +kernel) (Nat.le_of_ble_eq_true rfl) ?_
  refine r_aload_n (pc' := 1) dL_firstWrongRow_0 rfl 1 rfl rfl ?_
  refine r_iconst (v := 0) (pc' := 2) dL_firstWrongRow_1 rfl rfl ?_
  refine r_aload_n (pc' := 3) dL_firstWrongRow_2 rfl 0 rfl rfl ?_
  refine r_callV0 (pc' := 6) (k' := 1) (n' := 6) dL_firstWrongRow_3 mb_X8_firstWrongRow mi_X8_firstWrongRow hc.o (by decide) rfl lk_L_125 rfl (Nat.zero_add _) (Nat.zero_add _) (Nat.le_of_ble_eq_true rfl) rfl (c_X8_firstWrongRow hc ho.2.2.2 h ?_)
  cases r with
  | inl v0 =>
    obtain ⟨rfl, rfl⟩ := hR
    refine cpI ?_
    refine r_i2l (pc' := 7) dL_firstWrongRow_6 rfl ?_
    refine r_lastore (pc' := 8) dL_firstWrongRow_7 ho (by unfold vp_in; decide +kernel) rfl ?_
    refine r_goto (tgt := 14) dL_firstWrongRow_8 (by decide) ?_
    refine r_iconst (v := 0) (pc' := 15) dL_firstWrongRow_14 rfl rfl ?_
    exact r_iret dL_firstWrongRow_15 rfl (Nat.le_of_ble_eq_true rfl) (Nat.le_of_ble_eq_true rfl) (hQ _ (fun _ => rfl) (Or.inr rfl))
  | inr E0 =>
    refine cpX ?_
    obtain ⟨i, hi, rfl⟩ := hR
    match i, hi with
    | 0, hi =>
      cases hi
      refine ax_catch (E := eIS) (name := eIS) (hd := (0, 8, 11, 21)) [] [] rfl (fun z hz => absurd hz List.not_mem_nil) rfl (by decide) cl_21 ca_IS (fun q => ?_)
      refine r_astore_n (pc' := 12) dL_firstWrongRow_11 rfl (by decide) rfl rfl ?_
      refine r_iconst (v := nI (0 + 1)) (pc' := 13) dL_firstWrongRow_12 (by decide) rfl ?_
      exact r_iret dL_firstWrongRow_13 rfl (Nat.le_of_ble_eq_true rfl) (Nat.le_of_ble_eq_true rfl) (hQ _ (fun q => absurd q (by decide)) (Or.inl rfl))
    | n + 1, hi => simp at hi
abbrev m_L_swapFirst : JM := (yL_swapFirst, cL_swapFirst, 3, (some .int), [(0, 8, 11, 21)], { frames := 8, cells := 1, slots := 6, locals := 296 })
theorem mb_L_swapFirst : SBH m_L_swapFirst 2 := ⟨gm 1350 (by decide +kernel) rfl, gm 152 (by decide +kernel) rfl, by decide +kernel, by decide +kernel⟩
theorem ms_L_swapFirst : SS m_L_swapFirst := gm 1349 (by decide +kernel) rfl
theorem lw_L_335 : LK RL 335 m_L_swapFirst := gm 1348 (by decide +kernel) rfl
theorem w_swapFirst {r : Int32 ⊕ String} {v : Int32} (hc : Is8 S c L P) (ho : ArE 14 S o 1) (h : s_X8_swapFirst I c L P = some (r, J)) (hR : Res [eIS] r v t) (hQ : ∀ S2, (t = 0 → S2 = stX S o 0 v.toInt64) → (S2 = S ∨ S2 = stX S o 0 v.toInt64) → Q (.inl (some (.int t))) J S2) : CallH Ω m_L_swapFirst [.ref c, .ref o] I S Q := by
  refine call_ofH (by decide +kernel) (Nat.le_of_ble_eq_true rfl) ?_
  refine r_aload_n (pc' := 1) dL_swapFirst_0 rfl 1 rfl rfl ?_
  refine r_iconst (v := 0) (pc' := 2) dL_swapFirst_1 rfl rfl ?_
  refine r_aload_n (pc' := 3) dL_swapFirst_2 rfl 0 rfl rfl ?_
  refine r_callV0 (pc' := 6) (k' := 1) (n' := 6) dL_swapFirst_3 mb_X8_swapFirst mi_X8_swapFirst hc.o (by decide) rfl lk_L_128 rfl (Nat.zero_add _) (Nat.zero_add _) (Nat.le_of_ble_eq_true rfl) rfl (c_X8_swapFirst hc ho.2.2.2 h ?_)
  cases r with
  | inl v0 =>
    obtain ⟨rfl, rfl⟩ := hR
    refine cpI ?_
    refine r_i2l (pc' := 7) dL_swapFirst_6 rfl ?_
    refine r_lastore (pc' := 8) dL_swapFirst_7 ho (by unfold vp_in; decide +kernel) rfl ?_
    refine r_goto (tgt := 14) dL_swapFirst_8 (by decide) ?_
    refine r_iconst (v := 0) (pc' := 15) dL_swapFirst_14 rfl rfl ?_
    exact r_iret dL_swapFirst_15 rfl (Nat.le_of_ble_eq_true rfl) (Nat.le_of_ble_eq_true rfl) (hQ _ (fun _ => rfl) (Or.inr rfl))
  | inr E0 =>
    refine cpX ?_
    obtain ⟨i, hi, rfl⟩ := hR
    match i, hi with
    | 0, hi =>
      cases hi
      refine ax_catch (E := eIS) (name := eIS) (hd := (0, 8, 11, 21)) [] [] rfl (fun z hz => absurd hz List.not_mem_nil) rfl (by decide) cl_21 ca_IS (fun q => ?_)
      refine r_astore_n (pc' := 12) dL_swapFirst_11 rfl (by decide) rfl rfl ?_
      refine r_iconst (v := nI (0 + 1)) (pc' := 13) dL_swapFirst_12 (by decide) rfl ?_
      exact r_iret dL_swapFirst_13 rfl (Nat.le_of_ble_eq_true rfl) (Nat.le_of_ble_eq_true rfl) (hQ _ (fun q => absurd q (by decide)) (Or.inl rfl))
    | n + 1, hi => simp at hi
abbrev m_L_swapSecond : JM := (yL_swapSecond, cL_swapSecond, 3, (some .int), [(0, 8, 11, 21)], { frames := 8, cells := 1, slots := 6, locals := 296 })
theorem mb_L_swapSecond : SBH m_L_swapSecond 2 := ⟨gm 1366 (by decide +kernel) rfl, gm 152 (by decide +kernel) rfl, by decide +kernel, by decide +kernel⟩
theorem ms_L_swapSecond : SS m_L_swapSecond := gm 1365 (by decide +kernel) rfl
theorem lw_L_338 : LK RL 338 m_L_swapSecond := gm 1364 (by decide +kernel) rfl
theorem w_swapSecond {r : Int32 ⊕ String} {v : Int32} (hc : Is8 S c L P) (ho : ArE 14 S o 1) (h : s_X8_swapSecond I c L P = some (r, J)) (hR : Res [eIS] r v t) (hQ : ∀ S2, (t = 0 → S2 = stX S o 0 v.toInt64) → (S2 = S ∨ S2 = stX S o 0 v.toInt64) → Q (.inl (some (.int t))) J S2) : CallH Ω m_L_swapSecond [.ref c, .ref o] I S Q := by
  refine call_ofH (by decide +kernel) (Nat.le_of_ble_eq_true rfl) ?_
  refine r_aload_n (pc' := 1) dL_swapSecond_0 rfl 1 rfl rfl ?_
  refine r_iconst (v := 0) (pc' := 2) dL_swapSecond_1 rfl rfl ?_
  refine r_aload_n (pc' := 3) dL_swapSecond_2 rfl 0 rfl rfl ?_
  refine r_callV0 (pc' := 6) (k' := 1) (n' := 6) dL_swapSecond_3 mb_X8_swapSecond mi_X8_swapSecond hc.o (by decide) rfl lk_L_131 rfl (Nat.zero_add _) (Nat.zero_add _) (Nat.le_of_ble_eq_true rfl) rfl (c_X8_swapSecond hc ho.2.2.2 h ?_)
  cases r with
  | inl v0 =>
    obtain ⟨rfl, rfl⟩ := hR
    refine cpI ?_
    refine r_i2l (pc' := 7) dL_swapSecond_6 rfl ?_
    refine r_lastore (pc' := 8) dL_swapSecond_7 ho (by unfold vp_in; decide +kernel) rfl ?_
    refine r_goto (tgt := 14) dL_swapSecond_8 (by decide) ?_
    refine r_iconst (v := 0) (pc' := 15) dL_swapSecond_14 rfl rfl ?_
    exact r_iret dL_swapSecond_15 rfl (Nat.le_of_ble_eq_true rfl) (Nat.le_of_ble_eq_true rfl) (hQ _ (fun _ => rfl) (Or.inr rfl))
  | inr E0 =>
    refine cpX ?_
    obtain ⟨i, hi, rfl⟩ := hR
    match i, hi with
    | 0, hi =>
      cases hi
      refine ax_catch (E := eIS) (name := eIS) (hd := (0, 8, 11, 21)) [] [] rfl (fun z hz => absurd hz List.not_mem_nil) rfl (by decide) cl_21 ca_IS (fun q => ?_)
      refine r_astore_n (pc' := 12) dL_swapSecond_11 rfl (by decide) rfl rfl ?_
      refine r_iconst (v := nI (0 + 1)) (pc' := 13) dL_swapSecond_12 (by decide) rfl ?_
      exact r_iret dL_swapSecond_13 rfl (Nat.le_of_ble_eq_true rfl) (Nat.le_of_ble_eq_true rfl) (hQ _ (fun q => absurd q (by decide)) (Or.inl rfl))
    | n + 1, hi => simp at hi
abbrev m_L_yarn : JM := (yL_yarn, cL_yarn, 4, (some .int), [(0, 9, 12, 21), (0, 9, 15, 15)], { frames := 9, cells := 2, slots := 12, locals := 333 })
theorem mb_L_yarn : SBH m_L_yarn 3 := ⟨gm 1373 (by decide +kernel) rfl, gm 152 (by decide +kernel) rfl, by decide +kernel, by decide +kernel⟩
theorem ms_L_yarn : SS m_L_yarn := gm 1372 (by decide +kernel) rfl
theorem lw_L_341 : LK RL 341 m_L_yarn := gm 1371 (by decide +kernel) rfl
theorem w_yarn {r : Int32 ⊕ String} {v : Int32} (hc : Is8 S c L P) (ho : ArE 14 S o 1) (h : s_X8_yarn I c L P x = some (r, J)) (hR : Res [eIS, eIA] r v t) (hQ : ∀ S2, (t = 0 → S2 = stX S o 0 v.toInt64) → (S2 = S ∨ S2 = stX S o 0 v.toInt64) → Q (.inl (some (.int t))) J S2) : CallH Ω m_L_yarn [.ref c, .int x, .ref o] I S Q := by
  refine call_ofH (by decide +kernel) (Nat.le_of_ble_eq_true rfl) ?_
  refine r_aload_n (pc' := 1) dL_yarn_0 rfl 2 rfl rfl ?_
  refine r_iconst (v := 0) (pc' := 2) dL_yarn_1 rfl rfl ?_
  refine r_aload_n (pc' := 3) dL_yarn_2 rfl 0 rfl rfl ?_
  refine r_iload_n (pc' := 4) dL_yarn_3 rfl 1 rfl rfl ?_
  refine r_callV1 (pc' := 7) (k' := 2) (n' := 12) dL_yarn_4 mb_X8_yarn mi_X8_yarn hc.o (by decide) rfl lk_L_134 rfl (Nat.zero_add _) (Nat.zero_add _) (Nat.le_of_ble_eq_true rfl) rfl (c_X8_yarn hc ho.2.2.2 h ?_)
  cases r with
  | inl v0 =>
    obtain ⟨rfl, rfl⟩ := hR
    refine cpI ?_
    refine r_i2l (pc' := 8) dL_yarn_7 rfl ?_
    refine r_lastore (pc' := 9) dL_yarn_8 ho (by unfold vp_in; decide +kernel) rfl ?_
    refine r_goto (tgt := 18) dL_yarn_9 (by decide) ?_
    refine r_iconst (v := 0) (pc' := 19) dL_yarn_18 rfl rfl ?_
    exact r_iret dL_yarn_19 rfl (Nat.le_of_ble_eq_true rfl) (Nat.le_of_ble_eq_true rfl) (hQ _ (fun _ => rfl) (Or.inr rfl))
  | inr E0 =>
    refine cpX ?_
    obtain ⟨i, hi, rfl⟩ := hR
    match i, hi with
    | 0, hi =>
      cases hi
      refine ax_catch (E := eIS) (name := eIS) (hd := (0, 9, 12, 21)) [] [(0, 9, 15, 15)] rfl (fun z hz => absurd hz List.not_mem_nil) rfl (by decide) cl_21 ca_IS (fun q => ?_)
      refine r_astore_n (pc' := 13) dL_yarn_12 rfl (by decide) rfl rfl ?_
      refine r_iconst (v := nI (0 + 1)) (pc' := 14) dL_yarn_13 (by decide) rfl ?_
      exact r_iret dL_yarn_14 rfl (Nat.le_of_ble_eq_true rfl) (Nat.le_of_ble_eq_true rfl) (hQ _ (fun q => absurd q (by decide)) (Or.inl rfl))
    | 1, hi =>
      cases hi
      refine ax_catch (E := eIA) (name := eIA) (hd := (0, 9, 15, 15)) [(0, 9, 12, 21)] [] rfl (List.forall_mem_cons.mpr ⟨⟨by decide, eIS, cl_21, nc_eIA_eIS⟩, fun _ hz => absurd hz List.not_mem_nil⟩) rfl (by decide) cl_15 ca_IA (fun q => ?_)
      refine r_astore_n (pc' := 16) dL_yarn_15 rfl (by decide) rfl rfl ?_
      refine r_iconst (v := nI (1 + 1)) (pc' := 17) dL_yarn_16 (by decide) rfl ?_
      exact r_iret dL_yarn_17 rfl (Nat.le_of_ble_eq_true rfl) (Nat.le_of_ble_eq_true rfl) (hQ _ (fun q => absurd q (by decide)) (Or.inl rfl))
    | n + 2, hi => simp at hi
abbrev m_L_yarnNeeded : JM := (yL_yarnNeeded, cL_yarnNeeded, 4, (some .int), [(0, 9, 12, 21), (0, 9, 15, 15)], { frames := 9, cells := 2, slots := 12, locals := 333 })
theorem mb_L_yarnNeeded : SBH m_L_yarnNeeded 3 := ⟨gm 1380 (by decide +kernel) rfl, gm 152 (by decide +kernel) rfl, by decide +kernel, by decide +kernel⟩
theorem ms_L_yarnNeeded : SS m_L_yarnNeeded := gm 1379 (by decide +kernel) rfl
theorem lw_L_344 : LK RL 344 m_L_yarnNeeded := gm 1378 (by decide +kernel) rfl
theorem w_yarnNeeded {r : Int32 ⊕ String} {v : Int32} (hc : Is8 S c L P) (ho : ArE 14 S o 1) (h : s_X8_yarnNeeded I c L P x = some (r, J)) (hR : Res [eIS, eIA] r v t) (hQ : ∀ S2, (t = 0 → S2 = stX S o 0 v.toInt64) → (S2 = S ∨ S2 = stX S o 0 v.toInt64) → Q (.inl (some (.int t))) J S2) : CallH Ω m_L_yarnNeeded [.ref c, .int x, .ref o] I S Q := by
  refine call_ofH (by decide +kernel) (Nat.le_of_ble_eq_true rfl) ?_
  refine r_aload_n (pc' := 1) dL_yarnNeeded_0 rfl 2 rfl rfl ?_
  refine r_iconst (v := 0) (pc' := 2) dL_yarnNeeded_1 rfl rfl ?_
  refine r_aload_n (pc' := 3) dL_yarnNeeded_2 rfl 0 rfl rfl ?_
  refine r_iload_n (pc' := 4) dL_yarnNeeded_3 rfl 1 rfl rfl ?_
  refine r_callV1 (pc' := 7) (k' := 2) (n' := 12) dL_yarnNeeded_4 mb_X8_yarnNeeded mi_X8_yarnNeeded hc.o (by decide) rfl lk_L_137 rfl (Nat.zero_add _) (Nat.zero_add _) (Nat.le_of_ble_eq_true rfl) rfl (c_X8_yarnNeeded hc ho.2.2.2 h ?_)
  cases r with
  | inl v0 =>
    obtain ⟨rfl, rfl⟩ := hR
    refine cpI ?_
    refine r_i2l (pc' := 8) dL_yarnNeeded_7 rfl ?_
    refine r_lastore (pc' := 9) dL_yarnNeeded_8 ho (by unfold vp_in; decide +kernel) rfl ?_
    refine r_goto (tgt := 18) dL_yarnNeeded_9 (by decide) ?_
    refine r_iconst (v := 0) (pc' := 19) dL_yarnNeeded_18 rfl rfl ?_
    exact r_iret dL_yarnNeeded_19 rfl (Nat.le_of_ble_eq_true rfl) (Nat.le_of_ble_eq_true rfl) (hQ _ (fun _ => rfl) (Or.inr rfl))
  | inr E0 =>
    refine cpX ?_
    obtain ⟨i, hi, rfl⟩ := hR
    match i, hi with
    | 0, hi =>
      cases hi
      refine ax_catch (E := eIS) (name := eIS) (hd := (0, 9, 12, 21)) [] [(0, 9, 15, 15)] rfl (fun z hz => absurd hz List.not_mem_nil) rfl (by decide) cl_21 ca_IS (fun q => ?_)
      refine r_astore_n (pc' := 13) dL_yarnNeeded_12 rfl (by decide) rfl rfl ?_
      refine r_iconst (v := nI (0 + 1)) (pc' := 14) dL_yarnNeeded_13 (by decide) rfl ?_
      exact r_iret dL_yarnNeeded_14 rfl (Nat.le_of_ble_eq_true rfl) (Nat.le_of_ble_eq_true rfl) (hQ _ (fun q => absurd q (by decide)) (Or.inl rfl))
    | 1, hi =>
      cases hi
      refine ax_catch (E := eIA) (name := eIA) (hd := (0, 9, 15, 15)) [(0, 9, 12, 21)] [] rfl (List.forall_mem_cons.mpr ⟨⟨by decide, eIS, cl_21, nc_eIA_eIS⟩, fun _ hz => absurd hz List.not_mem_nil⟩) rfl (by decide) cl_15 ca_IA (fun q => ?_)
      refine r_astore_n (pc' := 16) dL_yarnNeeded_15 rfl (by decide) rfl rfl ?_
      refine r_iconst (v := nI (1 + 1)) (pc' := 17) dL_yarnNeeded_16 (by decide) rfl ?_
      exact r_iret dL_yarnNeeded_17 rfl (Nat.le_of_ble_eq_true rfl) (Nat.le_of_ble_eq_true rfl) (hQ _ (fun q => absurd q (by decide)) (Or.inl rfl))
    | n + 2, hi => simp at hi
abbrev m_L_nextCard : JM := (yL_nextCard, cL_nextCard, 3, (some .int), [(0, 8, 11, 21)], { frames := 8, cells := 1, slots := 6, locals := 296 })
theorem mb_L_nextCard : SBH m_L_nextCard 2 := ⟨gm 1391 (by decide +kernel) rfl, gm 152 (by decide +kernel) rfl, by decide +kernel, by decide +kernel⟩
theorem ms_L_nextCard : SS m_L_nextCard := gm 1390 (by decide +kernel) rfl
theorem lw_L_347 : LK RL 347 m_L_nextCard := gm 1389 (by decide +kernel) rfl
theorem w_nextCard {r : Int32 ⊕ String} {v : Int32} (hc : Is8 S c L P) (ho : ArE 14 S o 1) (h : s_X8_nextCard I c L P = some (r, J)) (hR : Res [eIS] r v t) (hQ : ∀ S2, (t = 0 → S2 = stX S o 0 v.toInt64) → (S2 = S ∨ S2 = stX S o 0 v.toInt64) → Q (.inl (some (.int t))) J S2) : CallH Ω m_L_nextCard [.ref c, .ref o] I S Q := by
  refine call_ofH (by decide +kernel) (Nat.le_of_ble_eq_true rfl) ?_
  refine r_aload_n (pc' := 1) dL_nextCard_0 rfl 1 rfl rfl ?_
  refine r_iconst (v := 0) (pc' := 2) dL_nextCard_1 rfl rfl ?_
  refine r_aload_n (pc' := 3) dL_nextCard_2 rfl 0 rfl rfl ?_
  refine r_callV0 (pc' := 6) (k' := 1) (n' := 6) dL_nextCard_3 mb_X8_nextCard mi_X8_nextCard hc.o (by decide) rfl lk_L_140 rfl (Nat.zero_add _) (Nat.zero_add _) (Nat.le_of_ble_eq_true rfl) rfl (c_X8_nextCard hc ho.2.2.2 h ?_)
  cases r with
  | inl v0 =>
    obtain ⟨rfl, rfl⟩ := hR
    refine cpI ?_
    refine r_i2l (pc' := 7) dL_nextCard_6 rfl ?_
    refine r_lastore (pc' := 8) dL_nextCard_7 ho (by unfold vp_in; decide +kernel) rfl ?_
    refine r_goto (tgt := 14) dL_nextCard_8 (by decide) ?_
    refine r_iconst (v := 0) (pc' := 15) dL_nextCard_14 rfl rfl ?_
    exact r_iret dL_nextCard_15 rfl (Nat.le_of_ble_eq_true rfl) (Nat.le_of_ble_eq_true rfl) (hQ _ (fun _ => rfl) (Or.inr rfl))
  | inr E0 =>
    refine cpX ?_
    obtain ⟨i, hi, rfl⟩ := hR
    match i, hi with
    | 0, hi =>
      cases hi
      refine ax_catch (E := eIS) (name := eIS) (hd := (0, 8, 11, 21)) [] [] rfl (fun z hz => absurd hz List.not_mem_nil) rfl (by decide) cl_21 ca_IS (fun q => ?_)
      refine r_astore_n (pc' := 12) dL_nextCard_11 rfl (by decide) rfl rfl ?_
      refine r_iconst (v := nI (0 + 1)) (pc' := 13) dL_nextCard_12 (by decide) rfl ?_
      exact r_iret dL_nextCard_13 rfl (Nat.le_of_ble_eq_true rfl) (Nat.le_of_ble_eq_true rfl) (hQ _ (fun q => absurd q (by decide)) (Or.inl rfl))
    | n + 1, hi => simp at hi
abbrev m_L_weaveObstacle : JM := (yL_weaveObstacle, cL_weaveObstacle, 3, (some .int), [(0, 8, 11, 21)], { frames := 8, cells := 1, slots := 6, locals := 296 })
theorem mb_L_weaveObstacle : SBH m_L_weaveObstacle 2 := ⟨gm 1399 (by decide +kernel) rfl, gm 152 (by decide +kernel) rfl, by decide +kernel, by decide +kernel⟩
theorem ms_L_weaveObstacle : SS m_L_weaveObstacle := gm 1398 (by decide +kernel) rfl
theorem lw_L_350 : LK RL 350 m_L_weaveObstacle := gm 1397 (by decide +kernel) rfl
theorem w_weaveObstacle {r : Int32 ⊕ String} {v : Int32} (hc : Is8 S c L P) (ho : ArE 14 S o 1) (h : s_X8_weaveObstacle I c L P = some (r, J)) (hR : Res [eIS] r v t) (hQ : ∀ S2, (t = 0 → S2 = stX S o 0 v.toInt64) → (S2 = S ∨ S2 = stX S o 0 v.toInt64) → Q (.inl (some (.int t))) J S2) : CallH Ω m_L_weaveObstacle [.ref c, .ref o] I S Q := by
  refine call_ofH (by decide +kernel) (Nat.le_of_ble_eq_true rfl) ?_
  refine r_aload_n (pc' := 1) dL_weaveObstacle_0 rfl 1 rfl rfl ?_
  refine r_iconst (v := 0) (pc' := 2) dL_weaveObstacle_1 rfl rfl ?_
  refine r_aload_n (pc' := 3) dL_weaveObstacle_2 rfl 0 rfl rfl ?_
  refine r_callV0 (pc' := 6) (k' := 1) (n' := 6) dL_weaveObstacle_3 mb_X8_weaveObstacle mi_X8_weaveObstacle hc.o (by decide) rfl lk_L_143 rfl (Nat.zero_add _) (Nat.zero_add _) (Nat.le_of_ble_eq_true rfl) rfl (c_X8_weaveObstacle hc ho.2.2.2 h ?_)
  cases r with
  | inl v0 =>
    obtain ⟨rfl, rfl⟩ := hR
    refine cpI ?_
    refine r_i2l (pc' := 7) dL_weaveObstacle_6 rfl ?_
    refine r_lastore (pc' := 8) dL_weaveObstacle_7 ho (by unfold vp_in; decide +kernel) rfl ?_
    refine r_goto (tgt := 14) dL_weaveObstacle_8 (by decide) ?_
    refine r_iconst (v := 0) (pc' := 15) dL_weaveObstacle_14 rfl rfl ?_
    exact r_iret dL_weaveObstacle_15 rfl (Nat.le_of_ble_eq_true rfl) (Nat.le_of_ble_eq_true rfl) (hQ _ (fun _ => rfl) (Or.inr rfl))
  | inr E0 =>
    refine cpX ?_
    obtain ⟨i, hi, rfl⟩ := hR
    match i, hi with
    | 0, hi =>
      cases hi
      refine ax_catch (E := eIS) (name := eIS) (hd := (0, 8, 11, 21)) [] [] rfl (fun z hz => absurd hz List.not_mem_nil) rfl (by decide) cl_21 ca_IS (fun q => ?_)
      refine r_astore_n (pc' := 12) dL_weaveObstacle_11 rfl (by decide) rfl rfl ?_
      refine r_iconst (v := nI (0 + 1)) (pc' := 13) dL_weaveObstacle_12 (by decide) rfl ?_
      exact r_iret dL_weaveObstacle_13 rfl (Nat.le_of_ble_eq_true rfl) (Nat.le_of_ble_eq_true rfl) (hQ _ (fun q => absurd q (by decide)) (Or.inl rfl))
    | n + 1, hi => simp at hi
abbrev m_L_picksPossible : JM := (yL_picksPossible, cL_picksPossible, 3, (some .int), [(0, 8, 11, 21)], { frames := 8, cells := 1, slots := 6, locals := 296 })
theorem mb_L_picksPossible : SBH m_L_picksPossible 2 := ⟨gm 1407 (by decide +kernel) rfl, gm 152 (by decide +kernel) rfl, by decide +kernel, by decide +kernel⟩
theorem ms_L_picksPossible : SS m_L_picksPossible := gm 1406 (by decide +kernel) rfl
theorem lw_L_353 : LK RL 353 m_L_picksPossible := gm 1405 (by decide +kernel) rfl
theorem w_picksPossible {r : Int32 ⊕ String} {v : Int32} (hc : Is8 S c L P) (ho : ArE 14 S o 1) (h : s_X8_picksPossible I c L P = some (r, J)) (hR : Res [eIS] r v t) (hQ : ∀ S2, (t = 0 → S2 = stX S o 0 v.toInt64) → (S2 = S ∨ S2 = stX S o 0 v.toInt64) → Q (.inl (some (.int t))) J S2) : CallH Ω m_L_picksPossible [.ref c, .ref o] I S Q := by
  refine call_ofH (by decide +kernel) (Nat.le_of_ble_eq_true rfl) ?_
  refine r_aload_n (pc' := 1) dL_picksPossible_0 rfl 1 rfl rfl ?_
  refine r_iconst (v := 0) (pc' := 2) dL_picksPossible_1 rfl rfl ?_
  refine r_aload_n (pc' := 3) dL_picksPossible_2 rfl 0 rfl rfl ?_
  refine r_callV0 (pc' := 6) (k' := 1) (n' := 6) dL_picksPossible_3 mb_X8_picksPossible mi_X8_picksPossible hc.o (by decide) rfl lk_L_146 rfl (Nat.zero_add _) (Nat.zero_add _) (Nat.le_of_ble_eq_true rfl) rfl (c_X8_picksPossible hc ho.2.2.2 h ?_)
  cases r with
  | inl v0 =>
    obtain ⟨rfl, rfl⟩ := hR
    refine cpI ?_
    refine r_i2l (pc' := 7) dL_picksPossible_6 rfl ?_
    refine r_lastore (pc' := 8) dL_picksPossible_7 ho (by unfold vp_in; decide +kernel) rfl ?_
    refine r_goto (tgt := 14) dL_picksPossible_8 (by decide) ?_
    refine r_iconst (v := 0) (pc' := 15) dL_picksPossible_14 rfl rfl ?_
    exact r_iret dL_picksPossible_15 rfl (Nat.le_of_ble_eq_true rfl) (Nat.le_of_ble_eq_true rfl) (hQ _ (fun _ => rfl) (Or.inr rfl))
  | inr E0 =>
    refine cpX ?_
    obtain ⟨i, hi, rfl⟩ := hR
    match i, hi with
    | 0, hi =>
      cases hi
      refine ax_catch (E := eIS) (name := eIS) (hd := (0, 8, 11, 21)) [] [] rfl (fun z hz => absurd hz List.not_mem_nil) rfl (by decide) cl_21 ca_IS (fun q => ?_)
      refine r_astore_n (pc' := 12) dL_picksPossible_11 rfl (by decide) rfl rfl ?_
      refine r_iconst (v := nI (0 + 1)) (pc' := 13) dL_picksPossible_12 (by decide) rfl ?_
      exact r_iret dL_picksPossible_13 rfl (Nat.le_of_ble_eq_true rfl) (Nat.le_of_ble_eq_true rfl) (hQ _ (fun q => absurd q (by decide)) (Or.inl rfl))
    | n + 1, hi => simp at hi
abbrev m_L_picksUntilStuck : JM := (yL_picksUntilStuck, cL_picksUntilStuck, 3, (some .int), [(0, 8, 11, 21)], { frames := 8, cells := 1, slots := 6, locals := 296 })
theorem mb_L_picksUntilStuck : SBH m_L_picksUntilStuck 2 := ⟨gm 1426 (by decide +kernel) rfl, gm 152 (by decide +kernel) rfl, by decide +kernel, by decide +kernel⟩
theorem ms_L_picksUntilStuck : SS m_L_picksUntilStuck := gm 1425 (by decide +kernel) rfl
theorem lw_L_356 : LK RL 356 m_L_picksUntilStuck := gm 1424 (by decide +kernel) rfl
theorem w_picksUntilStuck {r : Int32 ⊕ String} {v : Int32} (hc : Is8 S c L P) (ho : ArE 14 S o 1) (h : s_X8_picksUntilStuck I c L P = some (r, J)) (hR : Res [eIS] r v t) (hQ : ∀ S2, (t = 0 → S2 = stX S o 0 v.toInt64) → (S2 = S ∨ S2 = stX S o 0 v.toInt64) → Q (.inl (some (.int t))) J S2) : CallH Ω m_L_picksUntilStuck [.ref c, .ref o] I S Q := by
  refine call_ofH (by decide +kernel) (Nat.le_of_ble_eq_true rfl) ?_
  refine r_aload_n (pc' := 1) dL_picksUntilStuck_0 rfl 1 rfl rfl ?_
  refine r_iconst (v := 0) (pc' := 2) dL_picksUntilStuck_1 rfl rfl ?_
  refine r_aload_n (pc' := 3) dL_picksUntilStuck_2 rfl 0 rfl rfl ?_
  refine r_callV0 (pc' := 6) (k' := 1) (n' := 6) dL_picksUntilStuck_3 mb_X8_picksUntilStuck mi_X8_picksUntilStuck hc.o (by decide) rfl lk_L_149 rfl (Nat.zero_add _) (Nat.zero_add _) (Nat.le_of_ble_eq_true rfl) rfl (c_X8_picksUntilStuck hc ho.2.2.2 h ?_)
  cases r with
  | inl v0 =>
    obtain ⟨rfl, rfl⟩ := hR
    refine cpI ?_
    refine r_i2l (pc' := 7) dL_picksUntilStuck_6 rfl ?_
    refine r_lastore (pc' := 8) dL_picksUntilStuck_7 ho (by unfold vp_in; decide +kernel) rfl ?_
    refine r_goto (tgt := 14) dL_picksUntilStuck_8 (by decide) ?_
    refine r_iconst (v := 0) (pc' := 15) dL_picksUntilStuck_14 rfl rfl ?_
    exact r_iret dL_picksUntilStuck_15 rfl (Nat.le_of_ble_eq_true rfl) (Nat.le_of_ble_eq_true rfl) (hQ _ (fun _ => rfl) (Or.inr rfl))
  | inr E0 =>
    refine cpX ?_
    obtain ⟨i, hi, rfl⟩ := hR
    match i, hi with
    | 0, hi =>
      cases hi
      refine ax_catch (E := eIS) (name := eIS) (hd := (0, 8, 11, 21)) [] [] rfl (fun z hz => absurd hz List.not_mem_nil) rfl (by decide) cl_21 ca_IS (fun q => ?_)
      refine r_astore_n (pc' := 12) dL_picksUntilStuck_11 rfl (by decide) rfl rfl ?_
      refine r_iconst (v := nI (0 + 1)) (pc' := 13) dL_picksUntilStuck_12 (by decide) rfl ?_
      exact r_iret dL_picksUntilStuck_13 rfl (Nat.le_of_ble_eq_true rfl) (Nat.le_of_ble_eq_true rfl) (hQ _ (fun q => absurd q (by decide)) (Or.inl rfl))
    | n + 1, hi => simp at hi
abbrev m_L_imbalance : JM := (yL_imbalance, cL_imbalance, 3, (some .int), [(0, 8, 11, 21)], { frames := 8, cells := 1, slots := 6, locals := 296 })
theorem mb_L_imbalance : SBH m_L_imbalance 2 := ⟨gm 1433 (by decide +kernel) rfl, gm 152 (by decide +kernel) rfl, by decide +kernel, by decide +kernel⟩
theorem ms_L_imbalance : SS m_L_imbalance := gm 1432 (by decide +kernel) rfl
theorem lw_L_359 : LK RL 359 m_L_imbalance := gm 1431 (by decide +kernel) rfl
theorem w_imbalance {r : Int32 ⊕ String} {v : Int32} (hc : Is8 S c L P) (ho : ArE 14 S o 1) (h : s_X8_imbalance I c L P = some (r, J)) (hR : Res [eIS] r v t) (hQ : ∀ S2, (t = 0 → S2 = stX S o 0 v.toInt64) → (S2 = S ∨ S2 = stX S o 0 v.toInt64) → Q (.inl (some (.int t))) J S2) : CallH Ω m_L_imbalance [.ref c, .ref o] I S Q := by
  refine call_ofH (by decide +kernel) (Nat.le_of_ble_eq_true rfl) ?_
  refine r_aload_n (pc' := 1) dL_imbalance_0 rfl 1 rfl rfl ?_
  refine r_iconst (v := 0) (pc' := 2) dL_imbalance_1 rfl rfl ?_
  refine r_aload_n (pc' := 3) dL_imbalance_2 rfl 0 rfl rfl ?_
  refine r_callV0 (pc' := 6) (k' := 1) (n' := 6) dL_imbalance_3 mb_X8_imbalance mi_X8_imbalance hc.o (by decide) rfl lk_L_152 rfl (Nat.zero_add _) (Nat.zero_add _) (Nat.le_of_ble_eq_true rfl) rfl (c_X8_imbalance hc ho.2.2.2 h ?_)
  cases r with
  | inl v0 =>
    obtain ⟨rfl, rfl⟩ := hR
    refine cpI ?_
    refine r_i2l (pc' := 7) dL_imbalance_6 rfl ?_
    refine r_lastore (pc' := 8) dL_imbalance_7 ho (by unfold vp_in; decide +kernel) rfl ?_
    refine r_goto (tgt := 14) dL_imbalance_8 (by decide) ?_
    refine r_iconst (v := 0) (pc' := 15) dL_imbalance_14 rfl rfl ?_
    exact r_iret dL_imbalance_15 rfl (Nat.le_of_ble_eq_true rfl) (Nat.le_of_ble_eq_true rfl) (hQ _ (fun _ => rfl) (Or.inr rfl))
  | inr E0 =>
    refine cpX ?_
    obtain ⟨i, hi, rfl⟩ := hR
    match i, hi with
    | 0, hi =>
      cases hi
      refine ax_catch (E := eIS) (name := eIS) (hd := (0, 8, 11, 21)) [] [] rfl (fun z hz => absurd hz List.not_mem_nil) rfl (by decide) cl_21 ca_IS (fun q => ?_)
      refine r_astore_n (pc' := 12) dL_imbalance_11 rfl (by decide) rfl rfl ?_
      refine r_iconst (v := nI (0 + 1)) (pc' := 13) dL_imbalance_12 (by decide) rfl ?_
      exact r_iret dL_imbalance_13 rfl (Nat.le_of_ble_eq_true rfl) (Nat.le_of_ble_eq_true rfl) (hQ _ (fun q => absurd q (by decide)) (Or.inl rfl))
    | n + 1, hi => simp at hi
abbrev m_L_writeRow : JM := (yL_writeRow, cL_writeRow, 4, (some .int), [(0, 9, 12, 21), (0, 9, 15, 13)], { frames := 9, cells := 2, slots := 12, locals := 333 })
theorem mb_L_writeRow : SBH m_L_writeRow 3 := ⟨gm 1447 (by decide +kernel) rfl, gm 152 (by decide +kernel) rfl, by decide +kernel, by decide +kernel⟩
theorem ms_L_writeRow : SS m_L_writeRow := gm 1446 (by decide +kernel) rfl
theorem lw_L_362 : LK RL 362 m_L_writeRow := gm 1445 (by decide +kernel) rfl
theorem w_writeRow {r : Int32 ⊕ String} {v : Int32} (hc : Is8 S c L P) (ho : ArE 14 S o 1) (h : s_X8_writeRow I c L P x = some (r, J)) (hR : Res [eIS, eIX] r v t) (hQ : ∀ S2, (t = 0 → S2 = stX S o 0 v.toInt64) → (S2 = S ∨ S2 = stX S o 0 v.toInt64) → Q (.inl (some (.int t))) J S2) : CallH Ω m_L_writeRow [.ref c, .int x, .ref o] I S Q := by
  refine call_ofH (by decide +kernel) (Nat.le_of_ble_eq_true rfl) ?_
  refine r_aload_n (pc' := 1) dL_writeRow_0 rfl 2 rfl rfl ?_
  refine r_iconst (v := 0) (pc' := 2) dL_writeRow_1 rfl rfl ?_
  refine r_aload_n (pc' := 3) dL_writeRow_2 rfl 0 rfl rfl ?_
  refine r_iload_n (pc' := 4) dL_writeRow_3 rfl 1 rfl rfl ?_
  refine r_callV1 (pc' := 7) (k' := 2) (n' := 12) dL_writeRow_4 mb_X8_writeRow mi_X8_writeRow hc.o (by decide) rfl lk_L_155 rfl (Nat.zero_add _) (Nat.zero_add _) (Nat.le_of_ble_eq_true rfl) rfl (c_X8_writeRow hc ho.2.2.2 h ?_)
  cases r with
  | inl v0 =>
    obtain ⟨rfl, rfl⟩ := hR
    refine cpI ?_
    refine r_i2l (pc' := 8) dL_writeRow_7 rfl ?_
    refine r_lastore (pc' := 9) dL_writeRow_8 ho (by unfold vp_in; decide +kernel) rfl ?_
    refine r_goto (tgt := 18) dL_writeRow_9 (by decide) ?_
    refine r_iconst (v := 0) (pc' := 19) dL_writeRow_18 rfl rfl ?_
    exact r_iret dL_writeRow_19 rfl (Nat.le_of_ble_eq_true rfl) (Nat.le_of_ble_eq_true rfl) (hQ _ (fun _ => rfl) (Or.inr rfl))
  | inr E0 =>
    refine cpX ?_
    obtain ⟨i, hi, rfl⟩ := hR
    match i, hi with
    | 0, hi =>
      cases hi
      refine ax_catch (E := eIS) (name := eIS) (hd := (0, 9, 12, 21)) [] [(0, 9, 15, 13)] rfl (fun z hz => absurd hz List.not_mem_nil) rfl (by decide) cl_21 ca_IS (fun q => ?_)
      refine r_astore_n (pc' := 13) dL_writeRow_12 rfl (by decide) rfl rfl ?_
      refine r_iconst (v := nI (0 + 1)) (pc' := 14) dL_writeRow_13 (by decide) rfl ?_
      exact r_iret dL_writeRow_14 rfl (Nat.le_of_ble_eq_true rfl) (Nat.le_of_ble_eq_true rfl) (hQ _ (fun q => absurd q (by decide)) (Or.inl rfl))
    | 1, hi =>
      cases hi
      refine ax_catch (E := eIX) (name := eIX) (hd := (0, 9, 15, 13)) [(0, 9, 12, 21)] [] rfl (List.forall_mem_cons.mpr ⟨⟨by decide, eIS, cl_21, nc_eIX_eIS⟩, fun _ hz => absurd hz List.not_mem_nil⟩) rfl (by decide) cl_13 ca_IX (fun q => ?_)
      refine r_astore_n (pc' := 16) dL_writeRow_15 rfl (by decide) rfl rfl ?_
      refine r_iconst (v := nI (1 + 1)) (pc' := 17) dL_writeRow_16 (by decide) rfl ?_
      exact r_iret dL_writeRow_17 rfl (Nat.le_of_ble_eq_true rfl) (Nat.le_of_ble_eq_true rfl) (hQ _ (fun q => absurd q (by decide)) (Or.inl rfl))
    | n + 2, hi => simp at hi
abbrev m_L_writeCard : JM := (yL_writeCard, cL_writeCard, 4, (some .int), [(0, 9, 12, 21), (0, 9, 15, 13)], { frames := 9, cells := 2, slots := 12, locals := 333 })
theorem mb_L_writeCard : SBH m_L_writeCard 3 := ⟨gm 1459 (by decide +kernel) rfl, gm 152 (by decide +kernel) rfl, by decide +kernel, by decide +kernel⟩
theorem ms_L_writeCard : SS m_L_writeCard := gm 1458 (by decide +kernel) rfl
theorem lw_L_365 : LK RL 365 m_L_writeCard := gm 1457 (by decide +kernel) rfl
theorem w_writeCard {r : Int32 ⊕ String} {v : Int32} (hc : Is8 S c L P) (ho : ArE 14 S o 1) (h : s_X8_writeCard I c L P x = some (r, J)) (hR : Res [eIS, eIX] r v t) (hQ : ∀ S2, (t = 0 → S2 = stX S o 0 v.toInt64) → (S2 = S ∨ S2 = stX S o 0 v.toInt64) → Q (.inl (some (.int t))) J S2) : CallH Ω m_L_writeCard [.ref c, .int x, .ref o] I S Q := by
  refine call_ofH (by decide +kernel) (Nat.le_of_ble_eq_true rfl) ?_
  refine r_aload_n (pc' := 1) dL_writeCard_0 rfl 2 rfl rfl ?_
  refine r_iconst (v := 0) (pc' := 2) dL_writeCard_1 rfl rfl ?_
  refine r_aload_n (pc' := 3) dL_writeCard_2 rfl 0 rfl rfl ?_
  refine r_iload_n (pc' := 4) dL_writeCard_3 rfl 1 rfl rfl ?_
  refine r_callV1 (pc' := 7) (k' := 2) (n' := 12) dL_writeCard_4 mb_X8_writeCard mi_X8_writeCard hc.o (by decide) rfl lk_L_158 rfl (Nat.zero_add _) (Nat.zero_add _) (Nat.le_of_ble_eq_true rfl) rfl (c_X8_writeCard hc ho.2.2.2 h ?_)
  cases r with
  | inl v0 =>
    obtain ⟨rfl, rfl⟩ := hR
    refine cpI ?_
    refine r_i2l (pc' := 8) dL_writeCard_7 rfl ?_
    refine r_lastore (pc' := 9) dL_writeCard_8 ho (by unfold vp_in; decide +kernel) rfl ?_
    refine r_goto (tgt := 18) dL_writeCard_9 (by decide) ?_
    refine r_iconst (v := 0) (pc' := 19) dL_writeCard_18 rfl rfl ?_
    exact r_iret dL_writeCard_19 rfl (Nat.le_of_ble_eq_true rfl) (Nat.le_of_ble_eq_true rfl) (hQ _ (fun _ => rfl) (Or.inr rfl))
  | inr E0 =>
    refine cpX ?_
    obtain ⟨i, hi, rfl⟩ := hR
    match i, hi with
    | 0, hi =>
      cases hi
      refine ax_catch (E := eIS) (name := eIS) (hd := (0, 9, 12, 21)) [] [(0, 9, 15, 13)] rfl (fun z hz => absurd hz List.not_mem_nil) rfl (by decide) cl_21 ca_IS (fun q => ?_)
      refine r_astore_n (pc' := 13) dL_writeCard_12 rfl (by decide) rfl rfl ?_
      refine r_iconst (v := nI (0 + 1)) (pc' := 14) dL_writeCard_13 (by decide) rfl ?_
      exact r_iret dL_writeCard_14 rfl (Nat.le_of_ble_eq_true rfl) (Nat.le_of_ble_eq_true rfl) (hQ _ (fun q => absurd q (by decide)) (Or.inl rfl))
    | 1, hi =>
      cases hi
      refine ax_catch (E := eIX) (name := eIX) (hd := (0, 9, 15, 13)) [(0, 9, 12, 21)] [] rfl (List.forall_mem_cons.mpr ⟨⟨by decide, eIS, cl_21, nc_eIX_eIS⟩, fun _ hz => absurd hz List.not_mem_nil⟩) rfl (by decide) cl_13 ca_IX (fun q => ?_)
      refine r_astore_n (pc' := 16) dL_writeCard_15 rfl (by decide) rfl rfl ?_
      refine r_iconst (v := nI (1 + 1)) (pc' := 17) dL_writeCard_16 (by decide) rfl ?_
      exact r_iret dL_writeCard_17 rfl (Nat.le_of_ble_eq_true rfl) (Nat.le_of_ble_eq_true rfl) (hQ _ (fun q => absurd q (by decide)) (Or.inl rfl))
    | n + 2, hi => simp at hi
abbrev m_L_writeDeck : JM := (yL_writeDeck, cL_writeDeck, 3, (some .int), [(0, 8, 11, 21)], { frames := 8, cells := 1, slots := 6, locals := 296 })
theorem mb_L_writeDeck : SBH m_L_writeDeck 2 := ⟨gm 1466 (by decide +kernel) rfl, gm 152 (by decide +kernel) rfl, by decide +kernel, by decide +kernel⟩
theorem ms_L_writeDeck : SS m_L_writeDeck := gm 1465 (by decide +kernel) rfl
theorem lw_L_368 : LK RL 368 m_L_writeDeck := gm 1464 (by decide +kernel) rfl
theorem w_writeDeck {r : Int32 ⊕ String} {v : Int32} (hc : Is8 S c L P) (ho : ArE 14 S o 1) (h : s_X8_writeDeck I c L P = some (r, J)) (hR : Res [eIS] r v t) (hQ : ∀ S2, (t = 0 → S2 = stX S o 0 v.toInt64) → (S2 = S ∨ S2 = stX S o 0 v.toInt64) → Q (.inl (some (.int t))) J S2) : CallH Ω m_L_writeDeck [.ref c, .ref o] I S Q := by
  refine call_ofH (by decide +kernel) (Nat.le_of_ble_eq_true rfl) ?_
  refine r_aload_n (pc' := 1) dL_writeDeck_0 rfl 1 rfl rfl ?_
  refine r_iconst (v := 0) (pc' := 2) dL_writeDeck_1 rfl rfl ?_
  refine r_aload_n (pc' := 3) dL_writeDeck_2 rfl 0 rfl rfl ?_
  refine r_callV0 (pc' := 6) (k' := 1) (n' := 6) dL_writeDeck_3 mb_X8_writeDeck mi_X8_writeDeck hc.o (by decide) rfl lk_L_161 rfl (Nat.zero_add _) (Nat.zero_add _) (Nat.le_of_ble_eq_true rfl) rfl (c_X8_writeDeck hc ho.2.2.2 h ?_)
  cases r with
  | inl v0 =>
    obtain ⟨rfl, rfl⟩ := hR
    refine cpI ?_
    refine r_i2l (pc' := 7) dL_writeDeck_6 rfl ?_
    refine r_lastore (pc' := 8) dL_writeDeck_7 ho (by unfold vp_in; decide +kernel) rfl ?_
    refine r_goto (tgt := 14) dL_writeDeck_8 (by decide) ?_
    refine r_iconst (v := 0) (pc' := 15) dL_writeDeck_14 rfl rfl ?_
    exact r_iret dL_writeDeck_15 rfl (Nat.le_of_ble_eq_true rfl) (Nat.le_of_ble_eq_true rfl) (hQ _ (fun _ => rfl) (Or.inr rfl))
  | inr E0 =>
    refine cpX ?_
    obtain ⟨i, hi, rfl⟩ := hR
    match i, hi with
    | 0, hi =>
      cases hi
      refine ax_catch (E := eIS) (name := eIS) (hd := (0, 8, 11, 21)) [] [] rfl (fun z hz => absurd hz List.not_mem_nil) rfl (by decide) cl_21 ca_IS (fun q => ?_)
      refine r_astore_n (pc' := 12) dL_writeDeck_11 rfl (by decide) rfl rfl ?_
      refine r_iconst (v := nI (0 + 1)) (pc' := 13) dL_writeDeck_12 (by decide) rfl ?_
      exact r_iret dL_writeDeck_13 rfl (Nat.le_of_ble_eq_true rfl) (Nat.le_of_ble_eq_true rfl) (hQ _ (fun q => absurd q (by decide)) (Or.inl rfl))
    | n + 1, hi => simp at hi
abbrev m_L_outputByte : JM := (yL_outputByte, cL_outputByte, 4, (some .int), [(0, 9, 12, 13)], { frames := 8, cells := 1, slots := 6, locals := 296 })
theorem mb_L_outputByte : SBH m_L_outputByte 3 := ⟨gm 1494 (by decide +kernel) rfl, gm 152 (by decide +kernel) rfl, by decide +kernel, by decide +kernel⟩
theorem ms_L_outputByte : SS m_L_outputByte := gm 1493 (by decide +kernel) rfl
theorem lw_L_371 : LK RL 371 m_L_outputByte := gm 1492 (by decide +kernel) rfl
theorem w_outputByte {r : Int32 ⊕ String} {v : Int32} (hc : Is8 S c L P) (ho : ArE 14 S o 1) (h : s_X8_outputByte I c L P x = some (r, J)) (hR : Res [eIX] r v t) (hQ : ∀ S2, (t = 0 → S2 = stX S o 0 v.toInt64) → (S2 = S ∨ S2 = stX S o 0 v.toInt64) → Q (.inl (some (.int t))) J S2) : CallH Ω m_L_outputByte [.ref c, .int x, .ref o] I S Q := by
  refine call_ofH (by decide +kernel) (Nat.le_of_ble_eq_true rfl) ?_
  refine r_aload_n (pc' := 1) dL_outputByte_0 rfl 2 rfl rfl ?_
  refine r_iconst (v := 0) (pc' := 2) dL_outputByte_1 rfl rfl ?_
  refine r_aload_n (pc' := 3) dL_outputByte_2 rfl 0 rfl rfl ?_
  refine r_iload_n (pc' := 4) dL_outputByte_3 rfl 1 rfl rfl ?_
  refine r_callV1 (pc' := 7) (k' := 1) (n' := 6) dL_outputByte_4 mb_X8_outputByte mi_X8_outputByte hc.o (by decide) rfl lk_L_164 rfl (Nat.zero_add _) (Nat.zero_add _) (Nat.le_of_ble_eq_true rfl) rfl (c_X8_outputByte hc ho.2.2.2 h ?_)
  cases r with
  | inl v0 =>
    obtain ⟨rfl, rfl⟩ := hR
    refine cpI ?_
    refine r_i2l (pc' := 8) dL_outputByte_7 rfl ?_
    refine r_lastore (pc' := 9) dL_outputByte_8 ho (by unfold vp_in; decide +kernel) rfl ?_
    refine r_goto (tgt := 15) dL_outputByte_9 (by decide) ?_
    refine r_iconst (v := 0) (pc' := 16) dL_outputByte_15 rfl rfl ?_
    exact r_iret dL_outputByte_16 rfl (Nat.le_of_ble_eq_true rfl) (Nat.le_of_ble_eq_true rfl) (hQ _ (fun _ => rfl) (Or.inr rfl))
  | inr E0 =>
    refine cpX ?_
    obtain ⟨i, hi, rfl⟩ := hR
    match i, hi with
    | 0, hi =>
      cases hi
      refine ax_catch (E := eIX) (name := eIX) (hd := (0, 9, 12, 13)) [] [] rfl (fun z hz => absurd hz List.not_mem_nil) rfl (by decide) cl_13 ca_IX (fun q => ?_)
      refine r_astore_n (pc' := 13) dL_outputByte_12 rfl (by decide) rfl rfl ?_
      refine r_iconst (v := nI (0 + 1)) (pc' := 14) dL_outputByte_13 (by decide) rfl ?_
      exact r_iret dL_outputByte_14 rfl (Nat.le_of_ble_eq_true rfl) (Nat.le_of_ble_eq_true rfl) (hQ _ (fun q => absurd q (by decide)) (Or.inl rfl))
    | n + 1, hi => simp at hi
abbrev m_L_weave : JM := (yL_weave, cL_weave, 4, (some .int), [(0, 9, 12, 21), (0, 9, 15, 15)], { frames := 8, cells := 2, slots := 12, locals := 296 })
theorem mb_L_weave : SBH m_L_weave 3 := ⟨gm 1501 (by decide +kernel) rfl, gm 152 (by decide +kernel) rfl, by decide +kernel, by decide +kernel⟩
theorem ms_L_weave : SS m_L_weave := gm 1500 (by decide +kernel) rfl
theorem lw_L_374 : LK RL 374 m_L_weave := gm 1499 (by decide +kernel) rfl
theorem w_weave {r : Int32 ⊕ String} {v : Int32} (hc : Is8 S c L P) (ho : ArE 14 S o 1) (h : s_X8_weave I c L P x = some (r, J)) (hR : Res [eIS, eIA] r v t) (hQ : ∀ S2, (t = 0 → S2 = stX S o 0 v.toInt64) → (S2 = S ∨ S2 = stX S o 0 v.toInt64) → Q (.inl (some (.int t))) J S2) : CallH Ω m_L_weave [.ref c, .int x, .ref o] I S Q := by
  refine call_ofH (by decide +kernel) (Nat.le_of_ble_eq_true rfl) ?_
  refine r_aload_n (pc' := 1) dL_weave_0 rfl 2 rfl rfl ?_
  refine r_iconst (v := 0) (pc' := 2) dL_weave_1 rfl rfl ?_
  refine r_aload_n (pc' := 3) dL_weave_2 rfl 0 rfl rfl ?_
  refine r_iload_n (pc' := 4) dL_weave_3 rfl 1 rfl rfl ?_
  refine r_callV1 (pc' := 7) (k' := 2) (n' := 12) dL_weave_4 mb_X8_weave mi_X8_weave hc.o (by decide) rfl lk_L_167 rfl (Nat.zero_add _) (Nat.zero_add _) (Nat.le_of_ble_eq_true rfl) rfl (c_X8_weave hc ho.2.2.2 h ?_)
  cases r with
  | inl v0 =>
    obtain ⟨rfl, rfl⟩ := hR
    refine cpI ?_
    refine r_i2l (pc' := 8) dL_weave_7 rfl ?_
    refine r_lastore (pc' := 9) dL_weave_8 ho (by unfold vp_in; decide +kernel) rfl ?_
    refine r_goto (tgt := 18) dL_weave_9 (by decide) ?_
    refine r_iconst (v := 0) (pc' := 19) dL_weave_18 rfl rfl ?_
    exact r_iret dL_weave_19 rfl (Nat.le_of_ble_eq_true rfl) (Nat.le_of_ble_eq_true rfl) (hQ _ (fun _ => rfl) (Or.inr rfl))
  | inr E0 =>
    refine cpX ?_
    obtain ⟨i, hi, rfl⟩ := hR
    match i, hi with
    | 0, hi =>
      cases hi
      refine ax_catch (E := eIS) (name := eIS) (hd := (0, 9, 12, 21)) [] [(0, 9, 15, 15)] rfl (fun z hz => absurd hz List.not_mem_nil) rfl (by decide) cl_21 ca_IS (fun q => ?_)
      refine r_astore_n (pc' := 13) dL_weave_12 rfl (by decide) rfl rfl ?_
      refine r_iconst (v := nI (0 + 1)) (pc' := 14) dL_weave_13 (by decide) rfl ?_
      exact r_iret dL_weave_14 rfl (Nat.le_of_ble_eq_true rfl) (Nat.le_of_ble_eq_true rfl) (hQ _ (fun q => absurd q (by decide)) (Or.inl rfl))
    | 1, hi =>
      cases hi
      refine ax_catch (E := eIA) (name := eIA) (hd := (0, 9, 15, 15)) [(0, 9, 12, 21)] [] rfl (List.forall_mem_cons.mpr ⟨⟨by decide, eIS, cl_21, nc_eIA_eIS⟩, fun _ hz => absurd hz List.not_mem_nil⟩) rfl (by decide) cl_15 ca_IA (fun q => ?_)
      refine r_astore_n (pc' := 16) dL_weave_15 rfl (by decide) rfl rfl ?_
      refine r_iconst (v := nI (1 + 1)) (pc' := 17) dL_weave_16 (by decide) rfl ?_
      exact r_iret dL_weave_17 rfl (Nat.le_of_ble_eq_true rfl) (Nat.le_of_ble_eq_true rfl) (hQ _ (fun q => absurd q (by decide)) (Or.inl rfl))
    | n + 2, hi => simp at hi
abbrev m_L_unweave : JM := (yL_unweave, cL_unweave, 4, (some .int), [(0, 9, 12, 21), (0, 9, 15, 15)], { frames := 8, cells := 2, slots := 12, locals := 296 })
theorem mb_L_unweave : SBH m_L_unweave 3 := ⟨gm 1518 (by decide +kernel) rfl, gm 152 (by decide +kernel) rfl, by decide +kernel, by decide +kernel⟩
theorem ms_L_unweave : SS m_L_unweave := gm 1517 (by decide +kernel) rfl
theorem lw_L_377 : LK RL 377 m_L_unweave := gm 1516 (by decide +kernel) rfl
theorem w_unweave {r : Int32 ⊕ String} {v : Int32} (hc : Is8 S c L P) (ho : ArE 14 S o 1) (h : s_X8_unweave I c L P x = some (r, J)) (hR : Res [eIS, eIA] r v t) (hQ : ∀ S2, (t = 0 → S2 = stX S o 0 v.toInt64) → (S2 = S ∨ S2 = stX S o 0 v.toInt64) → Q (.inl (some (.int t))) J S2) : CallH Ω m_L_unweave [.ref c, .int x, .ref o] I S Q := by
  refine call_ofH (by decide +kernel) (Nat.le_of_ble_eq_true rfl) ?_
  refine r_aload_n (pc' := 1) dL_unweave_0 rfl 2 rfl rfl ?_
  refine r_iconst (v := 0) (pc' := 2) dL_unweave_1 rfl rfl ?_
  refine r_aload_n (pc' := 3) dL_unweave_2 rfl 0 rfl rfl ?_
  refine r_iload_n (pc' := 4) dL_unweave_3 rfl 1 rfl rfl ?_
  refine r_callV1 (pc' := 7) (k' := 2) (n' := 12) dL_unweave_4 mb_X8_unweave mi_X8_unweave hc.o (by decide) rfl lk_L_170 rfl (Nat.zero_add _) (Nat.zero_add _) (Nat.le_of_ble_eq_true rfl) rfl (c_X8_unweave hc ho.2.2.2 h ?_)
  cases r with
  | inl v0 =>
    obtain ⟨rfl, rfl⟩ := hR
    refine cpI ?_
    refine r_i2l (pc' := 8) dL_unweave_7 rfl ?_
    refine r_lastore (pc' := 9) dL_unweave_8 ho (by unfold vp_in; decide +kernel) rfl ?_
    refine r_goto (tgt := 18) dL_unweave_9 (by decide) ?_
    refine r_iconst (v := 0) (pc' := 19) dL_unweave_18 rfl rfl ?_
    exact r_iret dL_unweave_19 rfl (Nat.le_of_ble_eq_true rfl) (Nat.le_of_ble_eq_true rfl) (hQ _ (fun _ => rfl) (Or.inr rfl))
  | inr E0 =>
    refine cpX ?_
    obtain ⟨i, hi, rfl⟩ := hR
    match i, hi with
    | 0, hi =>
      cases hi
      refine ax_catch (E := eIS) (name := eIS) (hd := (0, 9, 12, 21)) [] [(0, 9, 15, 15)] rfl (fun z hz => absurd hz List.not_mem_nil) rfl (by decide) cl_21 ca_IS (fun q => ?_)
      refine r_astore_n (pc' := 13) dL_unweave_12 rfl (by decide) rfl rfl ?_
      refine r_iconst (v := nI (0 + 1)) (pc' := 14) dL_unweave_13 (by decide) rfl ?_
      exact r_iret dL_unweave_14 rfl (Nat.le_of_ble_eq_true rfl) (Nat.le_of_ble_eq_true rfl) (hQ _ (fun q => absurd q (by decide)) (Or.inl rfl))
    | 1, hi =>
      cases hi
      refine ax_catch (E := eIA) (name := eIA) (hd := (0, 9, 15, 15)) [(0, 9, 12, 21)] [] rfl (List.forall_mem_cons.mpr ⟨⟨by decide, eIS, cl_21, nc_eIA_eIS⟩, fun _ hz => absurd hz List.not_mem_nil⟩) rfl (by decide) cl_15 ca_IA (fun q => ?_)
      refine r_astore_n (pc' := 16) dL_unweave_15 rfl (by decide) rfl rfl ?_
      refine r_iconst (v := nI (1 + 1)) (pc' := 17) dL_unweave_16 (by decide) rfl ?_
      exact r_iret dL_unweave_17 rfl (Nat.le_of_ble_eq_true rfl) (Nat.le_of_ble_eq_true rfl) (hQ _ (fun q => absurd q (by decide)) (Or.inl rfl))
    | n + 2, hi => simp at hi
abbrev m_L_swapCards : JM := (yL_swapCards, cL_swapCards, 5, (some .int), [(0, 10, 13, 21), (0, 10, 17, 13)], { frames := 9, cells := 4, slots := 24, locals := 333 })
theorem mb_L_swapCards : SBH m_L_swapCards 4 := ⟨gm 1526 (by decide +kernel) rfl, gm 152 (by decide +kernel) rfl, by decide +kernel, by decide +kernel⟩
theorem ms_L_swapCards : SS m_L_swapCards := gm 1525 (by decide +kernel) rfl
theorem lw_L_380 : LK RL 380 m_L_swapCards := gm 1524 (by decide +kernel) rfl
theorem w_swapCards {r : Int32 ⊕ String} {v : Int32} (hc : Is8 S c L P) (ho : ArE 14 S o 1) (h : s_X8_swapCards I c L P x y = some (r, J)) (hR : Res [eIS, eIX] r v t) (hQ : ∀ S2, (t = 0 → S2 = stX S o 0 v.toInt64) → (S2 = S ∨ S2 = stX S o 0 v.toInt64) → Q (.inl (some (.int t))) J S2) : CallH Ω m_L_swapCards [.ref c, .int x, .int y, .ref o] I S Q := by
  refine call_ofH (by decide +kernel) (Nat.le_of_ble_eq_true rfl) ?_
  refine r_aload_n (pc' := 1) dL_swapCards_0 rfl 3 rfl rfl ?_
  refine r_iconst (v := 0) (pc' := 2) dL_swapCards_1 rfl rfl ?_
  refine r_aload_n (pc' := 3) dL_swapCards_2 rfl 0 rfl rfl ?_
  refine r_iload_n (pc' := 4) dL_swapCards_3 rfl 1 rfl rfl ?_
  refine r_iload_n (pc' := 5) dL_swapCards_4 rfl 2 rfl rfl ?_
  refine r_callV2 (pc' := 8) (k' := 4) (n' := 24) dL_swapCards_5 mb_X8_swapCards mi_X8_swapCards hc.o (by decide) rfl lk_L_173 rfl (Nat.zero_add _) (Nat.zero_add _) (Nat.le_of_ble_eq_true rfl) rfl (c_X8_swapCards hc ho.2.2.2 h ?_)
  cases r with
  | inl v0 =>
    obtain ⟨rfl, rfl⟩ := hR
    refine cpI ?_
    refine r_i2l (pc' := 9) dL_swapCards_8 rfl ?_
    refine r_lastore (pc' := 10) dL_swapCards_9 ho (by unfold vp_in; decide +kernel) rfl ?_
    refine r_goto (tgt := 21) dL_swapCards_10 (by decide) ?_
    refine r_iconst (v := 0) (pc' := 22) dL_swapCards_21 rfl rfl ?_
    exact r_iret dL_swapCards_22 rfl (Nat.le_of_ble_eq_true rfl) (Nat.le_of_ble_eq_true rfl) (hQ _ (fun _ => rfl) (Or.inr rfl))
  | inr E0 =>
    refine cpX ?_
    obtain ⟨i, hi, rfl⟩ := hR
    match i, hi with
    | 0, hi =>
      cases hi
      refine ax_catch (E := eIS) (name := eIS) (hd := (0, 10, 13, 21)) [] [(0, 10, 17, 13)] rfl (fun z hz => absurd hz List.not_mem_nil) rfl (by decide) cl_21 ca_IS (fun q => ?_)
      refine r_astore (pc' := 15) dL_swapCards_13 (by decide) rfl rfl ?_
      refine r_iconst (v := nI (0 + 1)) (pc' := 16) dL_swapCards_15 (by decide) rfl ?_
      exact r_iret dL_swapCards_16 rfl (Nat.le_of_ble_eq_true rfl) (Nat.le_of_ble_eq_true rfl) (hQ _ (fun q => absurd q (by decide)) (Or.inl rfl))
    | 1, hi =>
      cases hi
      refine ax_catch (E := eIX) (name := eIX) (hd := (0, 10, 17, 13)) [(0, 10, 13, 21)] [] rfl (List.forall_mem_cons.mpr ⟨⟨by decide, eIS, cl_21, nc_eIX_eIS⟩, fun _ hz => absurd hz List.not_mem_nil⟩) rfl (by decide) cl_13 ca_IX (fun q => ?_)
      refine r_astore (pc' := 19) dL_swapCards_17 (by decide) rfl rfl ?_
      refine r_iconst (v := nI (1 + 1)) (pc' := 20) dL_swapCards_19 (by decide) rfl ?_
      exact r_iret dL_swapCards_20 rfl (Nat.le_of_ble_eq_true rfl) (Nat.le_of_ble_eq_true rfl) (hQ _ (fun q => absurd q (by decide)) (Or.inl rfl))
    | n + 2, hi => simp at hi
abbrev m_L_punch : JM := (yL_punch, cL_punch, 5, (some .int), [(0, 17, 20, 21), (0, 17, 24, 13)], { frames := 9, cells := 4, slots := 24, locals := 333 })
theorem mb_L_punch : SBH m_L_punch 4 := ⟨gm 1534 (by decide +kernel) rfl, gm 152 (by decide +kernel) rfl, by decide +kernel, by decide +kernel⟩
theorem ms_L_punch : SS m_L_punch := gm 1533 (by decide +kernel) rfl
theorem lw_L_383 : LK RL 383 m_L_punch := gm 1532 (by decide +kernel) rfl
theorem w_punch {r : Bool ⊕ String} {v : Bool} (hc : Is8 S c L P) (ho : ArE 14 S o 1) (h : s_X8_punch I c L P x y = some (r, J)) (hR : Res [eIS, eIX] r v t) (hQ : ∀ S2, (t = 0 → S2 = stX S o 0 (zl v)) → (S2 = S ∨ S2 = stX S o 0 (zl v)) → Q (.inl (some (.int t))) J S2) : CallH Ω m_L_punch [.ref c, .int x, .int y, .ref o] I S Q := by
  refine call_ofH (by decide +kernel) (Nat.le_of_ble_eq_true rfl) ?_
  refine r_aload_n (pc' := 1) dL_punch_0 rfl 3 rfl rfl ?_
  refine r_iconst (v := 0) (pc' := 2) dL_punch_1 rfl rfl ?_
  refine r_aload_n (pc' := 3) dL_punch_2 rfl 0 rfl rfl ?_
  refine r_iload_n (pc' := 4) dL_punch_3 rfl 1 rfl rfl ?_
  refine r_iload_n (pc' := 5) dL_punch_4 rfl 2 rfl rfl ?_
  refine r_callV2 (pc' := 8) (k' := 4) (n' := 24) dL_punch_5 mb_X8_punch mi_X8_punch hc.o (by decide) rfl lk_L_176 rfl (Nat.zero_add _) (Nat.zero_add _) (Nat.le_of_ble_eq_true rfl) rfl (c_X8_punch hc ho.2.2.2 h ?_)
  cases r with
  | inl v0 =>
    obtain ⟨rfl, rfl⟩ := hR
    cases v0 with
    | false =>
      refine cpI (r := 0) ?_
      refine r_if_eq (tgt := 15) (pc' := 11) dL_punch_8 (by decide) rfl (fun _ => ?_) (fun q => absurd rfl q)
      refine r_lconst (v := 0) (pc' := 16) dL_punch_15 rfl rfl ?_
      refine r_lastore (pc' := 17) dL_punch_16 ho (by unfold vp_in; decide +kernel) rfl ?_
      refine r_goto (tgt := 28) dL_punch_17 (by decide) ?_
      refine r_iconst (v := 0) (pc' := 29) dL_punch_28 rfl rfl ?_
      exact r_iret dL_punch_29 rfl (Nat.le_of_ble_eq_true rfl) (Nat.le_of_ble_eq_true rfl) (hQ _ (fun _ => rfl) (Or.inr rfl))
    | true =>
      refine cpI (r := 1) ?_
      refine r_if_eq (tgt := 15) (pc' := 11) dL_punch_8 (by decide) rfl (fun q => absurd q (by decide)) (fun _ => ?_)
      refine r_lconst (v := 1) (pc' := 12) dL_punch_11 rfl rfl ?_
      refine r_goto (tgt := 16) dL_punch_12 (by decide) ?_
      refine r_lastore (pc' := 17) dL_punch_16 ho (by unfold vp_in; decide +kernel) rfl ?_
      refine r_goto (tgt := 28) dL_punch_17 (by decide) ?_
      refine r_iconst (v := 0) (pc' := 29) dL_punch_28 rfl rfl ?_
      exact r_iret dL_punch_29 rfl (Nat.le_of_ble_eq_true rfl) (Nat.le_of_ble_eq_true rfl) (hQ _ (fun _ => rfl) (Or.inr rfl))
  | inr E0 =>
    refine cpX ?_
    obtain ⟨i, hi, rfl⟩ := hR
    match i, hi with
    | 0, hi =>
      cases hi
      refine ax_catch (E := eIS) (name := eIS) (hd := (0, 17, 20, 21)) [] [(0, 17, 24, 13)] rfl (fun z hz => absurd hz List.not_mem_nil) rfl (by decide) cl_21 ca_IS (fun q => ?_)
      refine r_astore (pc' := 22) dL_punch_20 (by decide) rfl rfl ?_
      refine r_iconst (v := nI (0 + 1)) (pc' := 23) dL_punch_22 (by decide) rfl ?_
      exact r_iret dL_punch_23 rfl (Nat.le_of_ble_eq_true rfl) (Nat.le_of_ble_eq_true rfl) (hQ _ (fun q => absurd q (by decide)) (Or.inl rfl))
    | 1, hi =>
      cases hi
      refine ax_catch (E := eIX) (name := eIX) (hd := (0, 17, 24, 13)) [(0, 17, 20, 21)] [] rfl (List.forall_mem_cons.mpr ⟨⟨by decide, eIS, cl_21, nc_eIX_eIS⟩, fun _ hz => absurd hz List.not_mem_nil⟩) rfl (by decide) cl_13 ca_IX (fun q => ?_)
      refine r_astore (pc' := 26) dL_punch_24 (by decide) rfl rfl ?_
      refine r_iconst (v := nI (1 + 1)) (pc' := 27) dL_punch_26 (by decide) rfl ?_
      exact r_iret dL_punch_27 rfl (Nat.le_of_ble_eq_true rfl) (Nat.le_of_ble_eq_true rfl) (hQ _ (fun q => absurd q (by decide)) (Or.inl rfl))
    | n + 2, hi => simp at hi
abbrev m_L_setCardColour : JM := (yL_setCardColour, cL_setCardColour, 5, (some .int), [(0, 10, 13, 21), (0, 10, 17, 13), (0, 10, 21, 15)], { frames := 9, cells := 4, slots := 24, locals := 333 })
theorem mb_L_setCardColour : SBH m_L_setCardColour 4 := ⟨gm 1542 (by decide +kernel) rfl, gm 152 (by decide +kernel) rfl, by decide +kernel, by decide +kernel⟩
theorem ms_L_setCardColour : SS m_L_setCardColour := gm 1541 (by decide +kernel) rfl
theorem lw_L_386 : LK RL 386 m_L_setCardColour := gm 1540 (by decide +kernel) rfl
theorem w_setCardColour {r : Int32 ⊕ String} {v : Int32} (hc : Is8 S c L P) (ho : ArE 14 S o 1) (h : s_X8_setCardColour I c L P x y = some (r, J)) (hR : Res [eIS, eIX, eIA] r v t) (hQ : ∀ S2, (t = 0 → S2 = stX S o 0 v.toInt64) → (S2 = S ∨ S2 = stX S o 0 v.toInt64) → Q (.inl (some (.int t))) J S2) : CallH Ω m_L_setCardColour [.ref c, .int x, .int y, .ref o] I S Q := by
  refine call_ofH (by decide +kernel) (Nat.le_of_ble_eq_true rfl) ?_
  refine r_aload_n (pc' := 1) dL_setCardColour_0 rfl 3 rfl rfl ?_
  refine r_iconst (v := 0) (pc' := 2) dL_setCardColour_1 rfl rfl ?_
  refine r_aload_n (pc' := 3) dL_setCardColour_2 rfl 0 rfl rfl ?_
  refine r_iload_n (pc' := 4) dL_setCardColour_3 rfl 1 rfl rfl ?_
  refine r_iload_n (pc' := 5) dL_setCardColour_4 rfl 2 rfl rfl ?_
  refine r_callV2 (pc' := 8) (k' := 4) (n' := 24) dL_setCardColour_5 mb_X8_setCardColour mi_X8_setCardColour hc.o (by decide) rfl lk_L_179 rfl (Nat.zero_add _) (Nat.zero_add _) (Nat.le_of_ble_eq_true rfl) rfl (c_X8_setCardColour hc ho.2.2.2 h ?_)
  cases r with
  | inl v0 =>
    obtain ⟨rfl, rfl⟩ := hR
    refine cpI ?_
    refine r_i2l (pc' := 9) dL_setCardColour_8 rfl ?_
    refine r_lastore (pc' := 10) dL_setCardColour_9 ho (by unfold vp_in; decide +kernel) rfl ?_
    refine r_goto (tgt := 25) dL_setCardColour_10 (by decide) ?_
    refine r_iconst (v := 0) (pc' := 26) dL_setCardColour_25 rfl rfl ?_
    exact r_iret dL_setCardColour_26 rfl (Nat.le_of_ble_eq_true rfl) (Nat.le_of_ble_eq_true rfl) (hQ _ (fun _ => rfl) (Or.inr rfl))
  | inr E0 =>
    refine cpX ?_
    obtain ⟨i, hi, rfl⟩ := hR
    match i, hi with
    | 0, hi =>
      cases hi
      refine ax_catch (E := eIS) (name := eIS) (hd := (0, 10, 13, 21)) [] [(0, 10, 17, 13), (0, 10, 21, 15)] rfl (fun z hz => absurd hz List.not_mem_nil) rfl (by decide) cl_21 ca_IS (fun q => ?_)
      refine r_astore (pc' := 15) dL_setCardColour_13 (by decide) rfl rfl ?_
      refine r_iconst (v := nI (0 + 1)) (pc' := 16) dL_setCardColour_15 (by decide) rfl ?_
      exact r_iret dL_setCardColour_16 rfl (Nat.le_of_ble_eq_true rfl) (Nat.le_of_ble_eq_true rfl) (hQ _ (fun q => absurd q (by decide)) (Or.inl rfl))
    | 1, hi =>
      cases hi
      refine ax_catch (E := eIX) (name := eIX) (hd := (0, 10, 17, 13)) [(0, 10, 13, 21)] [(0, 10, 21, 15)] rfl (List.forall_mem_cons.mpr ⟨⟨by decide, eIS, cl_21, nc_eIX_eIS⟩, fun _ hz => absurd hz List.not_mem_nil⟩) rfl (by decide) cl_13 ca_IX (fun q => ?_)
      refine r_astore (pc' := 19) dL_setCardColour_17 (by decide) rfl rfl ?_
      refine r_iconst (v := nI (1 + 1)) (pc' := 20) dL_setCardColour_19 (by decide) rfl ?_
      exact r_iret dL_setCardColour_20 rfl (Nat.le_of_ble_eq_true rfl) (Nat.le_of_ble_eq_true rfl) (hQ _ (fun q => absurd q (by decide)) (Or.inl rfl))
    | 2, hi =>
      cases hi
      refine ax_catch (E := eIA) (name := eIA) (hd := (0, 10, 21, 15)) [(0, 10, 13, 21), (0, 10, 17, 13)] [] rfl (List.forall_mem_cons.mpr ⟨⟨by decide, eIS, cl_21, nc_eIA_eIS⟩, List.forall_mem_cons.mpr ⟨⟨by decide, eIX, cl_13, nc_eIA_eIX⟩, fun _ hz => absurd hz List.not_mem_nil⟩⟩) rfl (by decide) cl_15 ca_IA (fun q => ?_)
      refine r_astore (pc' := 23) dL_setCardColour_21 (by decide) rfl rfl ?_
      refine r_iconst (v := nI (2 + 1)) (pc' := 24) dL_setCardColour_23 (by decide) rfl ?_
      exact r_iret dL_setCardColour_24 rfl (Nat.le_of_ble_eq_true rfl) (Nat.le_of_ble_eq_true rfl) (hQ _ (fun q => absurd q (by decide)) (Or.inl rfl))
    | n + 3, hi => simp at hi
abbrev m_L_bringYarn : JM := (yL_bringYarn, cL_bringYarn, 5, (some .int), [(0, 10, 13, 21), (0, 10, 17, 15)], { frames := 9, cells := 3, slots := 18, locals := 333 })
theorem mb_L_bringYarn : SBH m_L_bringYarn 4 := ⟨gm 1550 (by decide +kernel) rfl, gm 152 (by decide +kernel) rfl, by decide +kernel, by decide +kernel⟩
theorem ms_L_bringYarn : SS m_L_bringYarn := gm 1549 (by decide +kernel) rfl
theorem lw_L_389 : LK RL 389 m_L_bringYarn := gm 1548 (by decide +kernel) rfl
theorem w_bringYarn {r : Int32 ⊕ String} {v : Int32} (hc : Is8 S c L P) (ho : ArE 14 S o 1) (h : s_X8_bringYarn I c L P x y = some (r, J)) (hR : Res [eIS, eIA] r v t) (hQ : ∀ S2, (t = 0 → S2 = stX S o 0 v.toInt64) → (S2 = S ∨ S2 = stX S o 0 v.toInt64) → Q (.inl (some (.int t))) J S2) : CallH Ω m_L_bringYarn [.ref c, .int x, .int y, .ref o] I S Q := by
  refine call_ofH (by decide +kernel) (Nat.le_of_ble_eq_true rfl) ?_
  refine r_aload_n (pc' := 1) dL_bringYarn_0 rfl 3 rfl rfl ?_
  refine r_iconst (v := 0) (pc' := 2) dL_bringYarn_1 rfl rfl ?_
  refine r_aload_n (pc' := 3) dL_bringYarn_2 rfl 0 rfl rfl ?_
  refine r_iload_n (pc' := 4) dL_bringYarn_3 rfl 1 rfl rfl ?_
  refine r_iload_n (pc' := 5) dL_bringYarn_4 rfl 2 rfl rfl ?_
  refine r_callV2 (pc' := 8) (k' := 3) (n' := 18) dL_bringYarn_5 mb_X8_bringYarn mi_X8_bringYarn hc.o (by decide) rfl lk_L_182 rfl (Nat.zero_add _) (Nat.zero_add _) (Nat.le_of_ble_eq_true rfl) rfl (c_X8_bringYarn hc ho.2.2.2 h ?_)
  cases r with
  | inl v0 =>
    obtain ⟨rfl, rfl⟩ := hR
    refine cpI ?_
    refine r_i2l (pc' := 9) dL_bringYarn_8 rfl ?_
    refine r_lastore (pc' := 10) dL_bringYarn_9 ho (by unfold vp_in; decide +kernel) rfl ?_
    refine r_goto (tgt := 21) dL_bringYarn_10 (by decide) ?_
    refine r_iconst (v := 0) (pc' := 22) dL_bringYarn_21 rfl rfl ?_
    exact r_iret dL_bringYarn_22 rfl (Nat.le_of_ble_eq_true rfl) (Nat.le_of_ble_eq_true rfl) (hQ _ (fun _ => rfl) (Or.inr rfl))
  | inr E0 =>
    refine cpX ?_
    obtain ⟨i, hi, rfl⟩ := hR
    match i, hi with
    | 0, hi =>
      cases hi
      refine ax_catch (E := eIS) (name := eIS) (hd := (0, 10, 13, 21)) [] [(0, 10, 17, 15)] rfl (fun z hz => absurd hz List.not_mem_nil) rfl (by decide) cl_21 ca_IS (fun q => ?_)
      refine r_astore (pc' := 15) dL_bringYarn_13 (by decide) rfl rfl ?_
      refine r_iconst (v := nI (0 + 1)) (pc' := 16) dL_bringYarn_15 (by decide) rfl ?_
      exact r_iret dL_bringYarn_16 rfl (Nat.le_of_ble_eq_true rfl) (Nat.le_of_ble_eq_true rfl) (hQ _ (fun q => absurd q (by decide)) (Or.inl rfl))
    | 1, hi =>
      cases hi
      refine ax_catch (E := eIA) (name := eIA) (hd := (0, 10, 17, 15)) [(0, 10, 13, 21)] [] rfl (List.forall_mem_cons.mpr ⟨⟨by decide, eIS, cl_21, nc_eIA_eIS⟩, fun _ hz => absurd hz List.not_mem_nil⟩) rfl (by decide) cl_15 ca_IA (fun q => ?_)
      refine r_astore (pc' := 19) dL_bringYarn_17 (by decide) rfl rfl ?_
      refine r_iconst (v := nI (1 + 1)) (pc' := 20) dL_bringYarn_19 (by decide) rfl ?_
      exact r_iret dL_bringYarn_20 rfl (Nat.le_of_ble_eq_true rfl) (Nat.le_of_ble_eq_true rfl) (hQ _ (fun q => absurd q (by decide)) (Or.inl rfl))
    | n + 2, hi => simp at hi
abbrev m_L_oil : JM := (yL_oil, cL_oil, 4, (some .int), [(0, 9, 12, 21), (0, 9, 15, 13)], { frames := 9, cells := 2, slots := 12, locals := 333 })
theorem mb_L_oil : SBH m_L_oil 3 := ⟨gm 1558 (by decide +kernel) rfl, gm 152 (by decide +kernel) rfl, by decide +kernel, by decide +kernel⟩
theorem ms_L_oil : SS m_L_oil := gm 1557 (by decide +kernel) rfl
theorem lw_L_392 : LK RL 392 m_L_oil := gm 1556 (by decide +kernel) rfl
theorem w_oil {r : Int32 ⊕ String} {v : Int32} (hc : Is8 S c L P) (ho : ArE 14 S o 1) (h : s_X8_oil I c L P x = some (r, J)) (hR : Res [eIS, eIX] r v t) (hQ : ∀ S2, (t = 0 → S2 = stX S o 0 v.toInt64) → (S2 = S ∨ S2 = stX S o 0 v.toInt64) → Q (.inl (some (.int t))) J S2) : CallH Ω m_L_oil [.ref c, .int x, .ref o] I S Q := by
  refine call_ofH (by decide +kernel) (Nat.le_of_ble_eq_true rfl) ?_
  refine r_aload_n (pc' := 1) dL_oil_0 rfl 2 rfl rfl ?_
  refine r_iconst (v := 0) (pc' := 2) dL_oil_1 rfl rfl ?_
  refine r_aload_n (pc' := 3) dL_oil_2 rfl 0 rfl rfl ?_
  refine r_iload_n (pc' := 4) dL_oil_3 rfl 1 rfl rfl ?_
  refine r_callV1 (pc' := 7) (k' := 2) (n' := 12) dL_oil_4 mb_X8_oil mi_X8_oil hc.o (by decide) rfl lk_L_185 rfl (Nat.zero_add _) (Nat.zero_add _) (Nat.le_of_ble_eq_true rfl) rfl (c_X8_oil hc ho.2.2.2 h ?_)
  cases r with
  | inl v0 =>
    obtain ⟨rfl, rfl⟩ := hR
    refine cpI ?_
    refine r_i2l (pc' := 8) dL_oil_7 rfl ?_
    refine r_lastore (pc' := 9) dL_oil_8 ho (by unfold vp_in; decide +kernel) rfl ?_
    refine r_goto (tgt := 18) dL_oil_9 (by decide) ?_
    refine r_iconst (v := 0) (pc' := 19) dL_oil_18 rfl rfl ?_
    exact r_iret dL_oil_19 rfl (Nat.le_of_ble_eq_true rfl) (Nat.le_of_ble_eq_true rfl) (hQ _ (fun _ => rfl) (Or.inr rfl))
  | inr E0 =>
    refine cpX ?_
    obtain ⟨i, hi, rfl⟩ := hR
    match i, hi with
    | 0, hi =>
      cases hi
      refine ax_catch (E := eIS) (name := eIS) (hd := (0, 9, 12, 21)) [] [(0, 9, 15, 13)] rfl (fun z hz => absurd hz List.not_mem_nil) rfl (by decide) cl_21 ca_IS (fun q => ?_)
      refine r_astore_n (pc' := 13) dL_oil_12 rfl (by decide) rfl rfl ?_
      refine r_iconst (v := nI (0 + 1)) (pc' := 14) dL_oil_13 (by decide) rfl ?_
      exact r_iret dL_oil_14 rfl (Nat.le_of_ble_eq_true rfl) (Nat.le_of_ble_eq_true rfl) (hQ _ (fun q => absurd q (by decide)) (Or.inl rfl))
    | 1, hi =>
      cases hi
      refine ax_catch (E := eIX) (name := eIX) (hd := (0, 9, 15, 13)) [(0, 9, 12, 21)] [] rfl (List.forall_mem_cons.mpr ⟨⟨by decide, eIS, cl_21, nc_eIX_eIS⟩, fun _ hz => absurd hz List.not_mem_nil⟩) rfl (by decide) cl_13 ca_IX (fun q => ?_)
      refine r_astore_n (pc' := 16) dL_oil_15 rfl (by decide) rfl rfl ?_
      refine r_iconst (v := nI (1 + 1)) (pc' := 17) dL_oil_16 (by decide) rfl ?_
      exact r_iret dL_oil_17 rfl (Nat.le_of_ble_eq_true rfl) (Nat.le_of_ble_eq_true rfl) (hQ _ (fun q => absurd q (by decide)) (Or.inl rfl))
    | n + 2, hi => simp at hi
abbrev m_L_mend : JM := (yL_mend, cL_mend, 4, (some .int), [(0, 9, 12, 21), (0, 9, 15, 13), (0, 9, 18, 15)], { frames := 9, cells := 3, slots := 18, locals := 333 })
theorem mb_L_mend : SBH m_L_mend 3 := ⟨gm 1566 (by decide +kernel) rfl, gm 152 (by decide +kernel) rfl, by decide +kernel, by decide +kernel⟩
theorem ms_L_mend : SS m_L_mend := gm 1565 (by decide +kernel) rfl
theorem lw_L_395 : LK RL 395 m_L_mend := gm 1564 (by decide +kernel) rfl
theorem w_mend {r : Int32 ⊕ String} {v : Int32} (hc : Is8 S c L P) (ho : ArE 14 S o 1) (h : s_X8_mend I c L P x = some (r, J)) (hR : Res [eIS, eIX, eIA] r v t) (hQ : ∀ S2, (t = 0 → S2 = stX S o 0 v.toInt64) → (S2 = S ∨ S2 = stX S o 0 v.toInt64) → Q (.inl (some (.int t))) J S2) : CallH Ω m_L_mend [.ref c, .int x, .ref o] I S Q := by
  refine call_ofH (by decide +kernel) (Nat.le_of_ble_eq_true rfl) ?_
  refine r_aload_n (pc' := 1) dL_mend_0 rfl 2 rfl rfl ?_
  refine r_iconst (v := 0) (pc' := 2) dL_mend_1 rfl rfl ?_
  refine r_aload_n (pc' := 3) dL_mend_2 rfl 0 rfl rfl ?_
  refine r_iload_n (pc' := 4) dL_mend_3 rfl 1 rfl rfl ?_
  refine r_callV1 (pc' := 7) (k' := 3) (n' := 18) dL_mend_4 mb_X8_mend mi_X8_mend hc.o (by decide) rfl lk_L_188 rfl (Nat.zero_add _) (Nat.zero_add _) (Nat.le_of_ble_eq_true rfl) rfl (c_X8_mend hc ho.2.2.2 h ?_)
  cases r with
  | inl v0 =>
    obtain ⟨rfl, rfl⟩ := hR
    refine cpI ?_
    refine r_i2l (pc' := 8) dL_mend_7 rfl ?_
    refine r_lastore (pc' := 9) dL_mend_8 ho (by unfold vp_in; decide +kernel) rfl ?_
    refine r_goto (tgt := 21) dL_mend_9 (by decide) ?_
    refine r_iconst (v := 0) (pc' := 22) dL_mend_21 rfl rfl ?_
    exact r_iret dL_mend_22 rfl (Nat.le_of_ble_eq_true rfl) (Nat.le_of_ble_eq_true rfl) (hQ _ (fun _ => rfl) (Or.inr rfl))
  | inr E0 =>
    refine cpX ?_
    obtain ⟨i, hi, rfl⟩ := hR
    match i, hi with
    | 0, hi =>
      cases hi
      refine ax_catch (E := eIS) (name := eIS) (hd := (0, 9, 12, 21)) [] [(0, 9, 15, 13), (0, 9, 18, 15)] rfl (fun z hz => absurd hz List.not_mem_nil) rfl (by decide) cl_21 ca_IS (fun q => ?_)
      refine r_astore_n (pc' := 13) dL_mend_12 rfl (by decide) rfl rfl ?_
      refine r_iconst (v := nI (0 + 1)) (pc' := 14) dL_mend_13 (by decide) rfl ?_
      exact r_iret dL_mend_14 rfl (Nat.le_of_ble_eq_true rfl) (Nat.le_of_ble_eq_true rfl) (hQ _ (fun q => absurd q (by decide)) (Or.inl rfl))
    | 1, hi =>
      cases hi
      refine ax_catch (E := eIX) (name := eIX) (hd := (0, 9, 15, 13)) [(0, 9, 12, 21)] [(0, 9, 18, 15)] rfl (List.forall_mem_cons.mpr ⟨⟨by decide, eIS, cl_21, nc_eIX_eIS⟩, fun _ hz => absurd hz List.not_mem_nil⟩) rfl (by decide) cl_13 ca_IX (fun q => ?_)
      refine r_astore_n (pc' := 16) dL_mend_15 rfl (by decide) rfl rfl ?_
      refine r_iconst (v := nI (1 + 1)) (pc' := 17) dL_mend_16 (by decide) rfl ?_
      exact r_iret dL_mend_17 rfl (Nat.le_of_ble_eq_true rfl) (Nat.le_of_ble_eq_true rfl) (hQ _ (fun q => absurd q (by decide)) (Or.inl rfl))
    | 2, hi =>
      cases hi
      refine ax_catch (E := eIA) (name := eIA) (hd := (0, 9, 18, 15)) [(0, 9, 12, 21), (0, 9, 15, 13)] [] rfl (List.forall_mem_cons.mpr ⟨⟨by decide, eIS, cl_21, nc_eIA_eIS⟩, List.forall_mem_cons.mpr ⟨⟨by decide, eIX, cl_13, nc_eIA_eIX⟩, fun _ hz => absurd hz List.not_mem_nil⟩⟩) rfl (by decide) cl_15 ca_IA (fun q => ?_)
      refine r_astore_n (pc' := 19) dL_mend_18 rfl (by decide) rfl rfl ?_
      refine r_iconst (v := nI (2 + 1)) (pc' := 20) dL_mend_19 (by decide) rfl ?_
      exact r_iret dL_mend_20 rfl (Nat.le_of_ble_eq_true rfl) (Nat.le_of_ble_eq_true rfl) (hQ _ (fun q => absurd q (by decide)) (Or.inl rfl))
    | n + 3, hi => simp at hi
abbrev m_L_undo : JM := (yL_undo, cL_undo, 3, (some .int), [(0, 8, 11, 21)], { frames := 7, cells := 1, slots := 6, locals := 259 })
theorem mb_L_undo : SBH m_L_undo 2 := ⟨gm 1575 (by decide +kernel) rfl, gm 152 (by decide +kernel) rfl, by decide +kernel, by decide +kernel⟩
theorem ms_L_undo : SS m_L_undo := gm 1574 (by decide +kernel) rfl
theorem lw_L_398 : LK RL 398 m_L_undo := gm 1573 (by decide +kernel) rfl
theorem w_undo {r : Int32 ⊕ String} {v : Int32} (hc : Is8 S c L P) (ho : ArE 14 S o 1) (h : s_X8_undo I c L P = some (r, J)) (hR : Res [eIS] r v t) (hQ : ∀ S2, (t = 0 → S2 = stX S o 0 v.toInt64) → (S2 = S ∨ S2 = stX S o 0 v.toInt64) → Q (.inl (some (.int t))) J S2) : CallH Ω m_L_undo [.ref c, .ref o] I S Q := by
  refine call_ofH (by decide +kernel) (Nat.le_of_ble_eq_true rfl) ?_
  refine r_aload_n (pc' := 1) dL_undo_0 rfl 1 rfl rfl ?_
  refine r_iconst (v := 0) (pc' := 2) dL_undo_1 rfl rfl ?_
  refine r_aload_n (pc' := 3) dL_undo_2 rfl 0 rfl rfl ?_
  refine r_callV0 (pc' := 6) (k' := 1) (n' := 6) dL_undo_3 mb_X8_undo mi_X8_undo hc.o (by decide) rfl lk_L_191 rfl (Nat.zero_add _) (Nat.zero_add _) (Nat.le_of_ble_eq_true rfl) rfl (c_X8_undo hc ho.2.2.2 h ?_)
  cases r with
  | inl v0 =>
    obtain ⟨rfl, rfl⟩ := hR
    refine cpI ?_
    refine r_i2l (pc' := 7) dL_undo_6 rfl ?_
    refine r_lastore (pc' := 8) dL_undo_7 ho (by unfold vp_in; decide +kernel) rfl ?_
    refine r_goto (tgt := 14) dL_undo_8 (by decide) ?_
    refine r_iconst (v := 0) (pc' := 15) dL_undo_14 rfl rfl ?_
    exact r_iret dL_undo_15 rfl (Nat.le_of_ble_eq_true rfl) (Nat.le_of_ble_eq_true rfl) (hQ _ (fun _ => rfl) (Or.inr rfl))
  | inr E0 =>
    refine cpX ?_
    obtain ⟨i, hi, rfl⟩ := hR
    match i, hi with
    | 0, hi =>
      cases hi
      refine ax_catch (E := eIS) (name := eIS) (hd := (0, 8, 11, 21)) [] [] rfl (fun z hz => absurd hz List.not_mem_nil) rfl (by decide) cl_21 ca_IS (fun q => ?_)
      refine r_astore_n (pc' := 12) dL_undo_11 rfl (by decide) rfl rfl ?_
      refine r_iconst (v := nI (0 + 1)) (pc' := 13) dL_undo_12 (by decide) rfl ?_
      exact r_iret dL_undo_13 rfl (Nat.le_of_ble_eq_true rfl) (Nat.le_of_ble_eq_true rfl) (hQ _ (fun q => absurd q (by decide)) (Or.inl rfl))
    | n + 1, hi => simp at hi
abbrev m_L_saveState : JM := (yL_saveState, cL_saveState, 4, (some .int), [(0, 9, 12, 21), (0, 9, 15, 13)], { frames := 8, cells := 2, slots := 12, locals := 296 })
theorem mb_L_saveState : SBH m_L_saveState 3 := ⟨gm 1587 (by decide +kernel) rfl, gm 152 (by decide +kernel) rfl, by decide +kernel, by decide +kernel⟩
theorem ms_L_saveState : SS m_L_saveState := gm 1586 (by decide +kernel) rfl
theorem lw_L_405 : LK RL 405 m_L_saveState := gm 1585 (by decide +kernel) rfl
theorem w_saveState {r : Int32 ⊕ String} {v : Int32} (hc : Is8 S c L P) (ho : ArE 14 S o 1) (h : s_X8_saveState I c L P x = some (r, J)) (hR : Res [eIS, eIX] r v t) (hQ : ∀ S2, (t = 0 → S2 = stX S o 0 v.toInt64) → (S2 = S ∨ S2 = stX S o 0 v.toInt64) → Q (.inl (some (.int t))) J S2) : CallH Ω m_L_saveState [.ref c, .int x, .ref o] I S Q := by
  refine call_ofH (by decide +kernel) (Nat.le_of_ble_eq_true rfl) ?_
  refine r_aload_n (pc' := 1) dL_saveState_0 rfl 2 rfl rfl ?_
  refine r_iconst (v := 0) (pc' := 2) dL_saveState_1 rfl rfl ?_
  refine r_aload_n (pc' := 3) dL_saveState_2 rfl 0 rfl rfl ?_
  refine r_iload_n (pc' := 4) dL_saveState_3 rfl 1 rfl rfl ?_
  refine r_callV1 (pc' := 7) (k' := 2) (n' := 12) dL_saveState_4 mb_X8_saveState mi_X8_saveState hc.o (by decide) rfl lk_L_194 rfl (Nat.zero_add _) (Nat.zero_add _) (Nat.le_of_ble_eq_true rfl) rfl (c_X8_saveState hc ho.2.2.2 h ?_)
  cases r with
  | inl v0 =>
    obtain ⟨rfl, rfl⟩ := hR
    refine cpI ?_
    refine r_i2l (pc' := 8) dL_saveState_7 rfl ?_
    refine r_lastore (pc' := 9) dL_saveState_8 ho (by unfold vp_in; decide +kernel) rfl ?_
    refine r_goto (tgt := 18) dL_saveState_9 (by decide) ?_
    refine r_iconst (v := 0) (pc' := 19) dL_saveState_18 rfl rfl ?_
    exact r_iret dL_saveState_19 rfl (Nat.le_of_ble_eq_true rfl) (Nat.le_of_ble_eq_true rfl) (hQ _ (fun _ => rfl) (Or.inr rfl))
  | inr E0 =>
    refine cpX ?_
    obtain ⟨i, hi, rfl⟩ := hR
    match i, hi with
    | 0, hi =>
      cases hi
      refine ax_catch (E := eIS) (name := eIS) (hd := (0, 9, 12, 21)) [] [(0, 9, 15, 13)] rfl (fun z hz => absurd hz List.not_mem_nil) rfl (by decide) cl_21 ca_IS (fun q => ?_)
      refine r_astore_n (pc' := 13) dL_saveState_12 rfl (by decide) rfl rfl ?_
      refine r_iconst (v := nI (0 + 1)) (pc' := 14) dL_saveState_13 (by decide) rfl ?_
      exact r_iret dL_saveState_14 rfl (Nat.le_of_ble_eq_true rfl) (Nat.le_of_ble_eq_true rfl) (hQ _ (fun q => absurd q (by decide)) (Or.inl rfl))
    | 1, hi =>
      cases hi
      refine ax_catch (E := eIX) (name := eIX) (hd := (0, 9, 15, 13)) [(0, 9, 12, 21)] [] rfl (List.forall_mem_cons.mpr ⟨⟨by decide, eIS, cl_21, nc_eIX_eIS⟩, fun _ hz => absurd hz List.not_mem_nil⟩) rfl (by decide) cl_13 ca_IX (fun q => ?_)
      refine r_astore_n (pc' := 16) dL_saveState_15 rfl (by decide) rfl rfl ?_
      refine r_iconst (v := nI (1 + 1)) (pc' := 17) dL_saveState_16 (by decide) rfl ?_
      exact r_iret dL_saveState_17 rfl (Nat.le_of_ble_eq_true rfl) (Nat.le_of_ble_eq_true rfl) (hQ _ (fun q => absurd q (by decide)) (Or.inl rfl))
    | n + 2, hi => simp at hi
abbrev m_L_restoreState : JM := (yL_restoreState, cL_restoreState, 4, (some .int), [(0, 9, 12, 13), (0, 9, 15, 21)], { frames := 8, cells := 2, slots := 12, locals := 296 })
theorem mb_L_restoreState : SBH m_L_restoreState 3 := ⟨gm 1594 (by decide +kernel) rfl, gm 152 (by decide +kernel) rfl, by decide +kernel, by decide +kernel⟩
theorem ms_L_restoreState : SS m_L_restoreState := gm 1593 (by decide +kernel) rfl
theorem lw_L_408 : LK RL 408 m_L_restoreState := gm 1592 (by decide +kernel) rfl
theorem w_restoreState {r : Int32 ⊕ String} {v : Int32} (hc : Is8 S c L P) (ho : ArE 14 S o 1) (h : s_X8_restoreState I c L P x = some (r, J)) (hR : Res [eIX, eIS] r v t) (hQ : ∀ S2, (t = 0 → S2 = stX S o 0 v.toInt64) → (S2 = S ∨ S2 = stX S o 0 v.toInt64) → Q (.inl (some (.int t))) J S2) : CallH Ω m_L_restoreState [.ref c, .int x, .ref o] I S Q := by
  refine call_ofH (by decide +kernel) (Nat.le_of_ble_eq_true rfl) ?_
  refine r_aload_n (pc' := 1) dL_restoreState_0 rfl 2 rfl rfl ?_
  refine r_iconst (v := 0) (pc' := 2) dL_restoreState_1 rfl rfl ?_
  refine r_aload_n (pc' := 3) dL_restoreState_2 rfl 0 rfl rfl ?_
  refine r_iload_n (pc' := 4) dL_restoreState_3 rfl 1 rfl rfl ?_
  refine r_callV1 (pc' := 7) (k' := 2) (n' := 12) dL_restoreState_4 mb_X8_restoreState mi_X8_restoreState hc.o (by decide) rfl lk_L_197 rfl (Nat.zero_add _) (Nat.zero_add _) (Nat.le_of_ble_eq_true rfl) rfl (c_X8_restoreState hc ho.2.2.2 h ?_)
  cases r with
  | inl v0 =>
    obtain ⟨rfl, rfl⟩ := hR
    refine cpI ?_
    refine r_i2l (pc' := 8) dL_restoreState_7 rfl ?_
    refine r_lastore (pc' := 9) dL_restoreState_8 ho (by unfold vp_in; decide +kernel) rfl ?_
    refine r_goto (tgt := 18) dL_restoreState_9 (by decide) ?_
    refine r_iconst (v := 0) (pc' := 19) dL_restoreState_18 rfl rfl ?_
    exact r_iret dL_restoreState_19 rfl (Nat.le_of_ble_eq_true rfl) (Nat.le_of_ble_eq_true rfl) (hQ _ (fun _ => rfl) (Or.inr rfl))
  | inr E0 =>
    refine cpX ?_
    obtain ⟨i, hi, rfl⟩ := hR
    match i, hi with
    | 0, hi =>
      cases hi
      refine ax_catch (E := eIX) (name := eIX) (hd := (0, 9, 12, 13)) [] [(0, 9, 15, 21)] rfl (fun z hz => absurd hz List.not_mem_nil) rfl (by decide) cl_13 ca_IX (fun q => ?_)
      refine r_astore_n (pc' := 13) dL_restoreState_12 rfl (by decide) rfl rfl ?_
      refine r_iconst (v := nI (0 + 1)) (pc' := 14) dL_restoreState_13 (by decide) rfl ?_
      exact r_iret dL_restoreState_14 rfl (Nat.le_of_ble_eq_true rfl) (Nat.le_of_ble_eq_true rfl) (hQ _ (fun q => absurd q (by decide)) (Or.inl rfl))
    | 1, hi =>
      cases hi
      refine ax_catch (E := eIS) (name := eIS) (hd := (0, 9, 15, 21)) [(0, 9, 12, 13)] [] rfl (List.forall_mem_cons.mpr ⟨⟨by decide, eIX, cl_13, nc_eIS_eIX⟩, fun _ hz => absurd hz List.not_mem_nil⟩) rfl (by decide) cl_21 ca_IS (fun q => ?_)
      refine r_astore_n (pc' := 16) dL_restoreState_15 rfl (by decide) rfl rfl ?_
      refine r_iconst (v := nI (1 + 1)) (pc' := 17) dL_restoreState_16 (by decide) rfl ?_
      exact r_iret dL_restoreState_17 rfl (Nat.le_of_ble_eq_true rfl) (Nat.le_of_ble_eq_true rfl) (hQ _ (fun q => absurd q (by decide)) (Or.inl rfl))
    | n + 2, hi => simp at hi
end WRAP
