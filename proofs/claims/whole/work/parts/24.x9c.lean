noncomputable def s_X9_picksOf (m : Nat) (x1 : Int32) (x2 : Int32) : Int32 :=
  if x1 = 200 then ((2 * x2) - 1) else (if x1 = 201 then x2 else (x2 * (x1 - 100)))
set_option maxHeartbeats 4000000 in
theorem c_X9_picksOf {Ω : JO} {I : JI} {S : JS} {Q : JQ} {m : Nat} {x1 : Int32} {x2 : Int32} {r : Int32} (hm : Is9 S m) (h : s_X9_picksOf m x1 x2 = r) (hQ : Q (.inl (some (.int r))) I S) : Call Ω m_X9_picksOf [.ref m, .int x1, .int x2] I S Q := by
  refine call_of (by decide +kernel) rfl (Nat.le_of_ble_eq_true rfl) ?_
  change AA Ω m_X9_picksOf (FQ Ω m_X9_picksOf Q) 0 0 0 [(0, .ref m), (1, .int x1), (2, .int x2)] [] I S
  unfold s_X9_picksOf at h
  refine r_iload_n (pc' := 1) dX9_picksOf_0 rfl 1 rfl rfl ?_
  refine r_sipush (pc' := 4) (v := 200) dX9_picksOf_1 (by decide) rfl ?_
  refine r_icmp_ne (tgt := 15) (pc' := 7) dX9_picksOf_4 rfl rfl (fun h1 => ?_) (fun h1 => ?_)
  · have h := ifn h1 h
    refine r_iload_n (pc' := 16) dX9_picksOf_15 rfl 1 rfl rfl ?_
    refine r_sipush (pc' := 19) (v := 201) dX9_picksOf_16 (by decide) rfl ?_
    refine r_icmp_ne (tgt := 26) (pc' := 22) dX9_picksOf_19 rfl rfl (fun h2 => ?_) (fun h2 => ?_)
    · have h := ifn h2 h
      refine r_iload_n (pc' := 27) dX9_picksOf_26 rfl 2 rfl rfl ?_
      refine r_iload_n (pc' := 28) dX9_picksOf_27 rfl 1 rfl rfl ?_
      refine r_bipush (pc' := 30) (v := 100) dX9_picksOf_28 (by decide) rfl ?_
      refine r_isub (pc' := 31) dX9_picksOf_30 rfl ?_
      refine r_imul (pc' := 32) dX9_picksOf_31 rfl ?_
      subst h
      exact r_iret dX9_picksOf_32 rfl (by decide) (by decide) hQ
    · have h := ifp h2 h
      refine r_iload_n (pc' := 23) dX9_picksOf_22 rfl 2 rfl rfl ?_
      refine r_goto (tgt := 32) dX9_picksOf_23 rfl ?_
      subst h
      exact r_iret dX9_picksOf_32 rfl (by decide) (by decide) hQ
  · have h := ifp h1 h
    refine r_iconst (pc' := 8) (v := 2) dX9_picksOf_7 (by decide) rfl ?_
    refine r_iload_n (pc' := 9) dX9_picksOf_8 rfl 2 rfl rfl ?_
    refine r_imul (pc' := 10) dX9_picksOf_9 rfl ?_
    refine r_iconst (pc' := 11) (v := 1) dX9_picksOf_10 (by decide) rfl ?_
    refine r_isub (pc' := 12) dX9_picksOf_11 rfl ?_
    refine r_goto (tgt := 32) dX9_picksOf_12 rfl ?_
    subst h
    exact r_iret dX9_picksOf_32 rfl (by decide) (by decide) hQ
noncomputable def s_X9_placeOf (x0 : Int32) (x1 : Int32) (x2 : Int32) : Option (Int32) :=
  if x0 = 201 then (some ((x1 - 1) - x2)) else (if x0 = 200 then (if x1 ≤ x2 then (some (((2 * x1) - 2) - x2)) else (some x2)) else (gd (¬ x1 = 0) <| some (x2 - x2 / x1 * x1)))
set_option maxHeartbeats 4000000 in
theorem c_X9_placeOf {Ω : JO} {I : JI} {S : JS} {Q : JQ} {x0 : Int32} {x1 : Int32} {x2 : Int32} {r : Int32} (h : s_X9_placeOf x0 x1 x2 = some r) (hQ : Q (.inl (some (.int r))) I S) : Call Ω m_X9_placeOf [.int x0, .int x1, .int x2] I S Q := by
  refine call_of (by decide +kernel) rfl (Nat.le_of_ble_eq_true rfl) ?_
  change AA Ω m_X9_placeOf (FQ Ω m_X9_placeOf Q) 0 0 0 [(0, .int x0), (1, .int x1), (2, .int x2)] [] I S
  unfold s_X9_placeOf at h
  refine r_iload_n (pc' := 1) dX9_placeOf_0 rfl 0 rfl rfl ?_
  refine r_sipush (pc' := 4) (v := 201) dX9_placeOf_1 (by decide) rfl ?_
  refine r_icmp_ne (tgt := 13) (pc' := 7) dX9_placeOf_4 rfl rfl (fun h1 => ?_) (fun h1 => ?_)
  · have h := ifn h1 h
    refine r_iload_n (pc' := 14) dX9_placeOf_13 rfl 0 rfl rfl ?_
    refine r_sipush (pc' := 17) (v := 200) dX9_placeOf_14 (by decide) rfl ?_
    refine r_icmp_ne (tgt := 37) (pc' := 20) dX9_placeOf_17 rfl rfl (fun h2 => ?_) (fun h2 => ?_)
    · have h := ifn h2 h
      refine r_iload_n (pc' := 38) dX9_placeOf_37 rfl 2 rfl rfl ?_
      refine r_iload_n (pc' := 39) dX9_placeOf_38 rfl 1 rfl rfl ?_
      obtain ⟨g3, h⟩ := gd_e h
      refine r_irem (pc' := 40) dX9_placeOf_39 g3 rfl ?_
      cases h
      exact r_iret dX9_placeOf_40 rfl (by decide) (by decide) hQ
    · have h := ifp h2 h
      refine r_iload_n (pc' := 21) dX9_placeOf_20 rfl 2 rfl rfl ?_
      refine r_iload_n (pc' := 22) dX9_placeOf_21 rfl 1 rfl rfl ?_
      refine r_icmp_ge (tgt := 29) (pc' := 25) dX9_placeOf_22 rfl rfl (fun h4 => ?_) (fun h4 => ?_)
      · have h := ifp h4 h
        refine r_iconst (pc' := 30) (v := 2) dX9_placeOf_29 (by decide) rfl ?_
        refine r_iload_n (pc' := 31) dX9_placeOf_30 rfl 1 rfl rfl ?_
        refine r_imul (pc' := 32) dX9_placeOf_31 rfl ?_
        refine r_iconst (pc' := 33) (v := 2) dX9_placeOf_32 (by decide) rfl ?_
        refine r_isub (pc' := 34) dX9_placeOf_33 rfl ?_
        refine r_iload_n (pc' := 35) dX9_placeOf_34 rfl 2 rfl rfl ?_
        refine r_isub (pc' := 36) dX9_placeOf_35 rfl ?_
        cases h
        exact r_iret dX9_placeOf_36 rfl (by decide) (by decide) hQ
      · have h := ifn h4 h
        refine r_iload_n (pc' := 26) dX9_placeOf_25 rfl 2 rfl rfl ?_
        refine r_goto (tgt := 36) dX9_placeOf_26 rfl ?_
        cases h
        exact r_iret dX9_placeOf_36 rfl (by decide) (by decide) hQ
  · have h := ifp h1 h
    refine r_iload_n (pc' := 8) dX9_placeOf_7 rfl 1 rfl rfl ?_
    refine r_iconst (pc' := 9) (v := 1) dX9_placeOf_8 (by decide) rfl ?_
    refine r_isub (pc' := 10) dX9_placeOf_9 rfl ?_
    refine r_iload_n (pc' := 11) dX9_placeOf_10 rfl 2 rfl rfl ?_
    refine r_isub (pc' := 12) dX9_placeOf_11 rfl ?_
    cases h
    exact r_iret dX9_placeOf_12 rfl (by decide) (by decide) hQ
noncomputable def s_X9_closesPart_L82 (m : Nat) (q2 : Int32) (q1 : Int32) : Nat → Int32 → JI → Option (Int32 × JI)
  | 0, _, _ => none
  | f + 1, w3, I => if (s_X9_picksOf m q2 q1) ≤ w3 then (some (w3, I)) else (bd (s_X9_placeOf q2 q1 w3) fun v10 => bd (s_X9_pickOf I m (I m 20) v10) fun v11 => bd (s_X9_addsPick I m ((I m 20) - 1) v11) fun I12 => s_X9_closesPart_L82 m q2 q1 f (w3 + 1) I12)
noncomputable def s_X9_closesPart (I : JI) (m : Nat) : Option (JI) :=
  gd (vp_in (I m 20) 4) <| lx (I (m + 8) (Int32.toNatClampNeg (I m 20))) fun v2 => gd (vp_in (I m 20) 4) <| lx (I (m + 9) (Int32.toNatClampNeg (I m 20))) fun v4 => if v2 = 0 then (lx (s_X9_faults I m 1) fun I37 => if 100 < (s_X9_picksOf m v4 v2) then (lx (s_X9_limits I37 m true) fun I39 => if (I39 m 10) ≤ 0 then (bd (s_X9_closesPart_L82 m v4 v2 lf 0 I39) fun (y41, I42) => bd (s_X9_addsPart I42 m 300) fun I44 => lx (stI I44 m 20 ((I44 m 20) - 1)) fun I45 => bd (s_X9_goes I45 m) fun I46 => some I46) else (some I39)) else (gd (vp_in ((I37 m 20) - 1) 4) <| if ((I37 (m + 8) (Int32.toNatClampNeg ((I37 m 20) - 1))) + (s_X9_picksOf m v4 v2)) ≤ 100 then (lx (s_X9_limits I37 m false) fun I49 => if (I49 m 10) ≤ 0 then (bd (s_X9_closesPart_L82 m v4 v2 lf 0 I49) fun (y51, I52) => bd (s_X9_addsPart I52 m 300) fun I54 => lx (stI I54 m 20 ((I54 m 20) - 1)) fun I55 => bd (s_X9_goes I55 m) fun I56 => some I56) else (some I49)) else (lx (s_X9_limits I37 m true) fun I57 => if (I57 m 10) ≤ 0 then (bd (s_X9_closesPart_L82 m v4 v2 lf 0 I57) fun (y59, I60) => bd (s_X9_addsPart I60 m 300) fun I62 => lx (stI I62 m 20 ((I62 m 20) - 1)) fun I63 => bd (s_X9_goes I63 m) fun I64 => some I64) else (some I57)))) else (if 100 < (s_X9_picksOf m v4 v2) then (lx (s_X9_limits I m true) fun I7 => if (I7 m 10) ≤ 0 then (bd (s_X9_closesPart_L82 m v4 v2 lf 0 I7) fun (y13, I14) => bd (s_X9_addsPart I14 m 300) fun I16 => lx (stI I16 m 20 ((I16 m 20) - 1)) fun I17 => bd (s_X9_goes I17 m) fun I18 => some I18) else (some I7)) else (gd (vp_in ((I m 20) - 1) 4) <| if ((I (m + 8) (Int32.toNatClampNeg ((I m 20) - 1))) + (s_X9_picksOf m v4 v2)) ≤ 100 then (lx (s_X9_limits I m false) fun I21 => if (I21 m 10) ≤ 0 then (bd (s_X9_closesPart_L82 m v4 v2 lf 0 I21) fun (y23, I24) => bd (s_X9_addsPart I24 m 300) fun I26 => lx (stI I26 m 20 ((I26 m 20) - 1)) fun I27 => bd (s_X9_goes I27 m) fun I28 => some I28) else (some I21)) else (lx (s_X9_limits I m true) fun I29 => if (I29 m 10) ≤ 0 then (bd (s_X9_closesPart_L82 m v4 v2 lf 0 I29) fun (y31, I32) => bd (s_X9_addsPart I32 m 300) fun I34 => lx (stI I34 m 20 ((I34 m 20) - 1)) fun I35 => bd (s_X9_goes I35 m) fun I36 => some I36) else (some I29))))
set_option maxHeartbeats 4000000 in
theorem l_X9_closesPart_L82 {Ω : JO} {S : JS} {Q : JQ} {m : Nat} {q2 : Int32} {q1 : Int32} (hm : Is9 S m) : ∀ (f : Nat) (w3 : Int32) (I : JI) (o : (Int32 × JI)), s_X9_closesPart_L82 m q2 q1 f w3 I = some o → True → (∀ (y3 : Int32) (J : JI) , o = (y3, J) → AA Ω m_X9_closesPart (FQ Ω m_X9_closesPart Q) 0 0 122 [(3, .int y3), (2, .int q2), (1, .int q1), (0, .ref m)] [] J S) → AA Ω m_X9_closesPart (FQ Ω m_X9_closesPart Q) 0 0 82 [(3, .int w3), (2, .int q2), (1, .int q1), (0, .ref m)] [] I S := by
  intro f
  induction f with
  | zero =>
    intro w3 I o h hR hE
    rw [s_X9_closesPart_L82] at h
    cases h
  | succ f ih =>
    intro w3 I o h hR hE
    rw [s_X9_closesPart_L82] at h
    refine r_iload_n (pc' := 83) dX9_closesPart_82 rfl 0 rfl rfl ?_
    refine r_aload_n (pc' := 84) dX9_closesPart_83 rfl 3 rfl rfl ?_
    refine r_iload_n (pc' := 85) dX9_closesPart_84 rfl 1 rfl rfl ?_
    refine r_iload_n (pc' := 86) dX9_closesPart_85 rfl 2 rfl rfl ?_
    refine r_callV2 (pc' := 89) (k' := 0) (n' := 0) dX9_closesPart_86 mb_X9_picksOf mi_X9_picksOf hm.o (by decide) rfl lk_X9_182 rfl rfl rfl (Nat.le_of_ble_eq_true rfl) rfl (c_X9_picksOf hm rfl (cpI ?_))
    refine r_icmp_ge (tgt := 122) (pc' := 92) dX9_closesPart_89 rfl rfl (fun h9 => ?_) (fun h9 => ?_)
    · have h := ifp h9 h
      cases h
      exact hE _ _ rfl
    · have h := ifn h9 h
      refine r_aload_n (pc' := 93) dX9_closesPart_92 rfl 3 rfl rfl ?_
      refine r_aload_n (pc' := 94) dX9_closesPart_93 rfl 3 rfl rfl ?_
      refine r_getI (pc' := 97) dX9_closesPart_94 fa_X9_154 hm.o rfl rfl ?_
      refine r_iconst (pc' := 98) (v := 1) dX9_closesPart_97 (by decide) rfl ?_
      refine r_isub (pc' := 99) dX9_closesPart_98 rfl ?_
      refine r_aload_n (pc' := 100) dX9_closesPart_99 rfl 3 rfl rfl ?_
      refine r_aload_n (pc' := 101) dX9_closesPart_100 rfl 3 rfl rfl ?_
      refine r_getI (pc' := 104) dX9_closesPart_101 fa_X9_154 hm.o rfl rfl ?_
      refine r_iload_n (pc' := 105) dX9_closesPart_104 rfl 1 rfl rfl ?_
      refine r_iload_n (pc' := 106) dX9_closesPart_105 rfl 2 rfl rfl ?_
      refine r_iload_n (pc' := 107) dX9_closesPart_106 rfl 0 rfl rfl ?_
      obtain ⟨v10, ev10, h⟩ := bd_e h
      refine r_callS3 (pc' := 110) (k' := 0) (n' := 0) dX9_closesPart_107 mb_X9_placeOf ms_X9_placeOf lk_X9_185 rfl rfl rfl (Nat.le_of_ble_eq_true rfl) rfl (c_X9_placeOf ev10 (cpI ?_))
      obtain ⟨v11, ev11, h⟩ := bd_e h
      refine r_callV2 (pc' := 113) (k' := 0) (n' := 0) dX9_closesPart_110 mb_X9_pickOf mi_X9_pickOf hm.o (by decide) rfl lk_X9_189 rfl rfl rfl (Nat.le_of_ble_eq_true rfl) rfl (c_X9_pickOf hm ev11 (cpI ?_))
      obtain ⟨I12, eI12, h⟩ := bd_e h
      refine r_callV2 (pc' := 116) (k' := 0) (n' := 0) dX9_closesPart_113 mb_X9_addsPick mi_X9_addsPick hm.o (by decide) rfl lk_X9_160 rfl rfl rfl (Nat.le_of_ble_eq_true rfl) rfl (c_X9_addsPick hm eI12 (cpV ?_))
      refine r_iinc (pc' := 119) (v := _ + 1) (lv' := [(3, _), (2, _), (1, _), (0, _)]) dX9_closesPart_116 0 rfl rfl (by decide) rfl rfl ?_
      refine r_goto (tgt := 82) dX9_closesPart_119 rfl ?_
      exact ih _ _ _ h hR hE
set_option maxHeartbeats 4000000 in
theorem c_X9_closesPart {Ω : JO} {I : JI} {S : JS} {Q : JQ} {m : Nat} {J : JI} (hm : Is9 S m) (h : s_X9_closesPart I m = some J) (hQ : Q (.inl none) J S) : Call Ω m_X9_closesPart [.ref m] I S Q := by
  refine call_of (by decide +kernel) rfl (Nat.le_of_ble_eq_true rfl) ?_
  change AA Ω m_X9_closesPart (FQ Ω m_X9_closesPart Q) 0 0 0 [(0, .ref m)] [] I S
  unfold s_X9_closesPart at h
  refine r_aload_n (pc' := 1) dX9_closesPart_0 rfl 0 rfl rfl ?_
  refine r_getO (pc' := 4) dX9_closesPart_1 fa_X9_37 hm.o rfl hm.r18 rfl ?_
  refine r_aload_n (pc' := 5) dX9_closesPart_4 rfl 0 rfl rfl ?_
  refine r_getI (pc' := 8) dX9_closesPart_5 fa_X9_154 hm.o rfl rfl ?_
  obtain ⟨g1, h⟩ := gd_e h
  refine r_iaload (pc' := 9) dX9_closesPart_8 hm.c18 g1 rfl ?_
  refine r_istore_n (pc' := 10) (lv' := [(1, _), (0, _)]) dX9_closesPart_9 rfl (by decide) rfl rfl ?_
  have h := lx_e h
  refine r_aload_n (pc' := 11) dX9_closesPart_10 rfl 1 rfl rfl ?_
  refine r_getO (pc' := 14) dX9_closesPart_11 fa_X9_40 hm.o rfl hm.r19 rfl ?_
  refine r_aload_n (pc' := 15) dX9_closesPart_14 rfl 1 rfl rfl ?_
  refine r_getI (pc' := 18) dX9_closesPart_15 fa_X9_154 hm.o rfl rfl ?_
  obtain ⟨g3, h⟩ := gd_e h
  refine r_iaload (pc' := 19) dX9_closesPart_18 hm.c19 g3 rfl ?_
  refine r_istore_n (pc' := 20) (lv' := [(2, _), (1, _), (0, _)]) dX9_closesPart_19 rfl (by decide) rfl rfl ?_
  have h := lx_e h
  refine r_iload_n (pc' := 21) dX9_closesPart_20 rfl 1 rfl rfl ?_
  refine r_if_ne (tgt := 29) (pc' := 24) dX9_closesPart_21 rfl rfl (fun h5 => ?_) (fun h5 => ?_)
  · have h := ifn h5 h
    refine r_aload_n (pc' := 30) dX9_closesPart_29 rfl 2 rfl rfl ?_
    refine r_aload_n (pc' := 31) dX9_closesPart_30 rfl 2 rfl rfl ?_
    refine r_iload_n (pc' := 32) dX9_closesPart_31 rfl 0 rfl rfl ?_
    refine r_iload_n (pc' := 33) dX9_closesPart_32 rfl 1 rfl rfl ?_
    refine r_callV2 (pc' := 36) (k' := 0) (n' := 0) dX9_closesPart_33 mb_X9_picksOf mi_X9_picksOf hm.o (by decide) rfl lk_X9_182 rfl rfl rfl (Nat.le_of_ble_eq_true rfl) rfl (c_X9_picksOf hm rfl (cpI ?_))
    refine r_bipush (pc' := 38) (v := 100) dX9_closesPart_36 (by decide) rfl ?_
    refine r_icmp_gt (tgt := 64) (pc' := 41) dX9_closesPart_38 rfl rfl (fun h6 => ?_) (fun h6 => ?_)
    · have h := ifp h6 h
      refine r_iconst (pc' := 65) (v := 1) dX9_closesPart_64 (by decide) rfl ?_
      refine r_goto (tgt := 69) dX9_closesPart_65 rfl ?_
      refine r_callV1 (pc' := 72) (k' := 0) (n' := 0) dX9_closesPart_69 mb_X9_limits mi_X9_limits hm.o (by decide) rfl lk_X9_130 rfl rfl rfl (Nat.le_of_ble_eq_true rfl) rfl (c_X9_limits (b1 := true) hm rfl (cpV ?_))
      have h := lx_e h
      refine r_aload_n (pc' := 73) dX9_closesPart_72 rfl 2 rfl rfl ?_
      refine r_getI (pc' := 76) dX9_closesPart_73 fa_X9_68 hm.o rfl rfl ?_
      refine r_if_le (tgt := 80) (pc' := 79) dX9_closesPart_76 rfl rfl (fun h8 => ?_) (fun h8 => ?_)
      · have h := ifp h8 h
        refine r_iconst (pc' := 81) (v := 0) dX9_closesPart_80 (by decide) rfl ?_
        refine r_istore_n (pc' := 82) (lv' := [(3, _), (2, _), (1, _), (0, _)]) dX9_closesPart_81 rfl (by decide) rfl rfl ?_
        obtain ⟨o15, eo15, h⟩ := bd_e h
        refine l_X9_closesPart_L82 (Ω := Ω) hm _ _ _ _ eo15 trivial (fun y13 I14 q => ?_)
        subst q
        refine r_aload_n (pc' := 123) dX9_closesPart_122 rfl 3 rfl rfl ?_
        refine r_sipush (pc' := 126) (v := 300) dX9_closesPart_123 (by decide) rfl ?_
        obtain ⟨I16, eI16, h⟩ := bd_e h
        refine r_callV1 (pc' := 129) (k' := 0) (n' := 0) dX9_closesPart_126 mb_X9_addsPart mi_X9_addsPart hm.o (by decide) rfl lk_X9_157 rfl rfl rfl (Nat.le_of_ble_eq_true rfl) rfl (c_X9_addsPart hm eI16 (cpV ?_))
        refine r_aload_n (pc' := 130) dX9_closesPart_129 rfl 3 rfl rfl ?_
        refine r_dup (pc' := 131) dX9_closesPart_130 rfl rfl ?_
        refine r_getI (pc' := 134) dX9_closesPart_131 fa_X9_154 hm.o rfl rfl ?_
        refine r_iconst (pc' := 135) (v := 1) dX9_closesPart_134 (by decide) rfl ?_
        refine r_isub (pc' := 136) dX9_closesPart_135 rfl ?_
        refine r_putI (pc' := 139) dX9_closesPart_136 fa_X9_154 hm.o rfl rfl ?_
        have h := lx_e h
        refine r_aload_n (pc' := 140) dX9_closesPart_139 rfl 3 rfl rfl ?_
        obtain ⟨I18, eI18, h⟩ := bd_e h
        refine r_callV0 (pc' := 143) (k' := 0) (n' := 0) dX9_closesPart_140 mb_X9_goes mi_X9_goes hm.o (by decide) rfl lk_X9_124 rfl rfl rfl (Nat.le_of_ble_eq_true rfl) rfl (c_X9_goes hm eI18 (cpV ?_))
        cases h
        exact r_ret dX9_closesPart_143 rfl (by decide) (by decide) hQ
      · have h := ifn h8 h
        cases h
        exact r_ret dX9_closesPart_79 rfl (by decide) (by decide) hQ
    · have h := ifn h6 h
      refine r_aload_n (pc' := 42) dX9_closesPart_41 rfl 2 rfl rfl ?_
      refine r_getO (pc' := 45) dX9_closesPart_42 fa_X9_37 hm.o rfl hm.r18 rfl ?_
      refine r_aload_n (pc' := 46) dX9_closesPart_45 rfl 2 rfl rfl ?_
      refine r_getI (pc' := 49) dX9_closesPart_46 fa_X9_154 hm.o rfl rfl ?_
      refine r_iconst (pc' := 50) (v := 1) dX9_closesPart_49 (by decide) rfl ?_
      refine r_isub (pc' := 51) dX9_closesPart_50 rfl ?_
      obtain ⟨g19, h⟩ := gd_e h
      refine r_iaload (pc' := 52) dX9_closesPart_51 hm.c18 g19 rfl ?_
      refine r_aload_n (pc' := 53) dX9_closesPart_52 rfl 2 rfl rfl ?_
      refine r_iload_n (pc' := 54) dX9_closesPart_53 rfl 0 rfl rfl ?_
      refine r_iload_n (pc' := 55) dX9_closesPart_54 rfl 1 rfl rfl ?_
      refine r_callV2 (pc' := 58) (k' := 0) (n' := 0) dX9_closesPart_55 mb_X9_picksOf mi_X9_picksOf hm.o (by decide) rfl lk_X9_182 rfl rfl rfl (Nat.le_of_ble_eq_true rfl) rfl (c_X9_picksOf hm rfl (cpI ?_))
      refine r_iadd (pc' := 59) dX9_closesPart_58 rfl ?_
      refine r_bipush (pc' := 61) (v := 100) dX9_closesPart_59 (by decide) rfl ?_
      refine r_icmp_le (tgt := 68) (pc' := 64) dX9_closesPart_61 rfl rfl (fun h20 => ?_) (fun h20 => ?_)
      · have h := ifp h20 h
        refine r_iconst (pc' := 69) (v := 0) dX9_closesPart_68 (by decide) rfl ?_
        refine r_callV1 (pc' := 72) (k' := 0) (n' := 0) dX9_closesPart_69 mb_X9_limits mi_X9_limits hm.o (by decide) rfl lk_X9_130 rfl rfl rfl (Nat.le_of_ble_eq_true rfl) rfl (c_X9_limits (b1 := false) hm rfl (cpV ?_))
        have h := lx_e h
        refine r_aload_n (pc' := 73) dX9_closesPart_72 rfl 2 rfl rfl ?_
        refine r_getI (pc' := 76) dX9_closesPart_73 fa_X9_68 hm.o rfl rfl ?_
        refine r_if_le (tgt := 80) (pc' := 79) dX9_closesPart_76 rfl rfl (fun h22 => ?_) (fun h22 => ?_)
        · have h := ifp h22 h
          refine r_iconst (pc' := 81) (v := 0) dX9_closesPart_80 (by decide) rfl ?_
          refine r_istore_n (pc' := 82) (lv' := [(3, _), (2, _), (1, _), (0, _)]) dX9_closesPart_81 rfl (by decide) rfl rfl ?_
          obtain ⟨o25, eo25, h⟩ := bd_e h
          refine l_X9_closesPart_L82 (Ω := Ω) hm _ _ _ _ eo25 trivial (fun y23 I24 q => ?_)
          subst q
          refine r_aload_n (pc' := 123) dX9_closesPart_122 rfl 3 rfl rfl ?_
          refine r_sipush (pc' := 126) (v := 300) dX9_closesPart_123 (by decide) rfl ?_
          obtain ⟨I26, eI26, h⟩ := bd_e h
          refine r_callV1 (pc' := 129) (k' := 0) (n' := 0) dX9_closesPart_126 mb_X9_addsPart mi_X9_addsPart hm.o (by decide) rfl lk_X9_157 rfl rfl rfl (Nat.le_of_ble_eq_true rfl) rfl (c_X9_addsPart hm eI26 (cpV ?_))
          refine r_aload_n (pc' := 130) dX9_closesPart_129 rfl 3 rfl rfl ?_
          refine r_dup (pc' := 131) dX9_closesPart_130 rfl rfl ?_
          refine r_getI (pc' := 134) dX9_closesPart_131 fa_X9_154 hm.o rfl rfl ?_
          refine r_iconst (pc' := 135) (v := 1) dX9_closesPart_134 (by decide) rfl ?_
          refine r_isub (pc' := 136) dX9_closesPart_135 rfl ?_
          refine r_putI (pc' := 139) dX9_closesPart_136 fa_X9_154 hm.o rfl rfl ?_
          have h := lx_e h
          refine r_aload_n (pc' := 140) dX9_closesPart_139 rfl 3 rfl rfl ?_
          obtain ⟨I28, eI28, h⟩ := bd_e h
          refine r_callV0 (pc' := 143) (k' := 0) (n' := 0) dX9_closesPart_140 mb_X9_goes mi_X9_goes hm.o (by decide) rfl lk_X9_124 rfl rfl rfl (Nat.le_of_ble_eq_true rfl) rfl (c_X9_goes hm eI28 (cpV ?_))
          cases h
          exact r_ret dX9_closesPart_143 rfl (by decide) (by decide) hQ
        · have h := ifn h22 h
          cases h
          exact r_ret dX9_closesPart_79 rfl (by decide) (by decide) hQ
      · have h := ifn h20 h
        refine r_iconst (pc' := 65) (v := 1) dX9_closesPart_64 (by decide) rfl ?_
        refine r_goto (tgt := 69) dX9_closesPart_65 rfl ?_
        refine r_callV1 (pc' := 72) (k' := 0) (n' := 0) dX9_closesPart_69 mb_X9_limits mi_X9_limits hm.o (by decide) rfl lk_X9_130 rfl rfl rfl (Nat.le_of_ble_eq_true rfl) rfl (c_X9_limits (b1 := true) hm rfl (cpV ?_))
        have h := lx_e h
        refine r_aload_n (pc' := 73) dX9_closesPart_72 rfl 2 rfl rfl ?_
        refine r_getI (pc' := 76) dX9_closesPart_73 fa_X9_68 hm.o rfl rfl ?_
        refine r_if_le (tgt := 80) (pc' := 79) dX9_closesPart_76 rfl rfl (fun h30 => ?_) (fun h30 => ?_)
        · have h := ifp h30 h
          refine r_iconst (pc' := 81) (v := 0) dX9_closesPart_80 (by decide) rfl ?_
          refine r_istore_n (pc' := 82) (lv' := [(3, _), (2, _), (1, _), (0, _)]) dX9_closesPart_81 rfl (by decide) rfl rfl ?_
          obtain ⟨o33, eo33, h⟩ := bd_e h
          refine l_X9_closesPart_L82 (Ω := Ω) hm _ _ _ _ eo33 trivial (fun y31 I32 q => ?_)
          subst q
          refine r_aload_n (pc' := 123) dX9_closesPart_122 rfl 3 rfl rfl ?_
          refine r_sipush (pc' := 126) (v := 300) dX9_closesPart_123 (by decide) rfl ?_
          obtain ⟨I34, eI34, h⟩ := bd_e h
          refine r_callV1 (pc' := 129) (k' := 0) (n' := 0) dX9_closesPart_126 mb_X9_addsPart mi_X9_addsPart hm.o (by decide) rfl lk_X9_157 rfl rfl rfl (Nat.le_of_ble_eq_true rfl) rfl (c_X9_addsPart hm eI34 (cpV ?_))
          refine r_aload_n (pc' := 130) dX9_closesPart_129 rfl 3 rfl rfl ?_
          refine r_dup (pc' := 131) dX9_closesPart_130 rfl rfl ?_
          refine r_getI (pc' := 134) dX9_closesPart_131 fa_X9_154 hm.o rfl rfl ?_
          refine r_iconst (pc' := 135) (v := 1) dX9_closesPart_134 (by decide) rfl ?_
          refine r_isub (pc' := 136) dX9_closesPart_135 rfl ?_
          refine r_putI (pc' := 139) dX9_closesPart_136 fa_X9_154 hm.o rfl rfl ?_
          have h := lx_e h
          refine r_aload_n (pc' := 140) dX9_closesPart_139 rfl 3 rfl rfl ?_
          obtain ⟨I36, eI36, h⟩ := bd_e h
          refine r_callV0 (pc' := 143) (k' := 0) (n' := 0) dX9_closesPart_140 mb_X9_goes mi_X9_goes hm.o (by decide) rfl lk_X9_124 rfl rfl rfl (Nat.le_of_ble_eq_true rfl) rfl (c_X9_goes hm eI36 (cpV ?_))
          cases h
          exact r_ret dX9_closesPart_143 rfl (by decide) (by decide) hQ
        · have h := ifn h30 h
          cases h
          exact r_ret dX9_closesPart_79 rfl (by decide) (by decide) hQ
  · have h := ifp h5 h
    refine r_aload_n (pc' := 25) dX9_closesPart_24 rfl 2 rfl rfl ?_
    refine r_iconst (pc' := 26) (v := 1) dX9_closesPart_25 (by decide) rfl ?_
    refine r_callV1 (pc' := 29) (k' := 0) (n' := 0) dX9_closesPart_26 mb_X9_faults mi_X9_faults hm.o (by decide) rfl lk_X9_104 rfl rfl rfl (Nat.le_of_ble_eq_true rfl) rfl (c_X9_faults hm rfl (cpV ?_))
    have h := lx_e h
    refine r_aload_n (pc' := 30) dX9_closesPart_29 rfl 2 rfl rfl ?_
    refine r_aload_n (pc' := 31) dX9_closesPart_30 rfl 2 rfl rfl ?_
    refine r_iload_n (pc' := 32) dX9_closesPart_31 rfl 0 rfl rfl ?_
    refine r_iload_n (pc' := 33) dX9_closesPart_32 rfl 1 rfl rfl ?_
    refine r_callV2 (pc' := 36) (k' := 0) (n' := 0) dX9_closesPart_33 mb_X9_picksOf mi_X9_picksOf hm.o (by decide) rfl lk_X9_182 rfl rfl rfl (Nat.le_of_ble_eq_true rfl) rfl (c_X9_picksOf hm rfl (cpI ?_))
    refine r_bipush (pc' := 38) (v := 100) dX9_closesPart_36 (by decide) rfl ?_
    refine r_icmp_gt (tgt := 64) (pc' := 41) dX9_closesPart_38 rfl rfl (fun h38 => ?_) (fun h38 => ?_)
    · have h := ifp h38 h
      refine r_iconst (pc' := 65) (v := 1) dX9_closesPart_64 (by decide) rfl ?_
      refine r_goto (tgt := 69) dX9_closesPart_65 rfl ?_
      refine r_callV1 (pc' := 72) (k' := 0) (n' := 0) dX9_closesPart_69 mb_X9_limits mi_X9_limits hm.o (by decide) rfl lk_X9_130 rfl rfl rfl (Nat.le_of_ble_eq_true rfl) rfl (c_X9_limits (b1 := true) hm rfl (cpV ?_))
      have h := lx_e h
      refine r_aload_n (pc' := 73) dX9_closesPart_72 rfl 2 rfl rfl ?_
      refine r_getI (pc' := 76) dX9_closesPart_73 fa_X9_68 hm.o rfl rfl ?_
      refine r_if_le (tgt := 80) (pc' := 79) dX9_closesPart_76 rfl rfl (fun h40 => ?_) (fun h40 => ?_)
      · have h := ifp h40 h
        refine r_iconst (pc' := 81) (v := 0) dX9_closesPart_80 (by decide) rfl ?_
        refine r_istore_n (pc' := 82) (lv' := [(3, _), (2, _), (1, _), (0, _)]) dX9_closesPart_81 rfl (by decide) rfl rfl ?_
        obtain ⟨o43, eo43, h⟩ := bd_e h
        refine l_X9_closesPart_L82 (Ω := Ω) hm _ _ _ _ eo43 trivial (fun y41 I42 q => ?_)
        subst q
        refine r_aload_n (pc' := 123) dX9_closesPart_122 rfl 3 rfl rfl ?_
        refine r_sipush (pc' := 126) (v := 300) dX9_closesPart_123 (by decide) rfl ?_
        obtain ⟨I44, eI44, h⟩ := bd_e h
        refine r_callV1 (pc' := 129) (k' := 0) (n' := 0) dX9_closesPart_126 mb_X9_addsPart mi_X9_addsPart hm.o (by decide) rfl lk_X9_157 rfl rfl rfl (Nat.le_of_ble_eq_true rfl) rfl (c_X9_addsPart hm eI44 (cpV ?_))
        refine r_aload_n (pc' := 130) dX9_closesPart_129 rfl 3 rfl rfl ?_
        refine r_dup (pc' := 131) dX9_closesPart_130 rfl rfl ?_
        refine r_getI (pc' := 134) dX9_closesPart_131 fa_X9_154 hm.o rfl rfl ?_
        refine r_iconst (pc' := 135) (v := 1) dX9_closesPart_134 (by decide) rfl ?_
        refine r_isub (pc' := 136) dX9_closesPart_135 rfl ?_
        refine r_putI (pc' := 139) dX9_closesPart_136 fa_X9_154 hm.o rfl rfl ?_
        have h := lx_e h
        refine r_aload_n (pc' := 140) dX9_closesPart_139 rfl 3 rfl rfl ?_
        obtain ⟨I46, eI46, h⟩ := bd_e h
        refine r_callV0 (pc' := 143) (k' := 0) (n' := 0) dX9_closesPart_140 mb_X9_goes mi_X9_goes hm.o (by decide) rfl lk_X9_124 rfl rfl rfl (Nat.le_of_ble_eq_true rfl) rfl (c_X9_goes hm eI46 (cpV ?_))
        cases h
        exact r_ret dX9_closesPart_143 rfl (by decide) (by decide) hQ
      · have h := ifn h40 h
        cases h
        exact r_ret dX9_closesPart_79 rfl (by decide) (by decide) hQ
    · have h := ifn h38 h
      refine r_aload_n (pc' := 42) dX9_closesPart_41 rfl 2 rfl rfl ?_
      refine r_getO (pc' := 45) dX9_closesPart_42 fa_X9_37 hm.o rfl hm.r18 rfl ?_
      refine r_aload_n (pc' := 46) dX9_closesPart_45 rfl 2 rfl rfl ?_
      refine r_getI (pc' := 49) dX9_closesPart_46 fa_X9_154 hm.o rfl rfl ?_
      refine r_iconst (pc' := 50) (v := 1) dX9_closesPart_49 (by decide) rfl ?_
      refine r_isub (pc' := 51) dX9_closesPart_50 rfl ?_
      obtain ⟨g47, h⟩ := gd_e h
      refine r_iaload (pc' := 52) dX9_closesPart_51 hm.c18 g47 rfl ?_
      refine r_aload_n (pc' := 53) dX9_closesPart_52 rfl 2 rfl rfl ?_
      refine r_iload_n (pc' := 54) dX9_closesPart_53 rfl 0 rfl rfl ?_
      refine r_iload_n (pc' := 55) dX9_closesPart_54 rfl 1 rfl rfl ?_
      refine r_callV2 (pc' := 58) (k' := 0) (n' := 0) dX9_closesPart_55 mb_X9_picksOf mi_X9_picksOf hm.o (by decide) rfl lk_X9_182 rfl rfl rfl (Nat.le_of_ble_eq_true rfl) rfl (c_X9_picksOf hm rfl (cpI ?_))
      refine r_iadd (pc' := 59) dX9_closesPart_58 rfl ?_
      refine r_bipush (pc' := 61) (v := 100) dX9_closesPart_59 (by decide) rfl ?_
      refine r_icmp_le (tgt := 68) (pc' := 64) dX9_closesPart_61 rfl rfl (fun h48 => ?_) (fun h48 => ?_)
      · have h := ifp h48 h
        refine r_iconst (pc' := 69) (v := 0) dX9_closesPart_68 (by decide) rfl ?_
        refine r_callV1 (pc' := 72) (k' := 0) (n' := 0) dX9_closesPart_69 mb_X9_limits mi_X9_limits hm.o (by decide) rfl lk_X9_130 rfl rfl rfl (Nat.le_of_ble_eq_true rfl) rfl (c_X9_limits (b1 := false) hm rfl (cpV ?_))
        have h := lx_e h
        refine r_aload_n (pc' := 73) dX9_closesPart_72 rfl 2 rfl rfl ?_
        refine r_getI (pc' := 76) dX9_closesPart_73 fa_X9_68 hm.o rfl rfl ?_
        refine r_if_le (tgt := 80) (pc' := 79) dX9_closesPart_76 rfl rfl (fun h50 => ?_) (fun h50 => ?_)
        · have h := ifp h50 h
          refine r_iconst (pc' := 81) (v := 0) dX9_closesPart_80 (by decide) rfl ?_
          refine r_istore_n (pc' := 82) (lv' := [(3, _), (2, _), (1, _), (0, _)]) dX9_closesPart_81 rfl (by decide) rfl rfl ?_
          obtain ⟨o53, eo53, h⟩ := bd_e h
          refine l_X9_closesPart_L82 (Ω := Ω) hm _ _ _ _ eo53 trivial (fun y51 I52 q => ?_)
          subst q
          refine r_aload_n (pc' := 123) dX9_closesPart_122 rfl 3 rfl rfl ?_
          refine r_sipush (pc' := 126) (v := 300) dX9_closesPart_123 (by decide) rfl ?_
          obtain ⟨I54, eI54, h⟩ := bd_e h
          refine r_callV1 (pc' := 129) (k' := 0) (n' := 0) dX9_closesPart_126 mb_X9_addsPart mi_X9_addsPart hm.o (by decide) rfl lk_X9_157 rfl rfl rfl (Nat.le_of_ble_eq_true rfl) rfl (c_X9_addsPart hm eI54 (cpV ?_))
          refine r_aload_n (pc' := 130) dX9_closesPart_129 rfl 3 rfl rfl ?_
          refine r_dup (pc' := 131) dX9_closesPart_130 rfl rfl ?_
          refine r_getI (pc' := 134) dX9_closesPart_131 fa_X9_154 hm.o rfl rfl ?_
          refine r_iconst (pc' := 135) (v := 1) dX9_closesPart_134 (by decide) rfl ?_
          refine r_isub (pc' := 136) dX9_closesPart_135 rfl ?_
          refine r_putI (pc' := 139) dX9_closesPart_136 fa_X9_154 hm.o rfl rfl ?_
          have h := lx_e h
          refine r_aload_n (pc' := 140) dX9_closesPart_139 rfl 3 rfl rfl ?_
          obtain ⟨I56, eI56, h⟩ := bd_e h
          refine r_callV0 (pc' := 143) (k' := 0) (n' := 0) dX9_closesPart_140 mb_X9_goes mi_X9_goes hm.o (by decide) rfl lk_X9_124 rfl rfl rfl (Nat.le_of_ble_eq_true rfl) rfl (c_X9_goes hm eI56 (cpV ?_))
          cases h
          exact r_ret dX9_closesPart_143 rfl (by decide) (by decide) hQ
        · have h := ifn h50 h
          cases h
          exact r_ret dX9_closesPart_79 rfl (by decide) (by decide) hQ
      · have h := ifn h48 h
        refine r_iconst (pc' := 65) (v := 1) dX9_closesPart_64 (by decide) rfl ?_
        refine r_goto (tgt := 69) dX9_closesPart_65 rfl ?_
        refine r_callV1 (pc' := 72) (k' := 0) (n' := 0) dX9_closesPart_69 mb_X9_limits mi_X9_limits hm.o (by decide) rfl lk_X9_130 rfl rfl rfl (Nat.le_of_ble_eq_true rfl) rfl (c_X9_limits (b1 := true) hm rfl (cpV ?_))
        have h := lx_e h
        refine r_aload_n (pc' := 73) dX9_closesPart_72 rfl 2 rfl rfl ?_
        refine r_getI (pc' := 76) dX9_closesPart_73 fa_X9_68 hm.o rfl rfl ?_
        refine r_if_le (tgt := 80) (pc' := 79) dX9_closesPart_76 rfl rfl (fun h58 => ?_) (fun h58 => ?_)
        · have h := ifp h58 h
          refine r_iconst (pc' := 81) (v := 0) dX9_closesPart_80 (by decide) rfl ?_
          refine r_istore_n (pc' := 82) (lv' := [(3, _), (2, _), (1, _), (0, _)]) dX9_closesPart_81 rfl (by decide) rfl rfl ?_
          obtain ⟨o61, eo61, h⟩ := bd_e h
          refine l_X9_closesPart_L82 (Ω := Ω) hm _ _ _ _ eo61 trivial (fun y59 I60 q => ?_)
          subst q
          refine r_aload_n (pc' := 123) dX9_closesPart_122 rfl 3 rfl rfl ?_
          refine r_sipush (pc' := 126) (v := 300) dX9_closesPart_123 (by decide) rfl ?_
          obtain ⟨I62, eI62, h⟩ := bd_e h
          refine r_callV1 (pc' := 129) (k' := 0) (n' := 0) dX9_closesPart_126 mb_X9_addsPart mi_X9_addsPart hm.o (by decide) rfl lk_X9_157 rfl rfl rfl (Nat.le_of_ble_eq_true rfl) rfl (c_X9_addsPart hm eI62 (cpV ?_))
          refine r_aload_n (pc' := 130) dX9_closesPart_129 rfl 3 rfl rfl ?_
          refine r_dup (pc' := 131) dX9_closesPart_130 rfl rfl ?_
          refine r_getI (pc' := 134) dX9_closesPart_131 fa_X9_154 hm.o rfl rfl ?_
          refine r_iconst (pc' := 135) (v := 1) dX9_closesPart_134 (by decide) rfl ?_
          refine r_isub (pc' := 136) dX9_closesPart_135 rfl ?_
          refine r_putI (pc' := 139) dX9_closesPart_136 fa_X9_154 hm.o rfl rfl ?_
          have h := lx_e h
          refine r_aload_n (pc' := 140) dX9_closesPart_139 rfl 3 rfl rfl ?_
          obtain ⟨I64, eI64, h⟩ := bd_e h
          refine r_callV0 (pc' := 143) (k' := 0) (n' := 0) dX9_closesPart_140 mb_X9_goes mi_X9_goes hm.o (by decide) rfl lk_X9_124 rfl rfl rfl (Nat.le_of_ble_eq_true rfl) rfl (c_X9_goes hm eI64 (cpV ?_))
          cases h
          exact r_ret dX9_closesPart_143 rfl (by decide) (by decide) hQ
        · have h := ifn h58 h
          cases h
          exact r_ret dX9_closesPart_79 rfl (by decide) (by decide) hQ
theorem frl_X9_closesPart_L82 {m : Nat} {q2 : Int32} {q1 : Int32} {z : Nat} (hz_m1 : z ≠ (m + 1)) (hz_m7 : z ≠ (m + 7)) (hz_m8 : z ≠ (m + 8)) (hz_m : z ≠ m) : ∀ (f : Nat) (w3 : Int32) (I : JI) (o : (Int32 × JI)), s_X9_closesPart_L82 m q2 q1 f w3 I = some o → (∀ (y3 : Int32) (J : JI), o = (y3, J) → J z = I z) := by
  intro f
  induction f with
  | zero =>
    intro w3 I o h
    rw [s_X9_closesPart_L82] at h
    cases h
  | succ f ih =>
    intro w3 I o h
    rw [s_X9_closesPart_L82] at h
    rcases if_e h with h | h
    · cases h
      intro _ _ q
      cases q
      exact rfl
    · obtain ⟨o1, e1, h⟩ := bd_e h
      obtain ⟨o2, e2, h⟩ := bd_e h
      obtain ⟨I12, e3, h⟩ := bd_e h
      intro _ _ q
      exact ((ih _ _ _ h) _ _ q).trans ((fr_X9_addsPick e3 (by omega) (by omega)).trans rfl)
set_option maxHeartbeats 4000000 in
theorem fr_X9_closesPart {I : JI} {m : Nat} {J : JI} {z : Nat} (h : s_X9_closesPart I m = some J) (hz_m1 : z ≠ (m + 1)) (hz_m7 : z ≠ (m + 7)) (hz_m8 : z ≠ (m + 8)) (hz_m : z ≠ m) : J z = I z := by
  unfold s_X9_closesPart at h
  obtain ⟨g1, h⟩ := gd_e h
  have h := lx_e h
  obtain ⟨g2, h⟩ := gd_e h
  have h := lx_e h
  rcases if_e h with h | h
  · have h := lx_e h
    rcases if_e h with h | h
    · have h := lx_e h
      rcases if_e h with h | h
      · obtain ⟨o3, e3, h⟩ := bd_e h
        obtain ⟨y41, I42⟩ := o3
        obtain ⟨I44, e4, h⟩ := bd_e h
        have h := lx_e h
        obtain ⟨I46, e5, h⟩ := bd_e h
        cases h
        exact ((fr_X9_goes e5 (by omega)).trans ((fr_stI (by omega)).trans ((fr_X9_addsPart e4 (by omega)).trans (((frl_X9_closesPart_L82 hz_m1 hz_m7 hz_m8 hz_m _ _ _ _ e3) _ _ rfl).trans ((fr_X9_limits (by omega)).trans ((fr_X9_faults (by omega)).trans rfl))))))
      · cases h
        exact ((fr_X9_limits (by omega)).trans ((fr_X9_faults (by omega)).trans rfl))
    · obtain ⟨g6, h⟩ := gd_e h
      rcases if_e h with h | h
      · have h := lx_e h
        rcases if_e h with h | h
        · obtain ⟨o7, e7, h⟩ := bd_e h
          obtain ⟨y51, I52⟩ := o7
          obtain ⟨I54, e8, h⟩ := bd_e h
          have h := lx_e h
          obtain ⟨I56, e9, h⟩ := bd_e h
          cases h
          exact ((fr_X9_goes e9 (by omega)).trans ((fr_stI (by omega)).trans ((fr_X9_addsPart e8 (by omega)).trans (((frl_X9_closesPart_L82 hz_m1 hz_m7 hz_m8 hz_m _ _ _ _ e7) _ _ rfl).trans ((fr_X9_limits (by omega)).trans ((fr_X9_faults (by omega)).trans rfl))))))
        · cases h
          exact ((fr_X9_limits (by omega)).trans ((fr_X9_faults (by omega)).trans rfl))
      · have h := lx_e h
        rcases if_e h with h | h
        · obtain ⟨o10, e10, h⟩ := bd_e h
          obtain ⟨y59, I60⟩ := o10
          obtain ⟨I62, e11, h⟩ := bd_e h
          have h := lx_e h
          obtain ⟨I64, e12, h⟩ := bd_e h
          cases h
          exact ((fr_X9_goes e12 (by omega)).trans ((fr_stI (by omega)).trans ((fr_X9_addsPart e11 (by omega)).trans (((frl_X9_closesPart_L82 hz_m1 hz_m7 hz_m8 hz_m _ _ _ _ e10) _ _ rfl).trans ((fr_X9_limits (by omega)).trans ((fr_X9_faults (by omega)).trans rfl))))))
        · cases h
          exact ((fr_X9_limits (by omega)).trans ((fr_X9_faults (by omega)).trans rfl))
  · rcases if_e h with h | h
    · have h := lx_e h
      rcases if_e h with h | h
      · obtain ⟨o13, e13, h⟩ := bd_e h
        obtain ⟨y13, I14⟩ := o13
        obtain ⟨I16, e14, h⟩ := bd_e h
        have h := lx_e h
        obtain ⟨I18, e15, h⟩ := bd_e h
        cases h
        exact ((fr_X9_goes e15 (by omega)).trans ((fr_stI (by omega)).trans ((fr_X9_addsPart e14 (by omega)).trans (((frl_X9_closesPart_L82 hz_m1 hz_m7 hz_m8 hz_m _ _ _ _ e13) _ _ rfl).trans ((fr_X9_limits (by omega)).trans rfl)))))
      · cases h
        exact ((fr_X9_limits (by omega)).trans rfl)
    · obtain ⟨g16, h⟩ := gd_e h
      rcases if_e h with h | h
      · have h := lx_e h
        rcases if_e h with h | h
        · obtain ⟨o17, e17, h⟩ := bd_e h
          obtain ⟨y23, I24⟩ := o17
          obtain ⟨I26, e18, h⟩ := bd_e h
          have h := lx_e h
          obtain ⟨I28, e19, h⟩ := bd_e h
          cases h
          exact ((fr_X9_goes e19 (by omega)).trans ((fr_stI (by omega)).trans ((fr_X9_addsPart e18 (by omega)).trans (((frl_X9_closesPart_L82 hz_m1 hz_m7 hz_m8 hz_m _ _ _ _ e17) _ _ rfl).trans ((fr_X9_limits (by omega)).trans rfl)))))
        · cases h
          exact ((fr_X9_limits (by omega)).trans rfl)
      · have h := lx_e h
        rcases if_e h with h | h
        · obtain ⟨o20, e20, h⟩ := bd_e h
          obtain ⟨y31, I32⟩ := o20
          obtain ⟨I34, e21, h⟩ := bd_e h
          have h := lx_e h
          obtain ⟨I36, e22, h⟩ := bd_e h
          cases h
          exact ((fr_X9_goes e22 (by omega)).trans ((fr_stI (by omega)).trans ((fr_X9_addsPart e21 (by omega)).trans (((frl_X9_closesPart_L82 hz_m1 hz_m7 hz_m8 hz_m _ _ _ _ e20) _ _ rfl).trans ((fr_X9_limits (by omega)).trans rfl)))))
        · cases h
          exact ((fr_X9_limits (by omega)).trans rfl)
theorem ffl_X9_closesPart_L82 {m : Nat} {q2 : Int32} {q1 : Int32} {k : Nat} (hk10 : k ≠ 10) (hk11 : k ≠ 11) (hk13 : k ≠ 13) (hk14 : k ≠ 14) (hk15 : k ≠ 15) (hk16 : k ≠ 16) (hk20 : k ≠ 20) : ∀ (f : Nat) (w3 : Int32) (I : JI) (o : (Int32 × JI)), s_X9_closesPart_L82 m q2 q1 f w3 I = some o → (∀ (y3 : Int32) (J : JI), o = (y3, J) → J m k = I m k) := by
  intro f
  induction f with
  | zero =>
    intro w3 I o h
    rw [s_X9_closesPart_L82] at h
    cases h
  | succ f ih =>
    intro w3 I o h
    rw [s_X9_closesPart_L82] at h
    rcases if_e h with h | h
    · cases h
      intro _ _ q
      cases q
      exact rfl
    · obtain ⟨o1, e1, h⟩ := bd_e h
      obtain ⟨o2, e2, h⟩ := bd_e h
      obtain ⟨I12, e3, h⟩ := bd_e h
      intro _ _ q
      exact ((ih _ _ _ h) _ _ q).trans ((congrFun (fr_X9_addsPick e3 (by omega) (by omega)) k).trans rfl)
set_option maxHeartbeats 4000000 in
theorem ff_X9_closesPart {I : JI} {m : Nat} {J : JI} {k : Nat} (h : s_X9_closesPart I m = some J) (hk10 : k ≠ 10) (hk11 : k ≠ 11) (hk13 : k ≠ 13) (hk14 : k ≠ 14) (hk15 : k ≠ 15) (hk16 : k ≠ 16) (hk20 : k ≠ 20) : J m k = I m k := by
  unfold s_X9_closesPart at h
  obtain ⟨g1, h⟩ := gd_e h
  have h := lx_e h
  obtain ⟨g2, h⟩ := gd_e h
  have h := lx_e h
  rcases if_e h with h | h
  · have h := lx_e h
    rcases if_e h with h | h
    · have h := lx_e h
      rcases if_e h with h | h
      · obtain ⟨o3, e3, h⟩ := bd_e h
        obtain ⟨y41, I42⟩ := o3
        obtain ⟨I44, e4, h⟩ := bd_e h
        have h := lx_e h
        obtain ⟨I46, e5, h⟩ := bd_e h
        cases h
        exact ((ff_X9_goes e5 hk13 hk14 hk15 hk16).trans ((ff_stI hk20).trans ((congrFun (fr_X9_addsPart e4 (by omega)) k).trans (((ffl_X9_closesPart_L82 hk10 hk11 hk13 hk14 hk15 hk16 hk20 _ _ _ _ e3) _ _ rfl).trans ((ff_X9_limits hk10 hk11).trans ((ff_X9_faults hk10 hk11).trans rfl))))))
      · cases h
        exact ((ff_X9_limits hk10 hk11).trans ((ff_X9_faults hk10 hk11).trans rfl))
    · obtain ⟨g6, h⟩ := gd_e h
      rcases if_e h with h | h
      · have h := lx_e h
        rcases if_e h with h | h
        · obtain ⟨o7, e7, h⟩ := bd_e h
          obtain ⟨y51, I52⟩ := o7
          obtain ⟨I54, e8, h⟩ := bd_e h
          have h := lx_e h
          obtain ⟨I56, e9, h⟩ := bd_e h
          cases h
          exact ((ff_X9_goes e9 hk13 hk14 hk15 hk16).trans ((ff_stI hk20).trans ((congrFun (fr_X9_addsPart e8 (by omega)) k).trans (((ffl_X9_closesPart_L82 hk10 hk11 hk13 hk14 hk15 hk16 hk20 _ _ _ _ e7) _ _ rfl).trans ((ff_X9_limits hk10 hk11).trans ((ff_X9_faults hk10 hk11).trans rfl))))))
        · cases h
          exact ((ff_X9_limits hk10 hk11).trans ((ff_X9_faults hk10 hk11).trans rfl))
      · have h := lx_e h
        rcases if_e h with h | h
        · obtain ⟨o10, e10, h⟩ := bd_e h
          obtain ⟨y59, I60⟩ := o10
          obtain ⟨I62, e11, h⟩ := bd_e h
          have h := lx_e h
          obtain ⟨I64, e12, h⟩ := bd_e h
          cases h
          exact ((ff_X9_goes e12 hk13 hk14 hk15 hk16).trans ((ff_stI hk20).trans ((congrFun (fr_X9_addsPart e11 (by omega)) k).trans (((ffl_X9_closesPart_L82 hk10 hk11 hk13 hk14 hk15 hk16 hk20 _ _ _ _ e10) _ _ rfl).trans ((ff_X9_limits hk10 hk11).trans ((ff_X9_faults hk10 hk11).trans rfl))))))
        · cases h
          exact ((ff_X9_limits hk10 hk11).trans ((ff_X9_faults hk10 hk11).trans rfl))
  · rcases if_e h with h | h
    · have h := lx_e h
      rcases if_e h with h | h
      · obtain ⟨o13, e13, h⟩ := bd_e h
        obtain ⟨y13, I14⟩ := o13
        obtain ⟨I16, e14, h⟩ := bd_e h
        have h := lx_e h
        obtain ⟨I18, e15, h⟩ := bd_e h
        cases h
        exact ((ff_X9_goes e15 hk13 hk14 hk15 hk16).trans ((ff_stI hk20).trans ((congrFun (fr_X9_addsPart e14 (by omega)) k).trans (((ffl_X9_closesPart_L82 hk10 hk11 hk13 hk14 hk15 hk16 hk20 _ _ _ _ e13) _ _ rfl).trans ((ff_X9_limits hk10 hk11).trans rfl)))))
      · cases h
        exact ((ff_X9_limits hk10 hk11).trans rfl)
    · obtain ⟨g16, h⟩ := gd_e h
      rcases if_e h with h | h
      · have h := lx_e h
        rcases if_e h with h | h
        · obtain ⟨o17, e17, h⟩ := bd_e h
          obtain ⟨y23, I24⟩ := o17
          obtain ⟨I26, e18, h⟩ := bd_e h
          have h := lx_e h
          obtain ⟨I28, e19, h⟩ := bd_e h
          cases h
          exact ((ff_X9_goes e19 hk13 hk14 hk15 hk16).trans ((ff_stI hk20).trans ((congrFun (fr_X9_addsPart e18 (by omega)) k).trans (((ffl_X9_closesPart_L82 hk10 hk11 hk13 hk14 hk15 hk16 hk20 _ _ _ _ e17) _ _ rfl).trans ((ff_X9_limits hk10 hk11).trans rfl)))))
        · cases h
          exact ((ff_X9_limits hk10 hk11).trans rfl)
      · have h := lx_e h
        rcases if_e h with h | h
        · obtain ⟨o20, e20, h⟩ := bd_e h
          obtain ⟨y31, I32⟩ := o20
          obtain ⟨I34, e21, h⟩ := bd_e h
          have h := lx_e h
          obtain ⟨I36, e22, h⟩ := bd_e h
          cases h
          exact ((ff_X9_goes e22 hk13 hk14 hk15 hk16).trans ((ff_stI hk20).trans ((congrFun (fr_X9_addsPart e21 (by omega)) k).trans (((ffl_X9_closesPart_L82 hk10 hk11 hk13 hk14 hk15 hk16 hk20 _ _ _ _ e20) _ _ rfl).trans ((ff_X9_limits hk10 hk11).trans rfl)))))
        · cases h
          exact ((ff_X9_limits hk10 hk11).trans rfl)
noncomputable def s_X9_readsPart (I : JI) (m : Nat) : Option (JI) :=
  if (s_X9_is I m 3) = true then (bd (s_X9_readsDeckCard I m) fun I10 => some I10) else (bd (s_X9_isBracketWord I m) fun z2 => if z2 = true then (bd (s_X9_opensPart I m) fun I9 => some I9) else (if (s_X9_is I m 6) = true then (if (I m 20) ≤ 0 then (lx (s_X9_faults I m 1) fun I7 => some I7) else (bd (s_X9_closesPart I m) fun I8 => some I8)) else (lx (s_X9_faults I m 1) fun I5 => some I5)))
set_option maxHeartbeats 4000000 in
theorem c_X9_readsPart {Ω : JO} {I : JI} {S : JS} {Q : JQ} {m : Nat} {J : JI} (hm : Is9 S m) (h : s_X9_readsPart I m = some J) (hQ : Q (.inl none) J S) : Call Ω m_X9_readsPart [.ref m] I S Q := by
  refine call_of (by decide +kernel) rfl (Nat.le_of_ble_eq_true rfl) ?_
  change AA Ω m_X9_readsPart (FQ Ω m_X9_readsPart Q) 0 0 0 [(0, .ref m)] [] I S
  unfold s_X9_readsPart at h
  refine r_aload_n (pc' := 1) dX9_readsPart_0 rfl 0 rfl rfl ?_
  refine r_iconst (pc' := 2) (v := 3) dX9_readsPart_1 (by decide) rfl ?_
  refine r_callV1 (pc' := 5) (k' := 0) (n' := 0) dX9_readsPart_2 mb_X9_is mi_X9_is hm.o (by decide) rfl lk_X9_107 rfl rfl rfl (Nat.le_of_ble_eq_true rfl) rfl (c_X9_is hm rfl (cpI ?_))
  refine r_if_eq (tgt := 15) (pc' := 8) dX9_readsPart_5 rfl rfl (fun h1 => ?_) (fun h1 => ?_)
  · have h := ifn (zb_n0 h1) h
    refine r_aload_n (pc' := 16) dX9_readsPart_15 rfl 0 rfl rfl ?_
    obtain ⟨z2, ez2, h⟩ := bd_e h
    refine r_callV0 (pc' := 19) (k' := 0) (n' := 0) dX9_readsPart_16 mb_X9_isBracketWord mi_X9_isBracketWord hm.o (by decide) rfl lk_X9_195 rfl rfl rfl (Nat.le_of_ble_eq_true rfl) rfl (c_X9_isBracketWord hm ez2 (cpI ?_))
    refine r_if_eq (tgt := 29) (pc' := 22) dX9_readsPart_19 rfl rfl (fun h3 => ?_) (fun h3 => ?_)
    · have h := ifn (zb_n0 h3) h
      refine r_aload_n (pc' := 30) dX9_readsPart_29 rfl 0 rfl rfl ?_
      refine r_bipush (pc' := 32) (v := 6) dX9_readsPart_30 (by decide) rfl ?_
      refine r_callV1 (pc' := 35) (k' := 0) (n' := 0) dX9_readsPart_32 mb_X9_is mi_X9_is hm.o (by decide) rfl lk_X9_107 rfl rfl rfl (Nat.le_of_ble_eq_true rfl) rfl (c_X9_is hm rfl (cpI ?_))
      refine r_if_eq (tgt := 52) (pc' := 38) dX9_readsPart_35 rfl rfl (fun h4 => ?_) (fun h4 => ?_)
      · have h := ifn (zb_n0 h4) h
        refine r_aload_n (pc' := 53) dX9_readsPart_52 rfl 0 rfl rfl ?_
        refine r_iconst (pc' := 54) (v := 1) dX9_readsPart_53 (by decide) rfl ?_
        refine r_callV1 (pc' := 57) (k' := 0) (n' := 0) dX9_readsPart_54 mb_X9_faults mi_X9_faults hm.o (by decide) rfl lk_X9_104 rfl rfl rfl (Nat.le_of_ble_eq_true rfl) rfl (c_X9_faults hm rfl (cpV ?_))
        have h := lx_e h
        cases h
        exact r_ret dX9_readsPart_57 rfl (by decide) (by decide) hQ
      · have h := ifp (zb_p0 h4) h
        refine r_aload_n (pc' := 39) dX9_readsPart_38 rfl 0 rfl rfl ?_
        refine r_getI (pc' := 42) dX9_readsPart_39 fa_X9_154 hm.o rfl rfl ?_
        refine r_if_le (tgt := 52) (pc' := 45) dX9_readsPart_42 rfl rfl (fun h6 => ?_) (fun h6 => ?_)
        · have h := ifp h6 h
          refine r_aload_n (pc' := 53) dX9_readsPart_52 rfl 0 rfl rfl ?_
          refine r_iconst (pc' := 54) (v := 1) dX9_readsPart_53 (by decide) rfl ?_
          refine r_callV1 (pc' := 57) (k' := 0) (n' := 0) dX9_readsPart_54 mb_X9_faults mi_X9_faults hm.o (by decide) rfl lk_X9_104 rfl rfl rfl (Nat.le_of_ble_eq_true rfl) rfl (c_X9_faults hm rfl (cpV ?_))
          have h := lx_e h
          cases h
          exact r_ret dX9_readsPart_57 rfl (by decide) (by decide) hQ
        · have h := ifn h6 h
          refine r_aload_n (pc' := 46) dX9_readsPart_45 rfl 0 rfl rfl ?_
          obtain ⟨I8, eI8, h⟩ := bd_e h
          refine r_callV0 (pc' := 49) (k' := 0) (n' := 0) dX9_readsPart_46 mb_X9_closesPart mi_X9_closesPart hm.o (by decide) rfl lk_X9_202 rfl rfl rfl (Nat.le_of_ble_eq_true rfl) rfl (c_X9_closesPart hm eI8 (cpV ?_))
          refine r_goto (tgt := 57) dX9_readsPart_49 rfl ?_
          cases h
          exact r_ret dX9_readsPart_57 rfl (by decide) (by decide) hQ
    · have h := ifp (zb_p0 h3) h
      refine r_aload_n (pc' := 23) dX9_readsPart_22 rfl 0 rfl rfl ?_
      obtain ⟨I9, eI9, h⟩ := bd_e h
      refine r_callV0 (pc' := 26) (k' := 0) (n' := 0) dX9_readsPart_23 mb_X9_opensPart mi_X9_opensPart hm.o (by decide) rfl lk_X9_199 rfl rfl rfl (Nat.le_of_ble_eq_true rfl) rfl (c_X9_opensPart hm eI9 (cpV ?_))
      refine r_goto (tgt := 57) dX9_readsPart_26 rfl ?_
      cases h
      exact r_ret dX9_readsPart_57 rfl (by decide) (by decide) hQ
  · have h := ifp (zb_p0 h1) h
    refine r_aload_n (pc' := 9) dX9_readsPart_8 rfl 0 rfl rfl ?_
    obtain ⟨I10, eI10, h⟩ := bd_e h
    refine r_callV0 (pc' := 12) (k' := 0) (n' := 0) dX9_readsPart_9 mb_X9_readsDeckCard mi_X9_readsDeckCard hm.o (by decide) rfl lk_X9_192 rfl rfl rfl (Nat.le_of_ble_eq_true rfl) rfl (c_X9_readsDeckCard hm eI10 (cpV ?_))
    refine r_goto (tgt := 57) dX9_readsPart_12 rfl ?_
    cases h
    exact r_ret dX9_readsPart_57 rfl (by decide) (by decide) hQ
set_option maxHeartbeats 4000000 in
theorem fr_X9_readsPart {I : JI} {m : Nat} {J : JI} {z : Nat} (h : s_X9_readsPart I m = some J) (hz_m1 : z ≠ (m + 1)) (hz_m7 : z ≠ (m + 7)) (hz_m8 : z ≠ (m + 8)) (hz_m9 : z ≠ (m + 9)) (hz_m : z ≠ m) : J z = I z := by
  unfold s_X9_readsPart at h
  rcases if_e h with h | h
  · obtain ⟨I10, e1, h⟩ := bd_e h
    cases h
    exact ((fr_X9_readsDeckCard e1 (by omega) (by omega) (by omega) (by omega)).trans rfl)
  · obtain ⟨o2, e2, h⟩ := bd_e h
    rcases if_e h with h | h
    · obtain ⟨I9, e3, h⟩ := bd_e h
      cases h
      exact ((fr_X9_opensPart e3 (by omega) (by omega) (by omega) (by omega)).trans rfl)
    · rcases if_e h with h | h
      · rcases if_e h with h | h
        · have h := lx_e h
          cases h
          exact ((fr_X9_faults (by omega)).trans rfl)
        · obtain ⟨I8, e4, h⟩ := bd_e h
          cases h
          exact ((fr_X9_closesPart e4 (by omega) (by omega) (by omega) (by omega)).trans rfl)
      · have h := lx_e h
        cases h
        exact ((fr_X9_faults (by omega)).trans rfl)
set_option maxHeartbeats 4000000 in
theorem ff_X9_readsPart {I : JI} {m : Nat} {J : JI} {k : Nat} (h : s_X9_readsPart I m = some J) (hk10 : k ≠ 10) (hk11 : k ≠ 11) (hk13 : k ≠ 13) (hk14 : k ≠ 14) (hk15 : k ≠ 15) (hk16 : k ≠ 16) (hk20 : k ≠ 20) : J m k = I m k := by
  unfold s_X9_readsPart at h
  rcases if_e h with h | h
  · obtain ⟨I10, e1, h⟩ := bd_e h
    cases h
    exact ((ff_X9_readsDeckCard e1 hk10 hk11 hk13 hk14 hk15 hk16).trans rfl)
  · obtain ⟨o2, e2, h⟩ := bd_e h
    rcases if_e h with h | h
    · obtain ⟨I9, e3, h⟩ := bd_e h
      cases h
      exact ((ff_X9_opensPart e3 hk10 hk11 hk13 hk14 hk15 hk16 hk20).trans rfl)
    · rcases if_e h with h | h
      · rcases if_e h with h | h
        · have h := lx_e h
          cases h
          exact ((ff_X9_faults hk10 hk11).trans rfl)
        · obtain ⟨I8, e4, h⟩ := bd_e h
          cases h
          exact ((ff_X9_closesPart e4 hk10 hk11 hk13 hk14 hk15 hk16 hk20).trans rfl)
      · have h := lx_e h
        cases h
        exact ((ff_X9_faults hk10 hk11).trans rfl)
noncomputable def s_X9_readsDeck_L41 (m : Nat) : Nat → Int32 → JI → Option (Int32 × JI)
  | 0, _, _ => none
  | f + 1, w1, I => gd (vp_in 4 2030) <| if (I (m + 1) (Int32.toNatClampNeg 4)) ≤ w1 then (some (w1, I)) else (gd (vp_in (164 + w1) 2030) <| gd (vp_in w1 400) <| lx (stI I (m + 7) (Int32.toNatClampNeg w1) (I (m + 1) (Int32.toNatClampNeg (164 + w1)))) fun I13 => s_X9_readsDeck_L41 m f (w1 + 1) I13)
noncomputable def s_X9_readsDeck_L98 (m : Nat) (q1 : Int32) : Nat → JI → Option (JI)
  | 0, _ => none
  | f + 1, I => bd (s_X9_readsPart I m) fun I18 => if (I18 m 10) = 0 then (if 0 < (I18 m 20) then (s_X9_readsDeck_L98 m q1 f  I18) else (if (s_X9_is I18 m 3) = true then (s_X9_readsDeck_L98 m q1 f  I18) else (bd (s_X9_isBracketWord I18 m) fun z22 => if z22 = true then (s_X9_readsDeck_L98 m q1 f  I18) else (some (I18))))) else (some (I18))
noncomputable def s_X9_readsDeck_L153 (m : Nat) : Nat → Int32 → JI → Option (Int32 × JI)
  | 0, _, _ => none
  | f + 1, w1, I => gd (vp_in 4 2030) <| if (I (m + 1) (Int32.toNatClampNeg 4)) ≤ w1 then (some (w1, I)) else (gd (vp_in w1 400) <| gd (vp_in (164 + w1) 2030) <| lx (stI I (m + 1) (Int32.toNatClampNeg (164 + w1)) (I (m + 7) (Int32.toNatClampNeg w1))) fun I34 => s_X9_readsDeck_L153 m f (w1 + 1) I34)
noncomputable def s_X9_readsDeck (I : JI) (m : Nat) : Option (JI) :=
  gd (vp_in 5 2030) <| if (I (m + 1) (Int32.toNatClampNeg 5)) ≤ 0 then (lx (s_X9_refuses I m false) fun I3 => bd (s_X9_goes I3 m) fun I4 => lx (stI I4 m 20 0) fun I5 => gd (vp_in 4 2030) <| gd (vp_in 0 4) <| lx (stI I5 (m + 8) (Int32.toNatClampNeg 0) (I5 (m + 1) (Int32.toNatClampNeg 4))) fun I8 => bd (s_X9_readsDeck_L41 m lf 0 I8) fun (y14, I15) => if (I15 m 10) = 0 then (gd (vp_in 7 2030) <| gd (vp_in 7 2030) <| lx (stI I15 (m + 1) (Int32.toNatClampNeg 7) (mxF (I15 (m + 1) (Int32.toNatClampNeg 7)) 1)) fun I40 => bd (s_X9_readsDeck_L98 m y14 lf  I40) fun I41 => if (I41 m 10) ≤ 0 then (gd (vp_in 0 4) <| gd (vp_in 4 2030) <| lx (stI I41 (m + 1) (Int32.toNatClampNeg 4) (I41 (m + 8) (Int32.toNatClampNeg 0))) fun I46 => bd (s_X9_readsDeck_L153 m lf 0 I46) fun (y47, I48) => some I48) else (some I41)) else (bd (s_X9_readsDeck_L98 m y14 lf  I15) fun I24 => if (I24 m 10) ≤ 0 then (gd (vp_in 0 4) <| gd (vp_in 4 2030) <| lx (stI I24 (m + 1) (Int32.toNatClampNeg 4) (I24 (m + 8) (Int32.toNatClampNeg 0))) fun I29 => bd (s_X9_readsDeck_L153 m lf 0 I29) fun (y35, I36) => some I36) else (some I24))) else (lx (s_X9_refuses I m true) fun I50 => bd (s_X9_goes I50 m) fun I51 => lx (stI I51 m 20 0) fun I52 => gd (vp_in 4 2030) <| gd (vp_in 0 4) <| lx (stI I52 (m + 8) (Int32.toNatClampNeg 0) (I52 (m + 1) (Int32.toNatClampNeg 4))) fun I55 => bd (s_X9_readsDeck_L41 m lf 0 I55) fun (y56, I57) => if (I57 m 10) = 0 then (gd (vp_in 7 2030) <| gd (vp_in 7 2030) <| lx (stI I57 (m + 1) (Int32.toNatClampNeg 7) (mxF (I57 (m + 1) (Int32.toNatClampNeg 7)) 1)) fun I71 => bd (s_X9_readsDeck_L98 m y56 lf  I71) fun I72 => if (I72 m 10) ≤ 0 then (gd (vp_in 0 4) <| gd (vp_in 4 2030) <| lx (stI I72 (m + 1) (Int32.toNatClampNeg 4) (I72 (m + 8) (Int32.toNatClampNeg 0))) fun I77 => bd (s_X9_readsDeck_L153 m lf 0 I77) fun (y78, I79) => some I79) else (some I72)) else (bd (s_X9_readsDeck_L98 m y56 lf  I57) fun I60 => if (I60 m 10) ≤ 0 then (gd (vp_in 0 4) <| gd (vp_in 4 2030) <| lx (stI I60 (m + 1) (Int32.toNatClampNeg 4) (I60 (m + 8) (Int32.toNatClampNeg 0))) fun I65 => bd (s_X9_readsDeck_L153 m lf 0 I65) fun (y66, I67) => some I67) else (some I60)))
set_option maxHeartbeats 4000000 in
theorem l_X9_readsDeck_L41 {Ω : JO} {S : JS} {Q : JQ} {m : Nat} (hm : Is9 S m) : ∀ (f : Nat) (w1 : Int32) (I : JI) (o : (Int32 × JI)), s_X9_readsDeck_L41 m f w1 I = some o → True → (∀ (y1 : Int32) (J : JI) , o = (y1, J) → AA Ω m_X9_readsDeck (FQ Ω m_X9_readsDeck Q) 0 0 73 [(1, .int y1), (0, .ref m)] [] J S) → AA Ω m_X9_readsDeck (FQ Ω m_X9_readsDeck Q) 0 0 41 [(1, .int w1), (0, .ref m)] [] I S := by
  intro f
  induction f with
  | zero =>
    intro w1 I o h hR hE
    rw [s_X9_readsDeck_L41] at h
    cases h
  | succ f ih =>
    intro w1 I o h hR hE
    rw [s_X9_readsDeck_L41] at h
    refine r_iload_n (pc' := 42) dX9_readsDeck_41 rfl 0 rfl rfl ?_
    refine r_aload_n (pc' := 43) dX9_readsDeck_42 rfl 1 rfl rfl ?_
    refine r_getO (pc' := 46) dX9_readsDeck_43 fa_X9_9 hm.o rfl hm.r1 rfl ?_
    refine r_iconst (pc' := 47) (v := 4) dX9_readsDeck_46 (by decide) rfl ?_
    obtain ⟨g9, h⟩ := gd_e h
    refine r_iaload (pc' := 48) dX9_readsDeck_47 hm.c1 g9 rfl ?_
    refine r_icmp_ge (tgt := 73) (pc' := 51) dX9_readsDeck_48 rfl rfl (fun h10 => ?_) (fun h10 => ?_)
    · have h := ifp h10 h
      cases h
      exact hE _ _ rfl
    · have h := ifn h10 h
      refine r_aload_n (pc' := 52) dX9_readsDeck_51 rfl 1 rfl rfl ?_
      refine r_getO (pc' := 55) dX9_readsDeck_52 fa_X9_34 hm.o rfl hm.r17 rfl ?_
      refine r_iload_n (pc' := 56) dX9_readsDeck_55 rfl 0 rfl rfl ?_
      refine r_aload_n (pc' := 57) dX9_readsDeck_56 rfl 1 rfl rfl ?_
      refine r_getO (pc' := 60) dX9_readsDeck_57 fa_X9_9 hm.o rfl hm.r1 rfl ?_
      refine r_sipush (pc' := 63) (v := 164) dX9_readsDeck_60 (by decide) rfl ?_
      refine r_iload_n (pc' := 64) dX9_readsDeck_63 rfl 0 rfl rfl ?_
      refine r_iadd (pc' := 65) dX9_readsDeck_64 rfl ?_
      obtain ⟨g11, h⟩ := gd_e h
      refine r_iaload (pc' := 66) dX9_readsDeck_65 hm.c1 g11 rfl ?_
      obtain ⟨g12, h⟩ := gd_e h
      refine r_iastore (pc' := 67) dX9_readsDeck_66 hm.c17 g12 rfl ?_
      have h := lx_e h
      refine r_iinc (pc' := 70) (v := _ + 1) (lv' := [(1, _), (0, _)]) dX9_readsDeck_67 0 rfl rfl (by decide) rfl rfl ?_
      refine r_goto (tgt := 41) dX9_readsDeck_70 rfl ?_
      exact ih _ _ _ h hR hE
set_option maxHeartbeats 4000000 in
theorem l_X9_readsDeck_L98 {Ω : JO} {S : JS} {Q : JQ} {m : Nat} {q1 : Int32} (hm : Is9 S m) : ∀ (f : Nat) (I : JI) (o : (JI)), s_X9_readsDeck_L98 m q1 f I = some o → True → (∀ (J : JI) , o = (J) → AA Ω m_X9_readsDeck (FQ Ω m_X9_readsDeck Q) 0 0 131 [(1, .int q1), (0, .ref m)] [] J S) → AA Ω m_X9_readsDeck (FQ Ω m_X9_readsDeck Q) 0 0 98 [(1, .int q1), (0, .ref m)] [] I S := by
  intro f
  induction f with
  | zero =>
    intro I o h hR hE
    rw [s_X9_readsDeck_L98] at h
    cases h
  | succ f ih =>
    intro I o h hR hE
    rw [s_X9_readsDeck_L98] at h
    refine r_aload_n (pc' := 99) dX9_readsDeck_98 rfl 1 rfl rfl ?_
    obtain ⟨I18, eI18, h⟩ := bd_e h
    refine r_callV0 (pc' := 102) (k' := 0) (n' := 0) dX9_readsDeck_99 mb_X9_readsPart mi_X9_readsPart hm.o (by decide) rfl lk_X9_205 rfl rfl rfl (Nat.le_of_ble_eq_true rfl) rfl (c_X9_readsPart hm eI18 (cpV ?_))
    refine r_aload_n (pc' := 103) dX9_readsDeck_102 rfl 1 rfl rfl ?_
    refine r_getI (pc' := 106) dX9_readsDeck_103 fa_X9_68 hm.o rfl rfl ?_
    refine r_if_ne (tgt := 131) (pc' := 109) dX9_readsDeck_106 rfl rfl (fun h19 => ?_) (fun h19 => ?_)
    · have h := ifn h19 h
      cases h
      exact hE _ rfl
    · have h := ifp h19 h
      refine r_aload_n (pc' := 110) dX9_readsDeck_109 rfl 1 rfl rfl ?_
      refine r_getI (pc' := 113) dX9_readsDeck_110 fa_X9_154 hm.o rfl rfl ?_
      refine r_if_gt (tgt := 98) (pc' := 116) dX9_readsDeck_113 rfl rfl (fun h20 => ?_) (fun h20 => ?_)
      · have h := ifp h20 h
        exact ih  _ _ h hR hE
      · have h := ifn h20 h
        refine r_aload_n (pc' := 117) dX9_readsDeck_116 rfl 1 rfl rfl ?_
        refine r_iconst (pc' := 118) (v := 3) dX9_readsDeck_117 (by decide) rfl ?_
        refine r_callV1 (pc' := 121) (k' := 0) (n' := 0) dX9_readsDeck_118 mb_X9_is mi_X9_is hm.o (by decide) rfl lk_X9_107 rfl rfl rfl (Nat.le_of_ble_eq_true rfl) rfl (c_X9_is hm rfl (cpI ?_))
        refine r_if_ne (tgt := 98) (pc' := 124) dX9_readsDeck_121 rfl rfl (fun h21 => ?_) (fun h21 => ?_)
        · have h := ifp (zb_p0 h21) h
          exact ih  _ _ h hR hE
        · have h := ifn (zb_n0 h21) h
          refine r_aload_n (pc' := 125) dX9_readsDeck_124 rfl 1 rfl rfl ?_
          obtain ⟨z22, ez22, h⟩ := bd_e h
          refine r_callV0 (pc' := 128) (k' := 0) (n' := 0) dX9_readsDeck_125 mb_X9_isBracketWord mi_X9_isBracketWord hm.o (by decide) rfl lk_X9_195 rfl rfl rfl (Nat.le_of_ble_eq_true rfl) rfl (c_X9_isBracketWord hm ez22 (cpI ?_))
          refine r_if_ne (tgt := 98) (pc' := 131) dX9_readsDeck_128 rfl rfl (fun h23 => ?_) (fun h23 => ?_)
          · have h := ifp (zb_p0 h23) h
            exact ih  _ _ h hR hE
          · have h := ifn (zb_n0 h23) h
            cases h
            exact hE _ rfl
set_option maxHeartbeats 4000000 in
theorem l_X9_readsDeck_L153 {Ω : JO} {S : JS} {Q : JQ} {m : Nat} (hm : Is9 S m) : ∀ (f : Nat) (w1 : Int32) (I : JI) (o : (Int32 × JI)), s_X9_readsDeck_L153 m f w1 I = some o → True → (∀ (y1 : Int32) (J : JI) , o = (y1, J) → AA Ω m_X9_readsDeck (FQ Ω m_X9_readsDeck Q) 0 0 185 [(1, .int y1), (0, .ref m)] [] J S) → AA Ω m_X9_readsDeck (FQ Ω m_X9_readsDeck Q) 0 0 153 [(1, .int w1), (0, .ref m)] [] I S := by
  intro f
  induction f with
  | zero =>
    intro w1 I o h hR hE
    rw [s_X9_readsDeck_L153] at h
    cases h
  | succ f ih =>
    intro w1 I o h hR hE
    rw [s_X9_readsDeck_L153] at h
    refine r_iload_n (pc' := 154) dX9_readsDeck_153 rfl 0 rfl rfl ?_
    refine r_aload_n (pc' := 155) dX9_readsDeck_154 rfl 1 rfl rfl ?_
    refine r_getO (pc' := 158) dX9_readsDeck_155 fa_X9_9 hm.o rfl hm.r1 rfl ?_
    refine r_iconst (pc' := 159) (v := 4) dX9_readsDeck_158 (by decide) rfl ?_
    obtain ⟨g30, h⟩ := gd_e h
    refine r_iaload (pc' := 160) dX9_readsDeck_159 hm.c1 g30 rfl ?_
    refine r_icmp_ge (tgt := 185) (pc' := 163) dX9_readsDeck_160 rfl rfl (fun h31 => ?_) (fun h31 => ?_)
    · have h := ifp h31 h
      cases h
      exact hE _ _ rfl
    · have h := ifn h31 h
      refine r_aload_n (pc' := 164) dX9_readsDeck_163 rfl 1 rfl rfl ?_
      refine r_getO (pc' := 167) dX9_readsDeck_164 fa_X9_9 hm.o rfl hm.r1 rfl ?_
      refine r_sipush (pc' := 170) (v := 164) dX9_readsDeck_167 (by decide) rfl ?_
      refine r_iload_n (pc' := 171) dX9_readsDeck_170 rfl 0 rfl rfl ?_
      refine r_iadd (pc' := 172) dX9_readsDeck_171 rfl ?_
      refine r_aload_n (pc' := 173) dX9_readsDeck_172 rfl 1 rfl rfl ?_
      refine r_getO (pc' := 176) dX9_readsDeck_173 fa_X9_34 hm.o rfl hm.r17 rfl ?_
      refine r_iload_n (pc' := 177) dX9_readsDeck_176 rfl 0 rfl rfl ?_
      obtain ⟨g32, h⟩ := gd_e h
      refine r_iaload (pc' := 178) dX9_readsDeck_177 hm.c17 g32 rfl ?_
      obtain ⟨g33, h⟩ := gd_e h
      refine r_iastore (pc' := 179) dX9_readsDeck_178 hm.c1 g33 rfl ?_
      have h := lx_e h
      refine r_iinc (pc' := 182) (v := _ + 1) (lv' := [(1, _), (0, _)]) dX9_readsDeck_179 0 rfl rfl (by decide) rfl rfl ?_
      refine r_goto (tgt := 153) dX9_readsDeck_182 rfl ?_
      exact ih _ _ _ h hR hE
set_option maxHeartbeats 4000000 in
theorem c_X9_readsDeck {Ω : JO} {I : JI} {S : JS} {Q : JQ} {m : Nat} {J : JI} (hm : Is9 S m) (h : s_X9_readsDeck I m = some J) (hQ : Q (.inl none) J S) : Call Ω m_X9_readsDeck [.ref m] I S Q := by
  refine call_of (by decide +kernel) rfl (Nat.le_of_ble_eq_true rfl) ?_
  change AA Ω m_X9_readsDeck (FQ Ω m_X9_readsDeck Q) 0 0 0 [(0, .ref m)] [] I S
  unfold s_X9_readsDeck at h
  refine r_aload_n (pc' := 1) dX9_readsDeck_0 rfl 0 rfl rfl ?_
  refine r_aload_n (pc' := 2) dX9_readsDeck_1 rfl 0 rfl rfl ?_
  refine r_getO (pc' := 5) dX9_readsDeck_2 fa_X9_9 hm.o rfl hm.r1 rfl ?_
  refine r_iconst (pc' := 6) (v := 5) dX9_readsDeck_5 (by decide) rfl ?_
  obtain ⟨g1, h⟩ := gd_e h
  refine r_iaload (pc' := 7) dX9_readsDeck_6 hm.c1 g1 rfl ?_
  refine r_if_le (tgt := 14) (pc' := 10) dX9_readsDeck_7 rfl rfl (fun h2 => ?_) (fun h2 => ?_)
  · have h := ifp h2 h
    refine r_iconst (pc' := 15) (v := 0) dX9_readsDeck_14 (by decide) rfl ?_
    refine r_callV1 (pc' := 18) (k' := 0) (n' := 0) dX9_readsDeck_15 mb_X9_refuses mi_X9_refuses hm.o (by decide) rfl lk_X9_138 rfl rfl rfl (Nat.le_of_ble_eq_true rfl) rfl (c_X9_refuses (b1 := false) hm rfl (cpV ?_))
    have h := lx_e h
    refine r_aload_n (pc' := 19) dX9_readsDeck_18 rfl 0 rfl rfl ?_
    obtain ⟨I4, eI4, h⟩ := bd_e h
    refine r_callV0 (pc' := 22) (k' := 0) (n' := 0) dX9_readsDeck_19 mb_X9_goes mi_X9_goes hm.o (by decide) rfl lk_X9_124 rfl rfl rfl (Nat.le_of_ble_eq_true rfl) rfl (c_X9_goes hm eI4 (cpV ?_))
    refine r_aload_n (pc' := 23) dX9_readsDeck_22 rfl 0 rfl rfl ?_
    refine r_iconst (pc' := 24) (v := 0) dX9_readsDeck_23 (by decide) rfl ?_
    refine r_putI (pc' := 27) dX9_readsDeck_24 fa_X9_154 hm.o rfl rfl ?_
    have h := lx_e h
    refine r_aload_n (pc' := 28) dX9_readsDeck_27 rfl 0 rfl rfl ?_
    refine r_getO (pc' := 31) dX9_readsDeck_28 fa_X9_37 hm.o rfl hm.r18 rfl ?_
    refine r_iconst (pc' := 32) (v := 0) dX9_readsDeck_31 (by decide) rfl ?_
    refine r_aload_n (pc' := 33) dX9_readsDeck_32 rfl 0 rfl rfl ?_
    refine r_getO (pc' := 36) dX9_readsDeck_33 fa_X9_9 hm.o rfl hm.r1 rfl ?_
    refine r_iconst (pc' := 37) (v := 4) dX9_readsDeck_36 (by decide) rfl ?_
    obtain ⟨g6, h⟩ := gd_e h
    refine r_iaload (pc' := 38) dX9_readsDeck_37 hm.c1 g6 rfl ?_
    obtain ⟨g7, h⟩ := gd_e h
    refine r_iastore (pc' := 39) dX9_readsDeck_38 hm.c18 g7 rfl ?_
    have h := lx_e h
    refine r_iconst (pc' := 40) (v := 0) dX9_readsDeck_39 (by decide) rfl ?_
    refine r_istore_n (pc' := 41) (lv' := [(1, _), (0, _)]) dX9_readsDeck_40 rfl (by decide) rfl rfl ?_
    obtain ⟨o16, eo16, h⟩ := bd_e h
    refine l_X9_readsDeck_L41 (Ω := Ω) hm _ _ _ _ eo16 trivial (fun y14 I15 q => ?_)
    subst q
    refine r_aload_n (pc' := 74) dX9_readsDeck_73 rfl 1 rfl rfl ?_
    refine r_getI (pc' := 77) dX9_readsDeck_74 fa_X9_68 hm.o rfl rfl ?_
    refine r_if_ne (tgt := 98) (pc' := 80) dX9_readsDeck_77 rfl rfl (fun h17 => ?_) (fun h17 => ?_)
    · have h := ifn h17 h
      obtain ⟨o25, eo25, h⟩ := bd_e h
      refine l_X9_readsDeck_L98 (Ω := Ω) hm _ _ _ eo25 trivial (fun I24 q => ?_)
      subst q
      refine r_aload_n (pc' := 132) dX9_readsDeck_131 rfl 1 rfl rfl ?_
      refine r_getI (pc' := 135) dX9_readsDeck_132 fa_X9_68 hm.o rfl rfl ?_
      refine r_if_le (tgt := 139) (pc' := 138) dX9_readsDeck_135 rfl rfl (fun h26 => ?_) (fun h26 => ?_)
      · have h := ifp h26 h
        refine r_aload_n (pc' := 140) dX9_readsDeck_139 rfl 1 rfl rfl ?_
        refine r_getO (pc' := 143) dX9_readsDeck_140 fa_X9_9 hm.o rfl hm.r1 rfl ?_
        refine r_iconst (pc' := 144) (v := 4) dX9_readsDeck_143 (by decide) rfl ?_
        refine r_aload_n (pc' := 145) dX9_readsDeck_144 rfl 1 rfl rfl ?_
        refine r_getO (pc' := 148) dX9_readsDeck_145 fa_X9_37 hm.o rfl hm.r18 rfl ?_
        refine r_iconst (pc' := 149) (v := 0) dX9_readsDeck_148 (by decide) rfl ?_
        obtain ⟨g27, h⟩ := gd_e h
        refine r_iaload (pc' := 150) dX9_readsDeck_149 hm.c18 g27 rfl ?_
        obtain ⟨g28, h⟩ := gd_e h
        refine r_iastore (pc' := 151) dX9_readsDeck_150 hm.c1 g28 rfl ?_
        have h := lx_e h
        refine r_iconst (pc' := 152) (v := 0) dX9_readsDeck_151 (by decide) rfl ?_
        refine r_istore_n (pc' := 153) (lv' := [(1, _), (0, _)]) dX9_readsDeck_152 rfl (by decide) rfl rfl ?_
        obtain ⟨o37, eo37, h⟩ := bd_e h
        refine l_X9_readsDeck_L153 (Ω := Ω) hm _ _ _ _ eo37 trivial (fun y35 I36 q => ?_)
        subst q
        cases h
        exact r_ret dX9_readsDeck_185 rfl (by decide) (by decide) hQ
      · have h := ifn h26 h
        cases h
        exact r_ret dX9_readsDeck_138 rfl (by decide) (by decide) hQ
    · have h := ifp h17 h
      refine r_aload_n (pc' := 81) dX9_readsDeck_80 rfl 1 rfl rfl ?_
      refine r_getO (pc' := 84) dX9_readsDeck_81 fa_X9_9 hm.o rfl hm.r1 rfl ?_
      refine r_bipush (pc' := 86) (v := 7) dX9_readsDeck_84 (by decide) rfl ?_
      refine r_aload_n (pc' := 87) dX9_readsDeck_86 rfl 1 rfl rfl ?_
      refine r_getO (pc' := 90) dX9_readsDeck_87 fa_X9_9 hm.o rfl hm.r1 rfl ?_
      refine r_bipush (pc' := 92) (v := 7) dX9_readsDeck_90 (by decide) rfl ?_
      obtain ⟨g38, h⟩ := gd_e h
      refine r_iaload (pc' := 93) dX9_readsDeck_92 hm.c1 g38 rfl ?_
      refine r_iconst (pc' := 94) (v := 1) dX9_readsDeck_93 (by decide) rfl ?_
      refine r_mmax (pc' := 97) dX9_readsDeck_94 mw_X9_177 (by decide) (Nat.le_of_ble_eq_true rfl) (by decide) (by decide) rfl ?_
      obtain ⟨g39, h⟩ := gd_e h
      refine r_iastore (pc' := 98) dX9_readsDeck_97 hm.c1 g39 rfl ?_
      have h := lx_e h
      obtain ⟨o42, eo42, h⟩ := bd_e h
      refine l_X9_readsDeck_L98 (Ω := Ω) hm _ _ _ eo42 trivial (fun I41 q => ?_)
      subst q
      refine r_aload_n (pc' := 132) dX9_readsDeck_131 rfl 1 rfl rfl ?_
      refine r_getI (pc' := 135) dX9_readsDeck_132 fa_X9_68 hm.o rfl rfl ?_
      refine r_if_le (tgt := 139) (pc' := 138) dX9_readsDeck_135 rfl rfl (fun h43 => ?_) (fun h43 => ?_)
      · have h := ifp h43 h
        refine r_aload_n (pc' := 140) dX9_readsDeck_139 rfl 1 rfl rfl ?_
        refine r_getO (pc' := 143) dX9_readsDeck_140 fa_X9_9 hm.o rfl hm.r1 rfl ?_
        refine r_iconst (pc' := 144) (v := 4) dX9_readsDeck_143 (by decide) rfl ?_
        refine r_aload_n (pc' := 145) dX9_readsDeck_144 rfl 1 rfl rfl ?_
        refine r_getO (pc' := 148) dX9_readsDeck_145 fa_X9_37 hm.o rfl hm.r18 rfl ?_
        refine r_iconst (pc' := 149) (v := 0) dX9_readsDeck_148 (by decide) rfl ?_
        obtain ⟨g44, h⟩ := gd_e h
        refine r_iaload (pc' := 150) dX9_readsDeck_149 hm.c18 g44 rfl ?_
        obtain ⟨g45, h⟩ := gd_e h
        refine r_iastore (pc' := 151) dX9_readsDeck_150 hm.c1 g45 rfl ?_
        have h := lx_e h
        refine r_iconst (pc' := 152) (v := 0) dX9_readsDeck_151 (by decide) rfl ?_
        refine r_istore_n (pc' := 153) (lv' := [(1, _), (0, _)]) dX9_readsDeck_152 rfl (by decide) rfl rfl ?_
        obtain ⟨o49, eo49, h⟩ := bd_e h
        refine l_X9_readsDeck_L153 (Ω := Ω) hm _ _ _ _ eo49 trivial (fun y47 I48 q => ?_)
        subst q
        cases h
        exact r_ret dX9_readsDeck_185 rfl (by decide) (by decide) hQ
      · have h := ifn h43 h
        cases h
        exact r_ret dX9_readsDeck_138 rfl (by decide) (by decide) hQ
  · have h := ifn h2 h
    refine r_iconst (pc' := 11) (v := 1) dX9_readsDeck_10 (by decide) rfl ?_
    refine r_goto (tgt := 15) dX9_readsDeck_11 rfl ?_
    refine r_callV1 (pc' := 18) (k' := 0) (n' := 0) dX9_readsDeck_15 mb_X9_refuses mi_X9_refuses hm.o (by decide) rfl lk_X9_138 rfl rfl rfl (Nat.le_of_ble_eq_true rfl) rfl (c_X9_refuses (b1 := true) hm rfl (cpV ?_))
    have h := lx_e h
    refine r_aload_n (pc' := 19) dX9_readsDeck_18 rfl 0 rfl rfl ?_
    obtain ⟨I51, eI51, h⟩ := bd_e h
    refine r_callV0 (pc' := 22) (k' := 0) (n' := 0) dX9_readsDeck_19 mb_X9_goes mi_X9_goes hm.o (by decide) rfl lk_X9_124 rfl rfl rfl (Nat.le_of_ble_eq_true rfl) rfl (c_X9_goes hm eI51 (cpV ?_))
    refine r_aload_n (pc' := 23) dX9_readsDeck_22 rfl 0 rfl rfl ?_
    refine r_iconst (pc' := 24) (v := 0) dX9_readsDeck_23 (by decide) rfl ?_
    refine r_putI (pc' := 27) dX9_readsDeck_24 fa_X9_154 hm.o rfl rfl ?_
    have h := lx_e h
    refine r_aload_n (pc' := 28) dX9_readsDeck_27 rfl 0 rfl rfl ?_
    refine r_getO (pc' := 31) dX9_readsDeck_28 fa_X9_37 hm.o rfl hm.r18 rfl ?_
    refine r_iconst (pc' := 32) (v := 0) dX9_readsDeck_31 (by decide) rfl ?_
    refine r_aload_n (pc' := 33) dX9_readsDeck_32 rfl 0 rfl rfl ?_
    refine r_getO (pc' := 36) dX9_readsDeck_33 fa_X9_9 hm.o rfl hm.r1 rfl ?_
    refine r_iconst (pc' := 37) (v := 4) dX9_readsDeck_36 (by decide) rfl ?_
    obtain ⟨g53, h⟩ := gd_e h
    refine r_iaload (pc' := 38) dX9_readsDeck_37 hm.c1 g53 rfl ?_
    obtain ⟨g54, h⟩ := gd_e h
    refine r_iastore (pc' := 39) dX9_readsDeck_38 hm.c18 g54 rfl ?_
    have h := lx_e h
    refine r_iconst (pc' := 40) (v := 0) dX9_readsDeck_39 (by decide) rfl ?_
    refine r_istore_n (pc' := 41) (lv' := [(1, _), (0, _)]) dX9_readsDeck_40 rfl (by decide) rfl rfl ?_
    obtain ⟨o58, eo58, h⟩ := bd_e h
    refine l_X9_readsDeck_L41 (Ω := Ω) hm _ _ _ _ eo58 trivial (fun y56 I57 q => ?_)
    subst q
    refine r_aload_n (pc' := 74) dX9_readsDeck_73 rfl 1 rfl rfl ?_
    refine r_getI (pc' := 77) dX9_readsDeck_74 fa_X9_68 hm.o rfl rfl ?_
    refine r_if_ne (tgt := 98) (pc' := 80) dX9_readsDeck_77 rfl rfl (fun h59 => ?_) (fun h59 => ?_)
    · have h := ifn h59 h
      obtain ⟨o61, eo61, h⟩ := bd_e h
      refine l_X9_readsDeck_L98 (Ω := Ω) hm _ _ _ eo61 trivial (fun I60 q => ?_)
      subst q
      refine r_aload_n (pc' := 132) dX9_readsDeck_131 rfl 1 rfl rfl ?_
      refine r_getI (pc' := 135) dX9_readsDeck_132 fa_X9_68 hm.o rfl rfl ?_
      refine r_if_le (tgt := 139) (pc' := 138) dX9_readsDeck_135 rfl rfl (fun h62 => ?_) (fun h62 => ?_)
      · have h := ifp h62 h
        refine r_aload_n (pc' := 140) dX9_readsDeck_139 rfl 1 rfl rfl ?_
        refine r_getO (pc' := 143) dX9_readsDeck_140 fa_X9_9 hm.o rfl hm.r1 rfl ?_
        refine r_iconst (pc' := 144) (v := 4) dX9_readsDeck_143 (by decide) rfl ?_
        refine r_aload_n (pc' := 145) dX9_readsDeck_144 rfl 1 rfl rfl ?_
        refine r_getO (pc' := 148) dX9_readsDeck_145 fa_X9_37 hm.o rfl hm.r18 rfl ?_
        refine r_iconst (pc' := 149) (v := 0) dX9_readsDeck_148 (by decide) rfl ?_
        obtain ⟨g63, h⟩ := gd_e h
        refine r_iaload (pc' := 150) dX9_readsDeck_149 hm.c18 g63 rfl ?_
        obtain ⟨g64, h⟩ := gd_e h
        refine r_iastore (pc' := 151) dX9_readsDeck_150 hm.c1 g64 rfl ?_
        have h := lx_e h
        refine r_iconst (pc' := 152) (v := 0) dX9_readsDeck_151 (by decide) rfl ?_
        refine r_istore_n (pc' := 153) (lv' := [(1, _), (0, _)]) dX9_readsDeck_152 rfl (by decide) rfl rfl ?_
        obtain ⟨o68, eo68, h⟩ := bd_e h
        refine l_X9_readsDeck_L153 (Ω := Ω) hm _ _ _ _ eo68 trivial (fun y66 I67 q => ?_)
        subst q
        cases h
        exact r_ret dX9_readsDeck_185 rfl (by decide) (by decide) hQ
      · have h := ifn h62 h
        cases h
        exact r_ret dX9_readsDeck_138 rfl (by decide) (by decide) hQ
    · have h := ifp h59 h
      refine r_aload_n (pc' := 81) dX9_readsDeck_80 rfl 1 rfl rfl ?_
      refine r_getO (pc' := 84) dX9_readsDeck_81 fa_X9_9 hm.o rfl hm.r1 rfl ?_
      refine r_bipush (pc' := 86) (v := 7) dX9_readsDeck_84 (by decide) rfl ?_
      refine r_aload_n (pc' := 87) dX9_readsDeck_86 rfl 1 rfl rfl ?_
      refine r_getO (pc' := 90) dX9_readsDeck_87 fa_X9_9 hm.o rfl hm.r1 rfl ?_
      refine r_bipush (pc' := 92) (v := 7) dX9_readsDeck_90 (by decide) rfl ?_
      obtain ⟨g69, h⟩ := gd_e h
      refine r_iaload (pc' := 93) dX9_readsDeck_92 hm.c1 g69 rfl ?_
      refine r_iconst (pc' := 94) (v := 1) dX9_readsDeck_93 (by decide) rfl ?_
      refine r_mmax (pc' := 97) dX9_readsDeck_94 mw_X9_177 (by decide) (Nat.le_of_ble_eq_true rfl) (by decide) (by decide) rfl ?_
      obtain ⟨g70, h⟩ := gd_e h
      refine r_iastore (pc' := 98) dX9_readsDeck_97 hm.c1 g70 rfl ?_
      have h := lx_e h
      obtain ⟨o73, eo73, h⟩ := bd_e h
      refine l_X9_readsDeck_L98 (Ω := Ω) hm _ _ _ eo73 trivial (fun I72 q => ?_)
      subst q
      refine r_aload_n (pc' := 132) dX9_readsDeck_131 rfl 1 rfl rfl ?_
      refine r_getI (pc' := 135) dX9_readsDeck_132 fa_X9_68 hm.o rfl rfl ?_
      refine r_if_le (tgt := 139) (pc' := 138) dX9_readsDeck_135 rfl rfl (fun h74 => ?_) (fun h74 => ?_)
      · have h := ifp h74 h
        refine r_aload_n (pc' := 140) dX9_readsDeck_139 rfl 1 rfl rfl ?_
        refine r_getO (pc' := 143) dX9_readsDeck_140 fa_X9_9 hm.o rfl hm.r1 rfl ?_
        refine r_iconst (pc' := 144) (v := 4) dX9_readsDeck_143 (by decide) rfl ?_
        refine r_aload_n (pc' := 145) dX9_readsDeck_144 rfl 1 rfl rfl ?_
        refine r_getO (pc' := 148) dX9_readsDeck_145 fa_X9_37 hm.o rfl hm.r18 rfl ?_
        refine r_iconst (pc' := 149) (v := 0) dX9_readsDeck_148 (by decide) rfl ?_
        obtain ⟨g75, h⟩ := gd_e h
        refine r_iaload (pc' := 150) dX9_readsDeck_149 hm.c18 g75 rfl ?_
        obtain ⟨g76, h⟩ := gd_e h
        refine r_iastore (pc' := 151) dX9_readsDeck_150 hm.c1 g76 rfl ?_
        have h := lx_e h
        refine r_iconst (pc' := 152) (v := 0) dX9_readsDeck_151 (by decide) rfl ?_
        refine r_istore_n (pc' := 153) (lv' := [(1, _), (0, _)]) dX9_readsDeck_152 rfl (by decide) rfl rfl ?_
        obtain ⟨o80, eo80, h⟩ := bd_e h
        refine l_X9_readsDeck_L153 (Ω := Ω) hm _ _ _ _ eo80 trivial (fun y78 I79 q => ?_)
        subst q
        cases h
        exact r_ret dX9_readsDeck_185 rfl (by decide) (by decide) hQ
      · have h := ifn h74 h
        cases h
        exact r_ret dX9_readsDeck_138 rfl (by decide) (by decide) hQ
theorem frl_X9_readsDeck_L41 {m : Nat} {z : Nat} (hz_m1 : z ≠ (m + 1)) (hz_m7 : z ≠ (m + 7)) (hz_m8 : z ≠ (m + 8)) (hz_m9 : z ≠ (m + 9)) (hz_m : z ≠ m) : ∀ (f : Nat) (w1 : Int32) (I : JI) (o : (Int32 × JI)), s_X9_readsDeck_L41 m f w1 I = some o → (∀ (y1 : Int32) (J : JI), o = (y1, J) → J z = I z) := by
  intro f
  induction f with
  | zero =>
    intro w1 I o h
    rw [s_X9_readsDeck_L41] at h
    cases h
  | succ f ih =>
    intro w1 I o h
    rw [s_X9_readsDeck_L41] at h
    obtain ⟨g1, h⟩ := gd_e h
    rcases if_e h with h | h
    · cases h
      intro _ _ q
      cases q
      exact rfl
    · obtain ⟨g2, h⟩ := gd_e h
      obtain ⟨g3, h⟩ := gd_e h
      have h := lx_e h
      intro _ _ q
      exact ((ih _ _ _ h) _ _ q).trans ((fr_stI (by omega)).trans rfl)
theorem frl_X9_readsDeck_L98 {m : Nat} {q1 : Int32} {z : Nat} (hz_m1 : z ≠ (m + 1)) (hz_m7 : z ≠ (m + 7)) (hz_m8 : z ≠ (m + 8)) (hz_m9 : z ≠ (m + 9)) (hz_m : z ≠ m) : ∀ (f : Nat) (I : JI) (o : (JI)), s_X9_readsDeck_L98 m q1 f I = some o → (∀ (J : JI), o = (J) → J z = I z) := by
  intro f
  induction f with
  | zero =>
    intro I o h
    rw [s_X9_readsDeck_L98] at h
    cases h
  | succ f ih =>
    intro I o h
    rw [s_X9_readsDeck_L98] at h
    obtain ⟨I18, e1, h⟩ := bd_e h
    rcases if_e h with h | h
    · rcases if_e h with h | h
      · intro _ q
        exact ((ih  _ _ h) _ q).trans ((fr_X9_readsPart e1 (by omega) (by omega) (by omega) (by omega) (by omega)).trans rfl)
      · rcases if_e h with h | h
        · intro _ q
          exact ((ih  _ _ h) _ q).trans ((fr_X9_readsPart e1 (by omega) (by omega) (by omega) (by omega) (by omega)).trans rfl)
        · obtain ⟨o2, e2, h⟩ := bd_e h
          rcases if_e h with h | h
          · intro _ q
            exact ((ih  _ _ h) _ q).trans ((fr_X9_readsPart e1 (by omega) (by omega) (by omega) (by omega) (by omega)).trans rfl)
          · cases h
            intro _ q
            cases q
            exact ((fr_X9_readsPart e1 (by omega) (by omega) (by omega) (by omega) (by omega)).trans rfl)
    · cases h
      intro _ q
      cases q
      exact ((fr_X9_readsPart e1 (by omega) (by omega) (by omega) (by omega) (by omega)).trans rfl)
theorem frl_X9_readsDeck_L153 {m : Nat} {z : Nat} (hz_m1 : z ≠ (m + 1)) (hz_m7 : z ≠ (m + 7)) (hz_m8 : z ≠ (m + 8)) (hz_m9 : z ≠ (m + 9)) (hz_m : z ≠ m) : ∀ (f : Nat) (w1 : Int32) (I : JI) (o : (Int32 × JI)), s_X9_readsDeck_L153 m f w1 I = some o → (∀ (y1 : Int32) (J : JI), o = (y1, J) → J z = I z) := by
  intro f
  induction f with
  | zero =>
    intro w1 I o h
    rw [s_X9_readsDeck_L153] at h
    cases h
  | succ f ih =>
    intro w1 I o h
    rw [s_X9_readsDeck_L153] at h
    obtain ⟨g1, h⟩ := gd_e h
    rcases if_e h with h | h
    · cases h
      intro _ _ q
      cases q
      exact rfl
    · obtain ⟨g2, h⟩ := gd_e h
      obtain ⟨g3, h⟩ := gd_e h
      have h := lx_e h
      intro _ _ q
      exact ((ih _ _ _ h) _ _ q).trans ((fr_stI (by omega)).trans rfl)
set_option maxHeartbeats 4000000 in
theorem fr_X9_readsDeck {I : JI} {m : Nat} {J : JI} {z : Nat} (h : s_X9_readsDeck I m = some J) (hz_m1 : z ≠ (m + 1)) (hz_m7 : z ≠ (m + 7)) (hz_m8 : z ≠ (m + 8)) (hz_m9 : z ≠ (m + 9)) (hz_m : z ≠ m) : J z = I z := by
  unfold s_X9_readsDeck at h
  obtain ⟨g1, h⟩ := gd_e h
  rcases if_e h with h | h
  · have h := lx_e h
    obtain ⟨I4, e2, h⟩ := bd_e h
    have h := lx_e h
    obtain ⟨g3, h⟩ := gd_e h
    obtain ⟨g4, h⟩ := gd_e h
    have h := lx_e h
    obtain ⟨o5, e5, h⟩ := bd_e h
    obtain ⟨y14, I15⟩ := o5
    rcases if_e h with h | h
    · obtain ⟨g6, h⟩ := gd_e h
      obtain ⟨g7, h⟩ := gd_e h
      have h := lx_e h
      obtain ⟨I41, e8, h⟩ := bd_e h
      rcases if_e h with h | h
      · obtain ⟨g9, h⟩ := gd_e h
        obtain ⟨g10, h⟩ := gd_e h
        have h := lx_e h
        obtain ⟨o11, e11, h⟩ := bd_e h
        obtain ⟨y47, I48⟩ := o11
        cases h
        exact (((frl_X9_readsDeck_L153 hz_m1 hz_m7 hz_m8 hz_m9 hz_m _ _ _ _ e11) _ _ rfl).trans ((fr_stI (by omega)).trans (((frl_X9_readsDeck_L98 hz_m1 hz_m7 hz_m8 hz_m9 hz_m _  _ _ e8) _ rfl).trans ((fr_stI (by omega)).trans (((frl_X9_readsDeck_L41 hz_m1 hz_m7 hz_m8 hz_m9 hz_m _ _ _ _ e5) _ _ rfl).trans ((fr_stI (by omega)).trans ((fr_stI (by omega)).trans ((fr_X9_goes e2 (by omega)).trans ((fr_X9_refuses (by omega)).trans rfl)))))))))
      · cases h
        exact (((frl_X9_readsDeck_L98 hz_m1 hz_m7 hz_m8 hz_m9 hz_m _  _ _ e8) _ rfl).trans ((fr_stI (by omega)).trans (((frl_X9_readsDeck_L41 hz_m1 hz_m7 hz_m8 hz_m9 hz_m _ _ _ _ e5) _ _ rfl).trans ((fr_stI (by omega)).trans ((fr_stI (by omega)).trans ((fr_X9_goes e2 (by omega)).trans ((fr_X9_refuses (by omega)).trans rfl)))))))
    · obtain ⟨I24, e12, h⟩ := bd_e h
      rcases if_e h with h | h
      · obtain ⟨g13, h⟩ := gd_e h
        obtain ⟨g14, h⟩ := gd_e h
        have h := lx_e h
        obtain ⟨o15, e15, h⟩ := bd_e h
        obtain ⟨y35, I36⟩ := o15
        cases h
        exact (((frl_X9_readsDeck_L153 hz_m1 hz_m7 hz_m8 hz_m9 hz_m _ _ _ _ e15) _ _ rfl).trans ((fr_stI (by omega)).trans (((frl_X9_readsDeck_L98 hz_m1 hz_m7 hz_m8 hz_m9 hz_m _  _ _ e12) _ rfl).trans (((frl_X9_readsDeck_L41 hz_m1 hz_m7 hz_m8 hz_m9 hz_m _ _ _ _ e5) _ _ rfl).trans ((fr_stI (by omega)).trans ((fr_stI (by omega)).trans ((fr_X9_goes e2 (by omega)).trans ((fr_X9_refuses (by omega)).trans rfl))))))))
      · cases h
        exact (((frl_X9_readsDeck_L98 hz_m1 hz_m7 hz_m8 hz_m9 hz_m _  _ _ e12) _ rfl).trans (((frl_X9_readsDeck_L41 hz_m1 hz_m7 hz_m8 hz_m9 hz_m _ _ _ _ e5) _ _ rfl).trans ((fr_stI (by omega)).trans ((fr_stI (by omega)).trans ((fr_X9_goes e2 (by omega)).trans ((fr_X9_refuses (by omega)).trans rfl))))))
  · have h := lx_e h
    obtain ⟨I51, e16, h⟩ := bd_e h
    have h := lx_e h
    obtain ⟨g17, h⟩ := gd_e h
    obtain ⟨g18, h⟩ := gd_e h
    have h := lx_e h
    obtain ⟨o19, e19, h⟩ := bd_e h
    obtain ⟨y56, I57⟩ := o19
    rcases if_e h with h | h
    · obtain ⟨g20, h⟩ := gd_e h
      obtain ⟨g21, h⟩ := gd_e h
      have h := lx_e h
      obtain ⟨I72, e22, h⟩ := bd_e h
      rcases if_e h with h | h
      · obtain ⟨g23, h⟩ := gd_e h
        obtain ⟨g24, h⟩ := gd_e h
        have h := lx_e h
        obtain ⟨o25, e25, h⟩ := bd_e h
        obtain ⟨y78, I79⟩ := o25
        cases h
        exact (((frl_X9_readsDeck_L153 hz_m1 hz_m7 hz_m8 hz_m9 hz_m _ _ _ _ e25) _ _ rfl).trans ((fr_stI (by omega)).trans (((frl_X9_readsDeck_L98 hz_m1 hz_m7 hz_m8 hz_m9 hz_m _  _ _ e22) _ rfl).trans ((fr_stI (by omega)).trans (((frl_X9_readsDeck_L41 hz_m1 hz_m7 hz_m8 hz_m9 hz_m _ _ _ _ e19) _ _ rfl).trans ((fr_stI (by omega)).trans ((fr_stI (by omega)).trans ((fr_X9_goes e16 (by omega)).trans ((fr_X9_refuses (by omega)).trans rfl)))))))))
      · cases h
        exact (((frl_X9_readsDeck_L98 hz_m1 hz_m7 hz_m8 hz_m9 hz_m _  _ _ e22) _ rfl).trans ((fr_stI (by omega)).trans (((frl_X9_readsDeck_L41 hz_m1 hz_m7 hz_m8 hz_m9 hz_m _ _ _ _ e19) _ _ rfl).trans ((fr_stI (by omega)).trans ((fr_stI (by omega)).trans ((fr_X9_goes e16 (by omega)).trans ((fr_X9_refuses (by omega)).trans rfl)))))))
    · obtain ⟨I60, e26, h⟩ := bd_e h
      rcases if_e h with h | h
      · obtain ⟨g27, h⟩ := gd_e h
        obtain ⟨g28, h⟩ := gd_e h
        have h := lx_e h
        obtain ⟨o29, e29, h⟩ := bd_e h
        obtain ⟨y66, I67⟩ := o29
        cases h
        exact (((frl_X9_readsDeck_L153 hz_m1 hz_m7 hz_m8 hz_m9 hz_m _ _ _ _ e29) _ _ rfl).trans ((fr_stI (by omega)).trans (((frl_X9_readsDeck_L98 hz_m1 hz_m7 hz_m8 hz_m9 hz_m _  _ _ e26) _ rfl).trans (((frl_X9_readsDeck_L41 hz_m1 hz_m7 hz_m8 hz_m9 hz_m _ _ _ _ e19) _ _ rfl).trans ((fr_stI (by omega)).trans ((fr_stI (by omega)).trans ((fr_X9_goes e16 (by omega)).trans ((fr_X9_refuses (by omega)).trans rfl))))))))
      · cases h
        exact (((frl_X9_readsDeck_L98 hz_m1 hz_m7 hz_m8 hz_m9 hz_m _  _ _ e26) _ rfl).trans (((frl_X9_readsDeck_L41 hz_m1 hz_m7 hz_m8 hz_m9 hz_m _ _ _ _ e19) _ _ rfl).trans ((fr_stI (by omega)).trans ((fr_stI (by omega)).trans ((fr_X9_goes e16 (by omega)).trans ((fr_X9_refuses (by omega)).trans rfl))))))
theorem ffl_X9_readsDeck_L41 {m : Nat} {k : Nat} (hk10 : k ≠ 10) (hk11 : k ≠ 11) (hk13 : k ≠ 13) (hk14 : k ≠ 14) (hk15 : k ≠ 15) (hk16 : k ≠ 16) (hk20 : k ≠ 20) : ∀ (f : Nat) (w1 : Int32) (I : JI) (o : (Int32 × JI)), s_X9_readsDeck_L41 m f w1 I = some o → (∀ (y1 : Int32) (J : JI), o = (y1, J) → J m k = I m k) := by
  intro f
  induction f with
  | zero =>
    intro w1 I o h
    rw [s_X9_readsDeck_L41] at h
    cases h
  | succ f ih =>
    intro w1 I o h
    rw [s_X9_readsDeck_L41] at h
    obtain ⟨g1, h⟩ := gd_e h
    rcases if_e h with h | h
    · cases h
      intro _ _ q
      cases q
      exact rfl
    · obtain ⟨g2, h⟩ := gd_e h
      obtain ⟨g3, h⟩ := gd_e h
      have h := lx_e h
      intro _ _ q
      exact ((ih _ _ _ h) _ _ q).trans ((congrFun (fr_stI (by omega)) k).trans rfl)
theorem ffl_X9_readsDeck_L98 {m : Nat} {q1 : Int32} {k : Nat} (hk10 : k ≠ 10) (hk11 : k ≠ 11) (hk13 : k ≠ 13) (hk14 : k ≠ 14) (hk15 : k ≠ 15) (hk16 : k ≠ 16) (hk20 : k ≠ 20) : ∀ (f : Nat) (I : JI) (o : (JI)), s_X9_readsDeck_L98 m q1 f I = some o → (∀ (J : JI), o = (J) → J m k = I m k) := by
  intro f
  induction f with
  | zero =>
    intro I o h
    rw [s_X9_readsDeck_L98] at h
    cases h
  | succ f ih =>
    intro I o h
    rw [s_X9_readsDeck_L98] at h
    obtain ⟨I18, e1, h⟩ := bd_e h
    rcases if_e h with h | h
    · rcases if_e h with h | h
      · intro _ q
        exact ((ih  _ _ h) _ q).trans ((ff_X9_readsPart e1 hk10 hk11 hk13 hk14 hk15 hk16 hk20).trans rfl)
      · rcases if_e h with h | h
        · intro _ q
          exact ((ih  _ _ h) _ q).trans ((ff_X9_readsPart e1 hk10 hk11 hk13 hk14 hk15 hk16 hk20).trans rfl)
        · obtain ⟨o2, e2, h⟩ := bd_e h
          rcases if_e h with h | h
          · intro _ q
            exact ((ih  _ _ h) _ q).trans ((ff_X9_readsPart e1 hk10 hk11 hk13 hk14 hk15 hk16 hk20).trans rfl)
          · cases h
            intro _ q
            cases q
            exact ((ff_X9_readsPart e1 hk10 hk11 hk13 hk14 hk15 hk16 hk20).trans rfl)
    · cases h
      intro _ q
      cases q
      exact ((ff_X9_readsPart e1 hk10 hk11 hk13 hk14 hk15 hk16 hk20).trans rfl)
theorem ffl_X9_readsDeck_L153 {m : Nat} {k : Nat} (hk10 : k ≠ 10) (hk11 : k ≠ 11) (hk13 : k ≠ 13) (hk14 : k ≠ 14) (hk15 : k ≠ 15) (hk16 : k ≠ 16) (hk20 : k ≠ 20) : ∀ (f : Nat) (w1 : Int32) (I : JI) (o : (Int32 × JI)), s_X9_readsDeck_L153 m f w1 I = some o → (∀ (y1 : Int32) (J : JI), o = (y1, J) → J m k = I m k) := by
  intro f
  induction f with
  | zero =>
    intro w1 I o h
    rw [s_X9_readsDeck_L153] at h
    cases h
  | succ f ih =>
    intro w1 I o h
    rw [s_X9_readsDeck_L153] at h
    obtain ⟨g1, h⟩ := gd_e h
    rcases if_e h with h | h
    · cases h
      intro _ _ q
      cases q
      exact rfl
    · obtain ⟨g2, h⟩ := gd_e h
      obtain ⟨g3, h⟩ := gd_e h
      have h := lx_e h
      intro _ _ q
      exact ((ih _ _ _ h) _ _ q).trans ((congrFun (fr_stI (by omega)) k).trans rfl)
set_option maxHeartbeats 4000000 in
theorem ff_X9_readsDeck {I : JI} {m : Nat} {J : JI} {k : Nat} (h : s_X9_readsDeck I m = some J) (hk10 : k ≠ 10) (hk11 : k ≠ 11) (hk13 : k ≠ 13) (hk14 : k ≠ 14) (hk15 : k ≠ 15) (hk16 : k ≠ 16) (hk20 : k ≠ 20) : J m k = I m k := by
  unfold s_X9_readsDeck at h
  obtain ⟨g1, h⟩ := gd_e h
  rcases if_e h with h | h
  · have h := lx_e h
    obtain ⟨I4, e2, h⟩ := bd_e h
    have h := lx_e h
    obtain ⟨g3, h⟩ := gd_e h
    obtain ⟨g4, h⟩ := gd_e h
    have h := lx_e h
    obtain ⟨o5, e5, h⟩ := bd_e h
    obtain ⟨y14, I15⟩ := o5
    rcases if_e h with h | h
    · obtain ⟨g6, h⟩ := gd_e h
      obtain ⟨g7, h⟩ := gd_e h
      have h := lx_e h
      obtain ⟨I41, e8, h⟩ := bd_e h
      rcases if_e h with h | h
      · obtain ⟨g9, h⟩ := gd_e h
        obtain ⟨g10, h⟩ := gd_e h
        have h := lx_e h
        obtain ⟨o11, e11, h⟩ := bd_e h
        obtain ⟨y47, I48⟩ := o11
        cases h
        exact (((ffl_X9_readsDeck_L153 hk10 hk11 hk13 hk14 hk15 hk16 hk20 _ _ _ _ e11) _ _ rfl).trans ((congrFun (fr_stI (by omega)) k).trans (((ffl_X9_readsDeck_L98 hk10 hk11 hk13 hk14 hk15 hk16 hk20 _  _ _ e8) _ rfl).trans ((congrFun (fr_stI (by omega)) k).trans (((ffl_X9_readsDeck_L41 hk10 hk11 hk13 hk14 hk15 hk16 hk20 _ _ _ _ e5) _ _ rfl).trans ((congrFun (fr_stI (by omega)) k).trans ((ff_stI hk20).trans ((ff_X9_goes e2 hk13 hk14 hk15 hk16).trans ((ff_X9_refuses hk10 hk11).trans rfl)))))))))
      · cases h
        exact (((ffl_X9_readsDeck_L98 hk10 hk11 hk13 hk14 hk15 hk16 hk20 _  _ _ e8) _ rfl).trans ((congrFun (fr_stI (by omega)) k).trans (((ffl_X9_readsDeck_L41 hk10 hk11 hk13 hk14 hk15 hk16 hk20 _ _ _ _ e5) _ _ rfl).trans ((congrFun (fr_stI (by omega)) k).trans ((ff_stI hk20).trans ((ff_X9_goes e2 hk13 hk14 hk15 hk16).trans ((ff_X9_refuses hk10 hk11).trans rfl)))))))
    · obtain ⟨I24, e12, h⟩ := bd_e h
      rcases if_e h with h | h
      · obtain ⟨g13, h⟩ := gd_e h
        obtain ⟨g14, h⟩ := gd_e h
        have h := lx_e h
        obtain ⟨o15, e15, h⟩ := bd_e h
        obtain ⟨y35, I36⟩ := o15
        cases h
        exact (((ffl_X9_readsDeck_L153 hk10 hk11 hk13 hk14 hk15 hk16 hk20 _ _ _ _ e15) _ _ rfl).trans ((congrFun (fr_stI (by omega)) k).trans (((ffl_X9_readsDeck_L98 hk10 hk11 hk13 hk14 hk15 hk16 hk20 _  _ _ e12) _ rfl).trans (((ffl_X9_readsDeck_L41 hk10 hk11 hk13 hk14 hk15 hk16 hk20 _ _ _ _ e5) _ _ rfl).trans ((congrFun (fr_stI (by omega)) k).trans ((ff_stI hk20).trans ((ff_X9_goes e2 hk13 hk14 hk15 hk16).trans ((ff_X9_refuses hk10 hk11).trans rfl))))))))
      · cases h
        exact (((ffl_X9_readsDeck_L98 hk10 hk11 hk13 hk14 hk15 hk16 hk20 _  _ _ e12) _ rfl).trans (((ffl_X9_readsDeck_L41 hk10 hk11 hk13 hk14 hk15 hk16 hk20 _ _ _ _ e5) _ _ rfl).trans ((congrFun (fr_stI (by omega)) k).trans ((ff_stI hk20).trans ((ff_X9_goes e2 hk13 hk14 hk15 hk16).trans ((ff_X9_refuses hk10 hk11).trans rfl))))))
  · have h := lx_e h
    obtain ⟨I51, e16, h⟩ := bd_e h
    have h := lx_e h
    obtain ⟨g17, h⟩ := gd_e h
    obtain ⟨g18, h⟩ := gd_e h
    have h := lx_e h
    obtain ⟨o19, e19, h⟩ := bd_e h
    obtain ⟨y56, I57⟩ := o19
    rcases if_e h with h | h
    · obtain ⟨g20, h⟩ := gd_e h
      obtain ⟨g21, h⟩ := gd_e h
      have h := lx_e h
      obtain ⟨I72, e22, h⟩ := bd_e h
      rcases if_e h with h | h
      · obtain ⟨g23, h⟩ := gd_e h
        obtain ⟨g24, h⟩ := gd_e h
        have h := lx_e h
        obtain ⟨o25, e25, h⟩ := bd_e h
        obtain ⟨y78, I79⟩ := o25
        cases h
        exact (((ffl_X9_readsDeck_L153 hk10 hk11 hk13 hk14 hk15 hk16 hk20 _ _ _ _ e25) _ _ rfl).trans ((congrFun (fr_stI (by omega)) k).trans (((ffl_X9_readsDeck_L98 hk10 hk11 hk13 hk14 hk15 hk16 hk20 _  _ _ e22) _ rfl).trans ((congrFun (fr_stI (by omega)) k).trans (((ffl_X9_readsDeck_L41 hk10 hk11 hk13 hk14 hk15 hk16 hk20 _ _ _ _ e19) _ _ rfl).trans ((congrFun (fr_stI (by omega)) k).trans ((ff_stI hk20).trans ((ff_X9_goes e16 hk13 hk14 hk15 hk16).trans ((ff_X9_refuses hk10 hk11).trans rfl)))))))))
      · cases h
        exact (((ffl_X9_readsDeck_L98 hk10 hk11 hk13 hk14 hk15 hk16 hk20 _  _ _ e22) _ rfl).trans ((congrFun (fr_stI (by omega)) k).trans (((ffl_X9_readsDeck_L41 hk10 hk11 hk13 hk14 hk15 hk16 hk20 _ _ _ _ e19) _ _ rfl).trans ((congrFun (fr_stI (by omega)) k).trans ((ff_stI hk20).trans ((ff_X9_goes e16 hk13 hk14 hk15 hk16).trans ((ff_X9_refuses hk10 hk11).trans rfl)))))))
    · obtain ⟨I60, e26, h⟩ := bd_e h
      rcases if_e h with h | h
      · obtain ⟨g27, h⟩ := gd_e h
        obtain ⟨g28, h⟩ := gd_e h
        have h := lx_e h
        obtain ⟨o29, e29, h⟩ := bd_e h
        obtain ⟨y66, I67⟩ := o29
        cases h
        exact (((ffl_X9_readsDeck_L153 hk10 hk11 hk13 hk14 hk15 hk16 hk20 _ _ _ _ e29) _ _ rfl).trans ((congrFun (fr_stI (by omega)) k).trans (((ffl_X9_readsDeck_L98 hk10 hk11 hk13 hk14 hk15 hk16 hk20 _  _ _ e26) _ rfl).trans (((ffl_X9_readsDeck_L41 hk10 hk11 hk13 hk14 hk15 hk16 hk20 _ _ _ _ e19) _ _ rfl).trans ((congrFun (fr_stI (by omega)) k).trans ((ff_stI hk20).trans ((ff_X9_goes e16 hk13 hk14 hk15 hk16).trans ((ff_X9_refuses hk10 hk11).trans rfl))))))))
      · cases h
        exact (((ffl_X9_readsDeck_L98 hk10 hk11 hk13 hk14 hk15 hk16 hk20 _  _ _ e26) _ rfl).trans (((ffl_X9_readsDeck_L41 hk10 hk11 hk13 hk14 hk15 hk16 hk20 _ _ _ _ e19) _ _ rfl).trans ((congrFun (fr_stI (by omega)) k).trans ((ff_stI hk20).trans ((ff_X9_goes e16 hk13 hk14 hk15 hk16).trans ((ff_X9_refuses hk10 hk11).trans rfl))))))
noncomputable def s_X9_brings (I : JI) (m : Nat) (x1 : Int32) (x2 : Int32) : Option (JI) :=
  gd (vp_in (110 + x1) 2030) <| gd (vp_in (110 + x1) 2030) <| lx (stI I (m + 1) (Int32.toNatClampNeg (110 + x1)) ((I (m + 1) (Int32.toNatClampNeg (110 + x1))) + x2)) fun I3 => gd (vp_in 10 2030) <| gd (vp_in 10 2030) <| lx (stI I3 (m + 1) (Int32.toNatClampNeg 10) ((I3 (m + 1) (Int32.toNatClampNeg 10)) + x2)) fun I6 => some I6
set_option maxHeartbeats 4000000 in
theorem c_X9_brings {Ω : JO} {I : JI} {S : JS} {Q : JQ} {m : Nat} {x1 : Int32} {x2 : Int32} {J : JI} (hm : Is9 S m) (h : s_X9_brings I m x1 x2 = some J) (hQ : Q (.inl none) J S) : Call Ω m_X9_brings [.ref m, .int x1, .int x2] I S Q := by
  refine call_of (by decide +kernel) rfl (Nat.le_of_ble_eq_true rfl) ?_
  change AA Ω m_X9_brings (FQ Ω m_X9_brings Q) 0 0 0 [(0, .ref m), (1, .int x1), (2, .int x2)] [] I S
  unfold s_X9_brings at h
  refine r_aload_n (pc' := 1) dX9_brings_0 rfl 0 rfl rfl ?_
  refine r_getO (pc' := 4) dX9_brings_1 fa_X9_9 hm.o rfl hm.r1 rfl ?_
  refine r_bipush (pc' := 6) (v := 110) dX9_brings_4 (by decide) rfl ?_
  refine r_iload_n (pc' := 7) dX9_brings_6 rfl 1 rfl rfl ?_
  refine r_iadd (pc' := 8) dX9_brings_7 rfl ?_
  refine r_dup2 (pc' := 9) dX9_brings_8 rfl rfl rfl ?_
  obtain ⟨g1, h⟩ := gd_e h
  refine r_iaload (pc' := 10) dX9_brings_9 hm.c1 g1 rfl ?_
  refine r_iload_n (pc' := 11) dX9_brings_10 rfl 2 rfl rfl ?_
  refine r_iadd (pc' := 12) dX9_brings_11 rfl ?_
  obtain ⟨g2, h⟩ := gd_e h
  refine r_iastore (pc' := 13) dX9_brings_12 hm.c1 g2 rfl ?_
  have h := lx_e h
  refine r_aload_n (pc' := 14) dX9_brings_13 rfl 0 rfl rfl ?_
  refine r_getO (pc' := 17) dX9_brings_14 fa_X9_9 hm.o rfl hm.r1 rfl ?_
  refine r_bipush (pc' := 19) (v := 10) dX9_brings_17 (by decide) rfl ?_
  refine r_dup2 (pc' := 20) dX9_brings_19 rfl rfl rfl ?_
  obtain ⟨g4, h⟩ := gd_e h
  refine r_iaload (pc' := 21) dX9_brings_20 hm.c1 g4 rfl ?_
  refine r_iload_n (pc' := 22) dX9_brings_21 rfl 2 rfl rfl ?_
  refine r_iadd (pc' := 23) dX9_brings_22 rfl ?_
  obtain ⟨g5, h⟩ := gd_e h
  refine r_iastore (pc' := 24) dX9_brings_23 hm.c1 g5 rfl ?_
  have h := lx_e h
  cases h
  exact r_ret dX9_brings_24 rfl (by decide) (by decide) hQ
set_option maxHeartbeats 4000000 in
theorem fr_X9_brings {I : JI} {m : Nat} {x1 : Int32} {x2 : Int32} {J : JI} {z : Nat} (h : s_X9_brings I m x1 x2 = some J) (hz_m1 : z ≠ (m + 1)) : J z = I z := by
  unfold s_X9_brings at h
  obtain ⟨g1, h⟩ := gd_e h
  obtain ⟨g2, h⟩ := gd_e h
  have h := lx_e h
  obtain ⟨g3, h⟩ := gd_e h
  obtain ⟨g4, h⟩ := gd_e h
  have h := lx_e h
  cases h
  exact ((fr_stI (by omega)).trans ((fr_stI (by omega)).trans rfl))
noncomputable def s_X9_readsYarn (I : JI) (m : Nat) : Option (JI) :=
  bd (s_X9_goes I m) fun I1 => bd2 (s_X9_readColour I1 m) fun v3 I2 => bd2 (s_X9_readNumber I2 m 1 999) fun v5 I4 => if (I4 m 10) = 0 then (bd (s_X9_brings I4 m v3 v5) fun I7 => some I7) else (some I4)
set_option maxHeartbeats 4000000 in
theorem c_X9_readsYarn {Ω : JO} {I : JI} {S : JS} {Q : JQ} {m : Nat} {J : JI} (hm : Is9 S m) (h : s_X9_readsYarn I m = some J) (hQ : Q (.inl none) J S) : Call Ω m_X9_readsYarn [.ref m] I S Q := by
  refine call_of (by decide +kernel) rfl (Nat.le_of_ble_eq_true rfl) ?_
  change AA Ω m_X9_readsYarn (FQ Ω m_X9_readsYarn Q) 0 0 0 [(0, .ref m)] [] I S
  unfold s_X9_readsYarn at h
  refine r_aload_n (pc' := 1) dX9_readsYarn_0 rfl 0 rfl rfl ?_
  obtain ⟨I1, eI1, h⟩ := bd_e h
  refine r_callV0 (pc' := 4) (k' := 0) (n' := 0) dX9_readsYarn_1 mb_X9_goes mi_X9_goes hm.o (by decide) rfl lk_X9_124 rfl rfl rfl (Nat.le_of_ble_eq_true rfl) rfl (c_X9_goes hm eI1 (cpV ?_))
  refine r_aload_n (pc' := 5) dX9_readsYarn_4 rfl 0 rfl rfl ?_
  obtain ⟨v3, I2, ev3, h⟩ := bd2_e h
  refine r_callV0 (pc' := 8) (k' := 0) (n' := 0) dX9_readsYarn_5 mb_X9_readColour mi_X9_readColour hm.o (by decide) rfl lk_X9_141 rfl rfl rfl (Nat.le_of_ble_eq_true rfl) rfl (c_X9_readColour hm ev3 (cpI ?_))
  refine r_istore_n (pc' := 9) (lv' := [(1, _), (0, _)]) dX9_readsYarn_8 rfl (by decide) rfl rfl ?_
  refine r_aload_n (pc' := 10) dX9_readsYarn_9 rfl 1 rfl rfl ?_
  refine r_iconst (pc' := 11) (v := 1) dX9_readsYarn_10 (by decide) rfl ?_
  refine r_sipush (pc' := 14) (v := 999) dX9_readsYarn_11 (by decide) rfl ?_
  obtain ⟨v5, I4, ev5, h⟩ := bd2_e h
  refine r_callV2 (pc' := 17) (k' := 0) (n' := 0) dX9_readsYarn_14 mb_X9_readNumber mi_X9_readNumber hm.o (by decide) rfl lk_X9_174 rfl rfl rfl (Nat.le_of_ble_eq_true rfl) rfl (c_X9_readNumber hm ev5 (cpI ?_))
  refine r_istore_n (pc' := 18) (lv' := [(2, _), (1, _), (0, _)]) dX9_readsYarn_17 rfl (by decide) rfl rfl ?_
  refine r_aload_n (pc' := 19) dX9_readsYarn_18 rfl 2 rfl rfl ?_
  refine r_getI (pc' := 22) dX9_readsYarn_19 fa_X9_68 hm.o rfl rfl ?_
  refine r_if_ne (tgt := 31) (pc' := 25) dX9_readsYarn_22 rfl rfl (fun h6 => ?_) (fun h6 => ?_)
  · have h := ifn h6 h
    cases h
    exact r_ret dX9_readsYarn_31 rfl (by decide) (by decide) hQ
  · have h := ifp h6 h
    refine r_aload_n (pc' := 26) dX9_readsYarn_25 rfl 2 rfl rfl ?_
    refine r_iload_n (pc' := 27) dX9_readsYarn_26 rfl 1 rfl rfl ?_
    refine r_iload_n (pc' := 28) dX9_readsYarn_27 rfl 0 rfl rfl ?_
    obtain ⟨I7, eI7, h⟩ := bd_e h
    refine r_callV2 (pc' := 31) (k' := 0) (n' := 0) dX9_readsYarn_28 mb_X9_brings mi_X9_brings hm.o (by decide) rfl lk_X9_208 rfl rfl rfl (Nat.le_of_ble_eq_true rfl) rfl (c_X9_brings hm eI7 (cpV ?_))
    cases h
    exact r_ret dX9_readsYarn_31 rfl (by decide) (by decide) hQ
set_option maxHeartbeats 4000000 in
theorem fr_X9_readsYarn {I : JI} {m : Nat} {J : JI} {z : Nat} (h : s_X9_readsYarn I m = some J) (hz_m1 : z ≠ (m + 1)) (hz_m : z ≠ m) : J z = I z := by
  unfold s_X9_readsYarn at h
  obtain ⟨I1, e1, h⟩ := bd_e h
  obtain ⟨v3, I2, e2, h⟩ := bd2_e h
  obtain ⟨v5, I4, e3, h⟩ := bd2_e h
  rcases if_e h with h | h
  · obtain ⟨I7, e4, h⟩ := bd_e h
    cases h
    exact ((fr_X9_brings e4 (by omega)).trans ((fr_X9_readNumber e3 (by omega)).trans ((fr_X9_readColour e2 (by omega)).trans ((fr_X9_goes e1 (by omega)).trans rfl))))
  · cases h
    exact ((fr_X9_readNumber e3 (by omega)).trans ((fr_X9_readColour e2 (by omega)).trans ((fr_X9_goes e1 (by omega)).trans rfl)))
set_option maxHeartbeats 4000000 in
theorem ff_X9_readsYarn {I : JI} {m : Nat} {J : JI} {k : Nat} (h : s_X9_readsYarn I m = some J) (hk10 : k ≠ 10) (hk11 : k ≠ 11) (hk13 : k ≠ 13) (hk14 : k ≠ 14) (hk15 : k ≠ 15) (hk16 : k ≠ 16) : J m k = I m k := by
  unfold s_X9_readsYarn at h
  obtain ⟨I1, e1, h⟩ := bd_e h
  obtain ⟨v3, I2, e2, h⟩ := bd2_e h
  obtain ⟨v5, I4, e3, h⟩ := bd2_e h
  rcases if_e h with h | h
  · obtain ⟨I7, e4, h⟩ := bd_e h
    cases h
    exact ((congrFun (fr_X9_brings e4 (by omega)) k).trans ((ff_X9_readNumber e3 hk10 hk11 hk13 hk14 hk15 hk16).trans ((ff_X9_readColour e2 hk10 hk11 hk13 hk14 hk15 hk16).trans ((ff_X9_goes e1 hk13 hk14 hk15 hk16).trans rfl))))
  · cases h
    exact ((ff_X9_readNumber e3 hk10 hk11 hk13 hk14 hk15 hk16).trans ((ff_X9_readColour e2 hk10 hk11 hk13 hk14 hk15 hk16).trans ((ff_X9_goes e1 hk13 hk14 hk15 hk16).trans rfl)))
noncomputable def s_X9_next (I : JI) (m : Nat) : Option (Int32) :=
  gd (vp_in 4 2030) <| if (I (m + 1) (Int32.toNatClampNeg 4)) = 0 then (some (-1)) else (gd (vp_in 5 2030) <| gd (vp_in 4 2030) <| gd (¬ (I (m + 1) (Int32.toNatClampNeg 4)) = 0) <| gd (vp_in (164 + ((I (m + 1) (Int32.toNatClampNeg 5)) - (I (m + 1) (Int32.toNatClampNeg 5)) / (I (m + 1) (Int32.toNatClampNeg 4)) * (I (m + 1) (Int32.toNatClampNeg 4)))) 2030) <| some (I (m + 1) (Int32.toNatClampNeg (164 + ((I (m + 1) (Int32.toNatClampNeg 5)) - (I (m + 1) (Int32.toNatClampNeg 5)) / (I (m + 1) (Int32.toNatClampNeg 4)) * (I (m + 1) (Int32.toNatClampNeg 4)))))))
set_option maxHeartbeats 4000000 in
theorem c_X9_next {Ω : JO} {I : JI} {S : JS} {Q : JQ} {m : Nat} {r : Int32} (hm : Is9 S m) (h : s_X9_next I m = some r) (hQ : Q (.inl (some (.int r))) I S) : Call Ω m_X9_next [.ref m] I S Q := by
  refine call_of (by decide +kernel) rfl (Nat.le_of_ble_eq_true rfl) ?_
  change AA Ω m_X9_next (FQ Ω m_X9_next Q) 0 0 0 [(0, .ref m)] [] I S
  unfold s_X9_next at h
  refine r_aload_n (pc' := 1) dX9_next_0 rfl 0 rfl rfl ?_
  refine r_getO (pc' := 4) dX9_next_1 fa_X9_9 hm.o rfl hm.r1 rfl ?_
  refine r_iconst (pc' := 5) (v := 4) dX9_next_4 (by decide) rfl ?_
  obtain ⟨g1, h⟩ := gd_e h
  refine r_iaload (pc' := 6) dX9_next_5 hm.c1 g1 rfl ?_
  refine r_if_ne (tgt := 13) (pc' := 9) dX9_next_6 rfl rfl (fun h2 => ?_) (fun h2 => ?_)
  · have h := ifn h2 h
    refine r_aload_n (pc' := 14) dX9_next_13 rfl 0 rfl rfl ?_
    refine r_getO (pc' := 17) dX9_next_14 fa_X9_9 hm.o rfl hm.r1 rfl ?_
    refine r_sipush (pc' := 20) (v := 164) dX9_next_17 (by decide) rfl ?_
    refine r_aload_n (pc' := 21) dX9_next_20 rfl 0 rfl rfl ?_
    refine r_getO (pc' := 24) dX9_next_21 fa_X9_9 hm.o rfl hm.r1 rfl ?_
    refine r_iconst (pc' := 25) (v := 5) dX9_next_24 (by decide) rfl ?_
    obtain ⟨g3, h⟩ := gd_e h
    refine r_iaload (pc' := 26) dX9_next_25 hm.c1 g3 rfl ?_
    refine r_aload_n (pc' := 27) dX9_next_26 rfl 0 rfl rfl ?_
    refine r_getO (pc' := 30) dX9_next_27 fa_X9_9 hm.o rfl hm.r1 rfl ?_
    refine r_iconst (pc' := 31) (v := 4) dX9_next_30 (by decide) rfl ?_
    obtain ⟨g4, h⟩ := gd_e h
    refine r_iaload (pc' := 32) dX9_next_31 hm.c1 g4 rfl ?_
    obtain ⟨g5, h⟩ := gd_e h
    refine r_irem (pc' := 33) dX9_next_32 g5 rfl ?_
    refine r_iadd (pc' := 34) dX9_next_33 rfl ?_
    obtain ⟨g6, h⟩ := gd_e h
    refine r_iaload (pc' := 35) dX9_next_34 hm.c1 g6 rfl ?_
    cases h
    exact r_iret dX9_next_35 rfl (by decide) (by decide) hQ
  · have h := ifp h2 h
    refine r_iconst (pc' := 10) (v := -1) dX9_next_9 (by decide) rfl ?_
    refine r_goto (tgt := 35) dX9_next_10 rfl ?_
    cases h
    exact r_iret dX9_next_35 rfl (by decide) (by decide) hQ
noncomputable def s_X9_ofCard (I : JI) (m : Nat) (x1 : Int32) (x2 : Int32) : Option (Int32) :=
  gd (vp_in ((116 + (4 * x1)) + x2) 2030) <| some (I (m + 1) (Int32.toNatClampNeg ((116 + (4 * x1)) + x2)))
set_option maxHeartbeats 4000000 in
theorem c_X9_ofCard {Ω : JO} {I : JI} {S : JS} {Q : JQ} {m : Nat} {x1 : Int32} {x2 : Int32} {r : Int32} (hm : Is9 S m) (h : s_X9_ofCard I m x1 x2 = some r) (hQ : Q (.inl (some (.int r))) I S) : Call Ω m_X9_ofCard [.ref m, .int x1, .int x2] I S Q := by
  refine call_of (by decide +kernel) rfl (Nat.le_of_ble_eq_true rfl) ?_
  change AA Ω m_X9_ofCard (FQ Ω m_X9_ofCard Q) 0 0 0 [(0, .ref m), (1, .int x1), (2, .int x2)] [] I S
  unfold s_X9_ofCard at h
  refine r_aload_n (pc' := 1) dX9_ofCard_0 rfl 0 rfl rfl ?_
  refine r_getO (pc' := 4) dX9_ofCard_1 fa_X9_9 hm.o rfl hm.r1 rfl ?_
  refine r_bipush (pc' := 6) (v := 116) dX9_ofCard_4 (by decide) rfl ?_
  refine r_iconst (pc' := 7) (v := 4) dX9_ofCard_6 (by decide) rfl ?_
  refine r_iload_n (pc' := 8) dX9_ofCard_7 rfl 1 rfl rfl ?_
  refine r_imul (pc' := 9) dX9_ofCard_8 rfl ?_
  refine r_iadd (pc' := 10) dX9_ofCard_9 rfl ?_
  refine r_iload_n (pc' := 11) dX9_ofCard_10 rfl 2 rfl rfl ?_
  refine r_iadd (pc' := 12) dX9_ofCard_11 rfl ?_
  obtain ⟨g1, h⟩ := gd_e h
  refine r_iaload (pc' := 13) dX9_ofCard_12 hm.c1 g1 rfl ?_
  cases h
  exact r_iret dX9_ofCard_13 rfl (by decide) (by decide) hQ
noncomputable def s_X9_harnessOf (I : JI) (m : Nat) (x1 : Int32) : Option (Int32) :=
  gd (vp_in ((38 + (3 * x1)) + 0) 2030) <| some (I (m + 1) (Int32.toNatClampNeg ((38 + (3 * x1)) + 0)))
set_option maxHeartbeats 4000000 in
theorem c_X9_harnessOf {Ω : JO} {I : JI} {S : JS} {Q : JQ} {m : Nat} {x1 : Int32} {r : Int32} (hm : Is9 S m) (h : s_X9_harnessOf I m x1 = some r) (hQ : Q (.inl (some (.int r))) I S) : Call Ω m_X9_harnessOf [.ref m, .int x1] I S Q := by
  refine call_of (by decide +kernel) rfl (Nat.le_of_ble_eq_true rfl) ?_
  change AA Ω m_X9_harnessOf (FQ Ω m_X9_harnessOf Q) 0 0 0 [(0, .ref m), (1, .int x1)] [] I S
  unfold s_X9_harnessOf at h
  refine r_aload_n (pc' := 1) dX9_harnessOf_0 rfl 0 rfl rfl ?_
  refine r_getO (pc' := 4) dX9_harnessOf_1 fa_X9_9 hm.o rfl hm.r1 rfl ?_
  refine r_bipush (pc' := 6) (v := 38) dX9_harnessOf_4 (by decide) rfl ?_
  refine r_iconst (pc' := 7) (v := 3) dX9_harnessOf_6 (by decide) rfl ?_
  refine r_iload_n (pc' := 8) dX9_harnessOf_7 rfl 1 rfl rfl ?_
  refine r_imul (pc' := 9) dX9_harnessOf_8 rfl ?_
  refine r_iadd (pc' := 10) dX9_harnessOf_9 rfl ?_
  refine r_iconst (pc' := 11) (v := 0) dX9_harnessOf_10 (by decide) rfl ?_
  refine r_iadd (pc' := 12) dX9_harnessOf_11 rfl ?_
  obtain ⟨g1, h⟩ := gd_e h
  refine r_iaload (pc' := 13) dX9_harnessOf_12 hm.c1 g1 rfl ?_
  cases h
  exact r_iret dX9_harnessOf_13 rfl (by decide) (by decide) hQ
noncomputable def s_X9_warpsOf_L4 (I : JI) (m : Nat) (q1 : Int32) : Nat → Int32 → Int32 → Option (Int32 × Int32)
  | 0, _, _ => none
  | f + 1, w2, w3 => gd (vp_in 2 2030) <| if (I (m + 1) (Int32.toNatClampNeg 2)) ≤ w3 then (some (w2, w3)) else (bd (s_X9_ofCard I m q1 0) fun v3 => bd (s_X9_harnessOf I m w3) fun v4 => lx (w2 + (s_X9_one (s_X9_has v3 v4))) fun v5 => s_X9_warpsOf_L4 I m q1 f v5 (w3 + 1))
noncomputable def s_X9_warpsOf (I : JI) (m : Nat) (x1 : Int32) : Option (Int32) :=
  bd (s_X9_warpsOf_L4 I m x1 lf 0 0) fun (y6, y7) => some y6
set_option maxHeartbeats 4000000 in
theorem l_X9_warpsOf_L4 {Ω : JO} {S : JS} {Q : JQ} {I : JI} {m : Nat} {q1 : Int32} (hm : Is9 S m) : ∀ (f : Nat) (w2 : Int32) (w3 : Int32) (o : (Int32 × Int32)), s_X9_warpsOf_L4 I m q1 f w2 w3 = some o → True → (∀ (y2 : Int32) (y3 : Int32) , o = (y2, y3) → AA Ω m_X9_warpsOf (FQ Ω m_X9_warpsOf Q) 0 0 40 [(2, .int y2), (3, .int y3), (0, .ref m), (1, .int q1)] [] I S) → AA Ω m_X9_warpsOf (FQ Ω m_X9_warpsOf Q) 0 0 4 [(2, .int w2), (3, .int w3), (0, .ref m), (1, .int q1)] [] I S := by
  intro f
  induction f with
  | zero =>
    intro w2 w3 o h hR hE
    rw [s_X9_warpsOf_L4] at h
    cases h
  | succ f ih =>
    intro w2 w3 o h hR hE
    rw [s_X9_warpsOf_L4] at h
    refine r_iload_n (pc' := 5) dX9_warpsOf_4 rfl 1 rfl rfl ?_
    refine r_aload_n (pc' := 6) dX9_warpsOf_5 rfl 2 rfl rfl ?_
    refine r_getO (pc' := 9) dX9_warpsOf_6 fa_X9_9 hm.o rfl hm.r1 rfl ?_
    refine r_iconst (pc' := 10) (v := 2) dX9_warpsOf_9 (by decide) rfl ?_
    obtain ⟨g1, h⟩ := gd_e h
    refine r_iaload (pc' := 11) dX9_warpsOf_10 hm.c1 g1 rfl ?_
    refine r_icmp_ge (tgt := 40) (pc' := 14) dX9_warpsOf_11 rfl rfl (fun h2 => ?_) (fun h2 => ?_)
    · have h := ifp h2 h
      cases h
      exact hE _ _ rfl
    · have h := ifn h2 h
      refine r_iload_n (pc' := 15) dX9_warpsOf_14 rfl 0 rfl rfl ?_
      refine r_aload_n (pc' := 16) dX9_warpsOf_15 rfl 2 rfl rfl ?_
      refine r_iload_n (pc' := 17) dX9_warpsOf_16 rfl 3 rfl rfl ?_
      refine r_iconst (pc' := 18) (v := 0) dX9_warpsOf_17 (by decide) rfl ?_
      obtain ⟨v3, ev3, h⟩ := bd_e h
      refine r_callV2 (pc' := 21) (k' := 0) (n' := 0) dX9_warpsOf_18 mb_X9_ofCard mi_X9_ofCard hm.o (by decide) rfl lk_X9_232 rfl rfl rfl (Nat.le_of_ble_eq_true rfl) rfl (c_X9_ofCard hm ev3 (cpI ?_))
      refine r_aload_n (pc' := 22) dX9_warpsOf_21 rfl 2 rfl rfl ?_
      refine r_iload_n (pc' := 23) dX9_warpsOf_22 rfl 1 rfl rfl ?_
      obtain ⟨v4, ev4, h⟩ := bd_e h
      refine r_callV1 (pc' := 26) (k' := 0) (n' := 0) dX9_warpsOf_23 mb_X9_harnessOf mi_X9_harnessOf hm.o (by decide) rfl lk_X9_328 rfl rfl rfl (Nat.le_of_ble_eq_true rfl) rfl (c_X9_harnessOf hm ev4 (cpI ?_))
      refine r_callS2 (pc' := 29) (k' := 0) (n' := 0) dX9_warpsOf_26 mb_X9_has ms_X9_has lk_X9_147 rfl rfl rfl (Nat.le_of_ble_eq_true rfl) rfl (c_X9_has rfl (cpI ?_))
      refine r_callS1 (pc' := 32) (k' := 0) (n' := 0) dX9_warpsOf_29 mb_X9_one ms_X9_one lk_X9_324 rfl rfl rfl (Nat.le_of_ble_eq_true rfl) rfl (c_X9_one rfl (cpI ?_))
      refine r_iadd (pc' := 33) dX9_warpsOf_32 rfl ?_
      refine r_istore_n (pc' := 34) (lv' := [(2, _), (3, _), (0, _), (1, _)]) dX9_warpsOf_33 rfl (by decide) rfl rfl ?_
      have h := lx_e h
      refine r_iinc (pc' := 37) (v := _ + 1) (lv' := [(3, _), (2, _), (0, _), (1, _)]) dX9_warpsOf_34 1 rfl rfl (by decide) rfl rfl ?_
      refine r_goto (tgt := 4) dX9_warpsOf_37 rfl ?_
      refine aa_locs (ks := [1, 0, 2, 3]) (lv' := [(2, _), (3, _), (0, _), (1, _)]) rfl ?_
      exact ih _ _ _ h hR hE
set_option maxHeartbeats 4000000 in
theorem c_X9_warpsOf {Ω : JO} {I : JI} {S : JS} {Q : JQ} {m : Nat} {x1 : Int32} {r : Int32} (hm : Is9 S m) (h : s_X9_warpsOf I m x1 = some r) (hQ : Q (.inl (some (.int r))) I S) : Call Ω m_X9_warpsOf [.ref m, .int x1] I S Q := by
  refine call_of (by decide +kernel) rfl (Nat.le_of_ble_eq_true rfl) ?_
  change AA Ω m_X9_warpsOf (FQ Ω m_X9_warpsOf Q) 0 0 0 [(0, .ref m), (1, .int x1)] [] I S
  unfold s_X9_warpsOf at h
  refine r_iconst (pc' := 1) (v := 0) dX9_warpsOf_0 (by decide) rfl ?_
  refine r_istore_n (pc' := 2) (lv' := [(2, _), (0, _), (1, _)]) dX9_warpsOf_1 rfl (by decide) rfl rfl ?_
  refine r_iconst (pc' := 3) (v := 0) dX9_warpsOf_2 (by decide) rfl ?_
  refine r_istore_n (pc' := 4) (lv' := [(3, _), (2, _), (0, _), (1, _)]) dX9_warpsOf_3 rfl (by decide) rfl rfl ?_
  refine aa_locs (ks := [1, 0, 2, 3]) (lv' := [(2, _), (3, _), (0, _), (1, _)]) rfl ?_
  obtain ⟨o8, eo8, h⟩ := bd_e h
  refine l_X9_warpsOf_L4 (Ω := Ω) hm _ _ _ _ eo8 trivial (fun y6 y7 q => ?_)
  subst q
  refine r_iload_n (pc' := 41) dX9_warpsOf_40 rfl 0 rfl rfl ?_
  cases h
  exact r_iret dX9_warpsOf_41 rfl (by decide) (by decide) hQ
noncomputable def s_X9_why (I : JI) (m : Nat) : Option (Int32) :=
  gd (vp_in 4 2030) <| if (I (m + 1) (Int32.toNatClampNeg 4)) = 0 then (some 1) else (gd (vp_in 5 2030) <| if (I (m + 1) (Int32.toNatClampNeg 5)) = 60 then (some 2) else (bd (s_X9_next I m) fun v5 => bd (s_X9_ofCard I m v5 1) fun v6 => gd (vp_in (110 + v6) 2030) <| gd (vp_in 2 2030) <| if (I (m + 1) (Int32.toNatClampNeg 2)) ≤ (I (m + 1) (Int32.toNatClampNeg (110 + v6))) then (bd (s_X9_next I m) fun v10 => bd (s_X9_warpsOf I m v10) fun v11 => gd (vp_in 12 2030) <| if v11 ≤ (I (m + 1) (Int32.toNatClampNeg 12)) then (some 0) else (some 4)) else (some 3)))
set_option maxHeartbeats 4000000 in
theorem c_X9_why {Ω : JO} {I : JI} {S : JS} {Q : JQ} {m : Nat} {r : Int32} (hm : Is9 S m) (h : s_X9_why I m = some r) (hQ : Q (.inl (some (.int r))) I S) : Call Ω m_X9_why [.ref m] I S Q := by
  refine call_of (by decide +kernel) rfl (Nat.le_of_ble_eq_true rfl) ?_
  change AA Ω m_X9_why (FQ Ω m_X9_why Q) 0 0 0 [(0, .ref m)] [] I S
  unfold s_X9_why at h
  refine r_aload_n (pc' := 1) dX9_why_0 rfl 0 rfl rfl ?_
  refine r_getO (pc' := 4) dX9_why_1 fa_X9_9 hm.o rfl hm.r1 rfl ?_
  refine r_iconst (pc' := 5) (v := 4) dX9_why_4 (by decide) rfl ?_
  obtain ⟨g1, h⟩ := gd_e h
  refine r_iaload (pc' := 6) dX9_why_5 hm.c1 g1 rfl ?_
  refine r_if_ne (tgt := 11) (pc' := 9) dX9_why_6 rfl rfl (fun h2 => ?_) (fun h2 => ?_)
  · have h := ifn h2 h
    refine r_aload_n (pc' := 12) dX9_why_11 rfl 0 rfl rfl ?_
    refine r_getO (pc' := 15) dX9_why_12 fa_X9_9 hm.o rfl hm.r1 rfl ?_
    refine r_iconst (pc' := 16) (v := 5) dX9_why_15 (by decide) rfl ?_
    obtain ⟨g3, h⟩ := gd_e h
    refine r_iaload (pc' := 17) dX9_why_16 hm.c1 g3 rfl ?_
    refine r_bipush (pc' := 19) (v := 60) dX9_why_17 (by decide) rfl ?_
    refine r_icmp_ne (tgt := 24) (pc' := 22) dX9_why_19 rfl rfl (fun h4 => ?_) (fun h4 => ?_)
    · have h := ifn h4 h
      refine r_aload_n (pc' := 25) dX9_why_24 rfl 0 rfl rfl ?_
      refine r_getO (pc' := 28) dX9_why_25 fa_X9_9 hm.o rfl hm.r1 rfl ?_
      refine r_bipush (pc' := 30) (v := 110) dX9_why_28 (by decide) rfl ?_
      refine r_aload_n (pc' := 31) dX9_why_30 rfl 0 rfl rfl ?_
      refine r_aload_n (pc' := 32) dX9_why_31 rfl 0 rfl rfl ?_
      obtain ⟨v5, ev5, h⟩ := bd_e h
      refine r_callV0 (pc' := 35) (k' := 0) (n' := 0) dX9_why_32 mb_X9_next mi_X9_next hm.o (by decide) rfl lk_X9_334 rfl rfl rfl (Nat.le_of_ble_eq_true rfl) rfl (c_X9_next hm ev5 (cpI ?_))
      refine r_iconst (pc' := 36) (v := 1) dX9_why_35 (by decide) rfl ?_
      obtain ⟨v6, ev6, h⟩ := bd_e h
      refine r_callV2 (pc' := 39) (k' := 0) (n' := 0) dX9_why_36 mb_X9_ofCard mi_X9_ofCard hm.o (by decide) rfl lk_X9_232 rfl rfl rfl (Nat.le_of_ble_eq_true rfl) rfl (c_X9_ofCard hm ev6 (cpI ?_))
      refine r_iadd (pc' := 40) dX9_why_39 rfl ?_
      obtain ⟨g7, h⟩ := gd_e h
      refine r_iaload (pc' := 41) dX9_why_40 hm.c1 g7 rfl ?_
      refine r_aload_n (pc' := 42) dX9_why_41 rfl 0 rfl rfl ?_
      refine r_getO (pc' := 45) dX9_why_42 fa_X9_9 hm.o rfl hm.r1 rfl ?_
      refine r_iconst (pc' := 46) (v := 2) dX9_why_45 (by decide) rfl ?_
      obtain ⟨g8, h⟩ := gd_e h
      refine r_iaload (pc' := 47) dX9_why_46 hm.c1 g8 rfl ?_
      refine r_icmp_ge (tgt := 52) (pc' := 50) dX9_why_47 rfl rfl (fun h9 => ?_) (fun h9 => ?_)
      · have h := ifp h9 h
        refine r_aload_n (pc' := 53) dX9_why_52 rfl 0 rfl rfl ?_
        refine r_aload_n (pc' := 54) dX9_why_53 rfl 0 rfl rfl ?_
        obtain ⟨v10, ev10, h⟩ := bd_e h
        refine r_callV0 (pc' := 57) (k' := 0) (n' := 0) dX9_why_54 mb_X9_next mi_X9_next hm.o (by decide) rfl lk_X9_334 rfl rfl rfl (Nat.le_of_ble_eq_true rfl) rfl (c_X9_next hm ev10 (cpI ?_))
        obtain ⟨v11, ev11, h⟩ := bd_e h
        refine r_callV1 (pc' := 60) (k' := 0) (n' := 0) dX9_why_57 mb_X9_warpsOf mi_X9_warpsOf hm.o (by decide) rfl lk_X9_337 rfl rfl rfl (Nat.le_of_ble_eq_true rfl) rfl (c_X9_warpsOf hm ev11 (cpI ?_))
        refine r_aload_n (pc' := 61) dX9_why_60 rfl 0 rfl rfl ?_
        refine r_getO (pc' := 64) dX9_why_61 fa_X9_9 hm.o rfl hm.r1 rfl ?_
        refine r_bipush (pc' := 66) (v := 12) dX9_why_64 (by decide) rfl ?_
        obtain ⟨g12, h⟩ := gd_e h
        refine r_iaload (pc' := 67) dX9_why_66 hm.c1 g12 rfl ?_
        refine r_icmp_le (tgt := 74) (pc' := 70) dX9_why_67 rfl rfl (fun h13 => ?_) (fun h13 => ?_)
        · have h := ifp h13 h
          refine r_iconst (pc' := 75) (v := 0) dX9_why_74 (by decide) rfl ?_
          cases h
          exact r_iret dX9_why_75 rfl (by decide) (by decide) hQ
        · have h := ifn h13 h
          refine r_iconst (pc' := 71) (v := 4) dX9_why_70 (by decide) rfl ?_
          refine r_goto (tgt := 75) dX9_why_71 rfl ?_
          cases h
          exact r_iret dX9_why_75 rfl (by decide) (by decide) hQ
      · have h := ifn h9 h
        refine r_iconst (pc' := 51) (v := 3) dX9_why_50 (by decide) rfl ?_
        cases h
        exact r_iret dX9_why_51 rfl (by decide) (by decide) hQ
    · have h := ifp h4 h
      refine r_iconst (pc' := 23) (v := 2) dX9_why_22 (by decide) rfl ?_
      cases h
      exact r_iret dX9_why_23 rfl (by decide) (by decide) hQ
  · have h := ifp h2 h
    refine r_iconst (pc' := 10) (v := 1) dX9_why_9 (by decide) rfl ?_
    cases h
    exact r_iret dX9_why_10 rfl (by decide) (by decide) hQ
noncomputable def s_X9_ofHarness (I : JI) (m : Nat) (x1 : Int32) (x2 : Int32) : Option (Int32) :=
  gd (vp_in ((14 + (3 * x1)) + x2) 2030) <| some (I (m + 1) (Int32.toNatClampNeg ((14 + (3 * x1)) + x2)))
set_option maxHeartbeats 4000000 in
theorem c_X9_ofHarness {Ω : JO} {I : JI} {S : JS} {Q : JQ} {m : Nat} {x1 : Int32} {x2 : Int32} {r : Int32} (hm : Is9 S m) (h : s_X9_ofHarness I m x1 x2 = some r) (hQ : Q (.inl (some (.int r))) I S) : Call Ω m_X9_ofHarness [.ref m, .int x1, .int x2] I S Q := by
  refine call_of (by decide +kernel) rfl (Nat.le_of_ble_eq_true rfl) ?_
  change AA Ω m_X9_ofHarness (FQ Ω m_X9_ofHarness Q) 0 0 0 [(0, .ref m), (1, .int x1), (2, .int x2)] [] I S
  unfold s_X9_ofHarness at h
  refine r_aload_n (pc' := 1) dX9_ofHarness_0 rfl 0 rfl rfl ?_
  refine r_getO (pc' := 4) dX9_ofHarness_1 fa_X9_9 hm.o rfl hm.r1 rfl ?_
  refine r_bipush (pc' := 6) (v := 14) dX9_ofHarness_4 (by decide) rfl ?_
  refine r_iconst (pc' := 7) (v := 3) dX9_ofHarness_6 (by decide) rfl ?_
  refine r_iload_n (pc' := 8) dX9_ofHarness_7 rfl 1 rfl rfl ?_
  refine r_imul (pc' := 9) dX9_ofHarness_8 rfl ?_
  refine r_iadd (pc' := 10) dX9_ofHarness_9 rfl ?_
  refine r_iload_n (pc' := 11) dX9_ofHarness_10 rfl 2 rfl rfl ?_
  refine r_iadd (pc' := 12) dX9_ofHarness_11 rfl ?_
  obtain ⟨g1, h⟩ := gd_e h
  refine r_iaload (pc' := 13) dX9_ofHarness_12 hm.c1 g1 rfl ?_
  cases h
  exact r_iret dX9_ofHarness_13 rfl (by decide) (by decide) hQ
noncomputable def s_X9_putsHarness (I : JI) (m : Nat) (x1 : Int32) (x2 : Int32) (x3 : Int32) : Option (JI) :=
  gd (vp_in ((14 + (3 * x1)) + x2) 2030) <| lx (stI I (m + 1) (Int32.toNatClampNeg ((14 + (3 * x1)) + x2)) x3) fun I2 => some I2
set_option maxHeartbeats 4000000 in
theorem c_X9_putsHarness {Ω : JO} {I : JI} {S : JS} {Q : JQ} {m : Nat} {x1 : Int32} {x2 : Int32} {x3 : Int32} {J : JI} (hm : Is9 S m) (h : s_X9_putsHarness I m x1 x2 x3 = some J) (hQ : Q (.inl none) J S) : Call Ω m_X9_putsHarness [.ref m, .int x1, .int x2, .int x3] I S Q := by
  refine call_of (by decide +kernel) rfl (Nat.le_of_ble_eq_true rfl) ?_
  change AA Ω m_X9_putsHarness (FQ Ω m_X9_putsHarness Q) 0 0 0 [(0, .ref m), (1, .int x1), (2, .int x2), (3, .int x3)] [] I S
  unfold s_X9_putsHarness at h
  refine r_aload_n (pc' := 1) dX9_putsHarness_0 rfl 0 rfl rfl ?_
  refine r_getO (pc' := 4) dX9_putsHarness_1 fa_X9_9 hm.o rfl hm.r1 rfl ?_
  refine r_bipush (pc' := 6) (v := 14) dX9_putsHarness_4 (by decide) rfl ?_
  refine r_iconst (pc' := 7) (v := 3) dX9_putsHarness_6 (by decide) rfl ?_
  refine r_iload_n (pc' := 8) dX9_putsHarness_7 rfl 1 rfl rfl ?_
  refine r_imul (pc' := 9) dX9_putsHarness_8 rfl ?_
  refine r_iadd (pc' := 10) dX9_putsHarness_9 rfl ?_
  refine r_iload_n (pc' := 11) dX9_putsHarness_10 rfl 2 rfl rfl ?_
  refine r_iadd (pc' := 12) dX9_putsHarness_11 rfl ?_
  refine r_iload_n (pc' := 13) dX9_putsHarness_12 rfl 3 rfl rfl ?_
  obtain ⟨g1, h⟩ := gd_e h
  refine r_iastore (pc' := 14) dX9_putsHarness_13 hm.c1 g1 rfl ?_
  have h := lx_e h
  cases h
  exact r_ret dX9_putsHarness_14 rfl (by decide) (by decide) hQ
set_option maxHeartbeats 4000000 in
theorem fr_X9_putsHarness {I : JI} {m : Nat} {x1 : Int32} {x2 : Int32} {x3 : Int32} {J : JI} {z : Nat} (h : s_X9_putsHarness I m x1 x2 x3 = some J) (hz_m1 : z ≠ (m + 1)) : J z = I z := by
  unfold s_X9_putsHarness at h
  obtain ⟨g1, h⟩ := gd_e h
  have h := lx_e h
  cases h
  exact ((fr_stI (by omega)).trans rfl)
noncomputable def s_X9_moves (I : JI) (m : Nat) (x1 : Int32) (b2 : Bool) : Option (JI) :=
  bd (s_X9_ofHarness I m x1 2) fun v1 => if v1 = 1 then (some I) else (bd (s_X9_ofHarness I m x1 0) fun v3 => if v3 = 1 then (if 1 = (zb b2) then (some I) else (bd (s_X9_putsHarness I m x1 0 (s_X9_one b2)) fun I16 => bd (s_X9_ofHarness I16 m x1 1) fun v17 => bd (s_X9_putsHarness I16 m x1 1 (v17 + 1)) fun I18 => bd (s_X9_ofHarness I18 m x1 1) fun v19 => gd (vp_in 1 2030) <| if v19 = (I18 (m + 1) (Int32.toNatClampNeg 1)) then (bd (s_X9_putsHarness I18 m x1 2 1) fun I22 => gd (vp_in 9 2030) <| lx (stI I22 (m + 1) (Int32.toNatClampNeg 9) 1) fun I24 => some I24) else (some I18))) else (if 0 = (zb b2) then (some I) else (bd (s_X9_putsHarness I m x1 0 (s_X9_one b2)) fun I6 => bd (s_X9_ofHarness I6 m x1 1) fun v7 => bd (s_X9_putsHarness I6 m x1 1 (v7 + 1)) fun I8 => bd (s_X9_ofHarness I8 m x1 1) fun v9 => gd (vp_in 1 2030) <| if v9 = (I8 (m + 1) (Int32.toNatClampNeg 1)) then (bd (s_X9_putsHarness I8 m x1 2 1) fun I12 => gd (vp_in 9 2030) <| lx (stI I12 (m + 1) (Int32.toNatClampNeg 9) 1) fun I14 => some I14) else (some I8))))
set_option maxHeartbeats 4000000 in
theorem c_X9_moves {Ω : JO} {I : JI} {S : JS} {Q : JQ} {m : Nat} {x1 : Int32} {b2 : Bool} {J : JI} (hm : Is9 S m) (h : s_X9_moves I m x1 b2 = some J) (hQ : Q (.inl none) J S) : Call Ω m_X9_moves [.ref m, .int x1, .int (zb b2)] I S Q := by
  refine call_of (by decide +kernel) rfl (Nat.le_of_ble_eq_true rfl) ?_
  change AA Ω m_X9_moves (FQ Ω m_X9_moves Q) 0 0 0 [(0, .ref m), (1, .int x1), (2, .int (zb b2))] [] I S
  unfold s_X9_moves at h
  refine r_aload_n (pc' := 1) dX9_moves_0 rfl 0 rfl rfl ?_
  refine r_iload_n (pc' := 2) dX9_moves_1 rfl 1 rfl rfl ?_
  refine r_iconst (pc' := 3) (v := 2) dX9_moves_2 (by decide) rfl ?_
  obtain ⟨v1, ev1, h⟩ := bd_e h
  refine r_callV2 (pc' := 6) (k' := 0) (n' := 0) dX9_moves_3 mb_X9_ofHarness mi_X9_ofHarness hm.o (by decide) rfl lk_X9_346 rfl rfl rfl (Nat.le_of_ble_eq_true rfl) rfl (c_X9_ofHarness hm ev1 (cpI ?_))
  refine r_iconst (pc' := 7) (v := 1) dX9_moves_6 (by decide) rfl ?_
  refine r_icmp_eq (tgt := 29) (pc' := 10) dX9_moves_7 rfl rfl (fun h2 => ?_) (fun h2 => ?_)
  · have h := ifp h2 h
    cases h
    exact r_ret dX9_moves_29 rfl (by decide) (by decide) hQ
  · have h := ifn h2 h
    refine r_aload_n (pc' := 11) dX9_moves_10 rfl 0 rfl rfl ?_
    refine r_iload_n (pc' := 12) dX9_moves_11 rfl 1 rfl rfl ?_
    refine r_iconst (pc' := 13) (v := 0) dX9_moves_12 (by decide) rfl ?_
    obtain ⟨v3, ev3, h⟩ := bd_e h
    refine r_callV2 (pc' := 16) (k' := 0) (n' := 0) dX9_moves_13 mb_X9_ofHarness mi_X9_ofHarness hm.o (by decide) rfl lk_X9_346 rfl rfl rfl (Nat.le_of_ble_eq_true rfl) rfl (c_X9_ofHarness hm ev3 (cpI ?_))
    refine r_iconst (pc' := 17) (v := 1) dX9_moves_16 (by decide) rfl ?_
    refine r_icmp_ne (tgt := 24) (pc' := 20) dX9_moves_17 rfl rfl (fun h4 => ?_) (fun h4 => ?_)
    · have h := ifn h4 h
      refine r_iconst (pc' := 25) (v := 0) dX9_moves_24 (by decide) rfl ?_
      refine r_iload_n (pc' := 26) dX9_moves_25 rfl 2 rfl rfl ?_
      refine r_icmp_ne (tgt := 30) (pc' := 29) dX9_moves_26 rfl rfl (fun h5 => ?_) (fun h5 => ?_)
      · have h := ifn h5 h
        refine r_aload_n (pc' := 31) dX9_moves_30 rfl 0 rfl rfl ?_
        refine r_iload_n (pc' := 32) dX9_moves_31 rfl 1 rfl rfl ?_
        refine r_iconst (pc' := 33) (v := 0) dX9_moves_32 (by decide) rfl ?_
        refine r_iload_n (pc' := 34) dX9_moves_33 rfl 2 rfl rfl ?_
        refine r_callS1 (pc' := 37) (k' := 0) (n' := 0) dX9_moves_34 mb_X9_one ms_X9_one lk_X9_324 rfl rfl rfl (Nat.le_of_ble_eq_true rfl) rfl (c_X9_one rfl (cpI ?_))
        obtain ⟨I6, eI6, h⟩ := bd_e h
        refine r_callV3 (pc' := 40) (k' := 0) (n' := 0) dX9_moves_37 mb_X9_putsHarness mi_X9_putsHarness hm.o (by decide) rfl lk_X9_331 rfl rfl rfl (Nat.le_of_ble_eq_true rfl) rfl (c_X9_putsHarness hm eI6 (cpV ?_))
        refine r_aload_n (pc' := 41) dX9_moves_40 rfl 0 rfl rfl ?_
        refine r_iload_n (pc' := 42) dX9_moves_41 rfl 1 rfl rfl ?_
        refine r_iconst (pc' := 43) (v := 1) dX9_moves_42 (by decide) rfl ?_
        refine r_aload_n (pc' := 44) dX9_moves_43 rfl 0 rfl rfl ?_
        refine r_iload_n (pc' := 45) dX9_moves_44 rfl 1 rfl rfl ?_
        refine r_iconst (pc' := 46) (v := 1) dX9_moves_45 (by decide) rfl ?_
        obtain ⟨v7, ev7, h⟩ := bd_e h
        refine r_callV2 (pc' := 49) (k' := 0) (n' := 0) dX9_moves_46 mb_X9_ofHarness mi_X9_ofHarness hm.o (by decide) rfl lk_X9_346 rfl rfl rfl (Nat.le_of_ble_eq_true rfl) rfl (c_X9_ofHarness hm ev7 (cpI ?_))
        refine r_iconst (pc' := 50) (v := 1) dX9_moves_49 (by decide) rfl ?_
        refine r_iadd (pc' := 51) dX9_moves_50 rfl ?_
        obtain ⟨I8, eI8, h⟩ := bd_e h
        refine r_callV3 (pc' := 54) (k' := 0) (n' := 0) dX9_moves_51 mb_X9_putsHarness mi_X9_putsHarness hm.o (by decide) rfl lk_X9_331 rfl rfl rfl (Nat.le_of_ble_eq_true rfl) rfl (c_X9_putsHarness hm eI8 (cpV ?_))
        refine r_aload_n (pc' := 55) dX9_moves_54 rfl 0 rfl rfl ?_
        refine r_iload_n (pc' := 56) dX9_moves_55 rfl 1 rfl rfl ?_
        refine r_iconst (pc' := 57) (v := 1) dX9_moves_56 (by decide) rfl ?_
        obtain ⟨v9, ev9, h⟩ := bd_e h
        refine r_callV2 (pc' := 60) (k' := 0) (n' := 0) dX9_moves_57 mb_X9_ofHarness mi_X9_ofHarness hm.o (by decide) rfl lk_X9_346 rfl rfl rfl (Nat.le_of_ble_eq_true rfl) rfl (c_X9_ofHarness hm ev9 (cpI ?_))
        refine r_aload_n (pc' := 61) dX9_moves_60 rfl 0 rfl rfl ?_
        refine r_getO (pc' := 64) dX9_moves_61 fa_X9_9 hm.o rfl hm.r1 rfl ?_
        refine r_iconst (pc' := 65) (v := 1) dX9_moves_64 (by decide) rfl ?_
        obtain ⟨g10, h⟩ := gd_e h
        refine r_iaload (pc' := 66) dX9_moves_65 hm.c1 g10 rfl ?_
        refine r_icmp_eq (tgt := 70) (pc' := 69) dX9_moves_66 rfl rfl (fun h11 => ?_) (fun h11 => ?_)
        · have h := ifp h11 h
          refine r_aload_n (pc' := 71) dX9_moves_70 rfl 0 rfl rfl ?_
          refine r_iload_n (pc' := 72) dX9_moves_71 rfl 1 rfl rfl ?_
          refine r_iconst (pc' := 73) (v := 2) dX9_moves_72 (by decide) rfl ?_
          refine r_iconst (pc' := 74) (v := 1) dX9_moves_73 (by decide) rfl ?_
          obtain ⟨I12, eI12, h⟩ := bd_e h
          refine r_callV3 (pc' := 77) (k' := 0) (n' := 0) dX9_moves_74 mb_X9_putsHarness mi_X9_putsHarness hm.o (by decide) rfl lk_X9_331 rfl rfl rfl (Nat.le_of_ble_eq_true rfl) rfl (c_X9_putsHarness hm eI12 (cpV ?_))
          refine r_aload_n (pc' := 78) dX9_moves_77 rfl 0 rfl rfl ?_
          refine r_getO (pc' := 81) dX9_moves_78 fa_X9_9 hm.o rfl hm.r1 rfl ?_
          refine r_bipush (pc' := 83) (v := 9) dX9_moves_81 (by decide) rfl ?_
          refine r_iconst (pc' := 84) (v := 1) dX9_moves_83 (by decide) rfl ?_
          obtain ⟨g13, h⟩ := gd_e h
          refine r_iastore (pc' := 85) dX9_moves_84 hm.c1 g13 rfl ?_
          have h := lx_e h
          cases h
          exact r_ret dX9_moves_85 rfl (by decide) (by decide) hQ
        · have h := ifn h11 h
          cases h
          exact r_ret dX9_moves_69 rfl (by decide) (by decide) hQ
      · have h := ifp h5 h
        cases h
        exact r_ret dX9_moves_29 rfl (by decide) (by decide) hQ
    · have h := ifp h4 h
      refine r_iconst (pc' := 21) (v := 1) dX9_moves_20 (by decide) rfl ?_
      refine r_goto (tgt := 25) dX9_moves_21 rfl ?_
      refine r_iload_n (pc' := 26) dX9_moves_25 rfl 2 rfl rfl ?_
      refine r_icmp_ne (tgt := 30) (pc' := 29) dX9_moves_26 rfl rfl (fun h15 => ?_) (fun h15 => ?_)
      · have h := ifn h15 h
        refine r_aload_n (pc' := 31) dX9_moves_30 rfl 0 rfl rfl ?_
        refine r_iload_n (pc' := 32) dX9_moves_31 rfl 1 rfl rfl ?_
        refine r_iconst (pc' := 33) (v := 0) dX9_moves_32 (by decide) rfl ?_
        refine r_iload_n (pc' := 34) dX9_moves_33 rfl 2 rfl rfl ?_
        refine r_callS1 (pc' := 37) (k' := 0) (n' := 0) dX9_moves_34 mb_X9_one ms_X9_one lk_X9_324 rfl rfl rfl (Nat.le_of_ble_eq_true rfl) rfl (c_X9_one rfl (cpI ?_))
        obtain ⟨I16, eI16, h⟩ := bd_e h
        refine r_callV3 (pc' := 40) (k' := 0) (n' := 0) dX9_moves_37 mb_X9_putsHarness mi_X9_putsHarness hm.o (by decide) rfl lk_X9_331 rfl rfl rfl (Nat.le_of_ble_eq_true rfl) rfl (c_X9_putsHarness hm eI16 (cpV ?_))
        refine r_aload_n (pc' := 41) dX9_moves_40 rfl 0 rfl rfl ?_
        refine r_iload_n (pc' := 42) dX9_moves_41 rfl 1 rfl rfl ?_
        refine r_iconst (pc' := 43) (v := 1) dX9_moves_42 (by decide) rfl ?_
        refine r_aload_n (pc' := 44) dX9_moves_43 rfl 0 rfl rfl ?_
        refine r_iload_n (pc' := 45) dX9_moves_44 rfl 1 rfl rfl ?_
        refine r_iconst (pc' := 46) (v := 1) dX9_moves_45 (by decide) rfl ?_
        obtain ⟨v17, ev17, h⟩ := bd_e h
        refine r_callV2 (pc' := 49) (k' := 0) (n' := 0) dX9_moves_46 mb_X9_ofHarness mi_X9_ofHarness hm.o (by decide) rfl lk_X9_346 rfl rfl rfl (Nat.le_of_ble_eq_true rfl) rfl (c_X9_ofHarness hm ev17 (cpI ?_))
        refine r_iconst (pc' := 50) (v := 1) dX9_moves_49 (by decide) rfl ?_
        refine r_iadd (pc' := 51) dX9_moves_50 rfl ?_
        obtain ⟨I18, eI18, h⟩ := bd_e h
        refine r_callV3 (pc' := 54) (k' := 0) (n' := 0) dX9_moves_51 mb_X9_putsHarness mi_X9_putsHarness hm.o (by decide) rfl lk_X9_331 rfl rfl rfl (Nat.le_of_ble_eq_true rfl) rfl (c_X9_putsHarness hm eI18 (cpV ?_))
        refine r_aload_n (pc' := 55) dX9_moves_54 rfl 0 rfl rfl ?_
        refine r_iload_n (pc' := 56) dX9_moves_55 rfl 1 rfl rfl ?_
        refine r_iconst (pc' := 57) (v := 1) dX9_moves_56 (by decide) rfl ?_
        obtain ⟨v19, ev19, h⟩ := bd_e h
        refine r_callV2 (pc' := 60) (k' := 0) (n' := 0) dX9_moves_57 mb_X9_ofHarness mi_X9_ofHarness hm.o (by decide) rfl lk_X9_346 rfl rfl rfl (Nat.le_of_ble_eq_true rfl) rfl (c_X9_ofHarness hm ev19 (cpI ?_))
        refine r_aload_n (pc' := 61) dX9_moves_60 rfl 0 rfl rfl ?_
        refine r_getO (pc' := 64) dX9_moves_61 fa_X9_9 hm.o rfl hm.r1 rfl ?_
        refine r_iconst (pc' := 65) (v := 1) dX9_moves_64 (by decide) rfl ?_
        obtain ⟨g20, h⟩ := gd_e h
        refine r_iaload (pc' := 66) dX9_moves_65 hm.c1 g20 rfl ?_
        refine r_icmp_eq (tgt := 70) (pc' := 69) dX9_moves_66 rfl rfl (fun h21 => ?_) (fun h21 => ?_)
        · have h := ifp h21 h
          refine r_aload_n (pc' := 71) dX9_moves_70 rfl 0 rfl rfl ?_
          refine r_iload_n (pc' := 72) dX9_moves_71 rfl 1 rfl rfl ?_
          refine r_iconst (pc' := 73) (v := 2) dX9_moves_72 (by decide) rfl ?_
          refine r_iconst (pc' := 74) (v := 1) dX9_moves_73 (by decide) rfl ?_
          obtain ⟨I22, eI22, h⟩ := bd_e h
          refine r_callV3 (pc' := 77) (k' := 0) (n' := 0) dX9_moves_74 mb_X9_putsHarness mi_X9_putsHarness hm.o (by decide) rfl lk_X9_331 rfl rfl rfl (Nat.le_of_ble_eq_true rfl) rfl (c_X9_putsHarness hm eI22 (cpV ?_))
          refine r_aload_n (pc' := 78) dX9_moves_77 rfl 0 rfl rfl ?_
          refine r_getO (pc' := 81) dX9_moves_78 fa_X9_9 hm.o rfl hm.r1 rfl ?_
          refine r_bipush (pc' := 83) (v := 9) dX9_moves_81 (by decide) rfl ?_
          refine r_iconst (pc' := 84) (v := 1) dX9_moves_83 (by decide) rfl ?_
          obtain ⟨g23, h⟩ := gd_e h
          refine r_iastore (pc' := 85) dX9_moves_84 hm.c1 g23 rfl ?_
          have h := lx_e h
          cases h
          exact r_ret dX9_moves_85 rfl (by decide) (by decide) hQ
        · have h := ifn h21 h
          cases h
          exact r_ret dX9_moves_69 rfl (by decide) (by decide) hQ
      · have h := ifp h15 h
        cases h
        exact r_ret dX9_moves_29 rfl (by decide) (by decide) hQ
set_option maxHeartbeats 4000000 in
theorem fr_X9_moves {I : JI} {m : Nat} {x1 : Int32} {b2 : Bool} {J : JI} {z : Nat} (h : s_X9_moves I m x1 b2 = some J) (hz_m1 : z ≠ (m + 1)) : J z = I z := by
  unfold s_X9_moves at h
  obtain ⟨o1, e1, h⟩ := bd_e h
  rcases if_e h with h | h
  · cases h
    exact rfl
  · obtain ⟨o2, e2, h⟩ := bd_e h
    rcases if_e h with h | h
    · rcases if_e h with h | h
      · cases h
        exact rfl
      · obtain ⟨I16, e3, h⟩ := bd_e h
        obtain ⟨o4, e4, h⟩ := bd_e h
        obtain ⟨I18, e5, h⟩ := bd_e h
        obtain ⟨o6, e6, h⟩ := bd_e h
        obtain ⟨g7, h⟩ := gd_e h
        rcases if_e h with h | h
        · obtain ⟨I22, e8, h⟩ := bd_e h
          obtain ⟨g9, h⟩ := gd_e h
          have h := lx_e h
          cases h
          exact ((fr_stI (by omega)).trans ((fr_X9_putsHarness e8 (by omega)).trans ((fr_X9_putsHarness e5 (by omega)).trans ((fr_X9_putsHarness e3 (by omega)).trans rfl))))
        · cases h
          exact ((fr_X9_putsHarness e5 (by omega)).trans ((fr_X9_putsHarness e3 (by omega)).trans rfl))
    · rcases if_e h with h | h
      · cases h
        exact rfl
      · obtain ⟨I6, e10, h⟩ := bd_e h
        obtain ⟨o11, e11, h⟩ := bd_e h
        obtain ⟨I8, e12, h⟩ := bd_e h
        obtain ⟨o13, e13, h⟩ := bd_e h
        obtain ⟨g14, h⟩ := gd_e h
        rcases if_e h with h | h
        · obtain ⟨I12, e15, h⟩ := bd_e h
          obtain ⟨g16, h⟩ := gd_e h
          have h := lx_e h
          cases h
          exact ((fr_stI (by omega)).trans ((fr_X9_putsHarness e15 (by omega)).trans ((fr_X9_putsHarness e12 (by omega)).trans ((fr_X9_putsHarness e10 (by omega)).trans rfl))))
        · cases h
          exact ((fr_X9_putsHarness e12 (by omega)).trans ((fr_X9_putsHarness e10 (by omega)).trans rfl))
