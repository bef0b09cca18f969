/-! the law's text: head, warps, cards, yarn, deck -/
theorem TS.new {X : JS → JI → Prop} {L0 : List Nat} {I I' : JI} {S S' : JS} {b m : Nat} {t : List Nat} (hx : X S I) (hX : TK X) (hT : sT S = none) (hL : ∀ x, x ∈ L0 → x ∈ sL S) (hb : b ∉ sL S) (hn : SBn b (nwI I b) (nwN S b 16 0) I' S' t) (ht : t.length ≤ m) : TS X L0 I S S' I' b t m := by
  obtain ⟨v, cap, g1, g2, g3⟩ := hn
  have hL2 : ∀ x, x ∈ L0 → x ∈ sL (nwN S b 16 0) := fun x hx => List.mem_append_left _ (hL x hx)
  have x1 : Kp (fun _ => False) I S (nwI I b) (nwN S b 16 0) := Kp.nw hb
  refine ⟨hX _ _ _ _ _ (hX _ _ _ _ _ hx x1 rfl (fun _ _ e => e.elim)) g3 g1.T (fun c _ e => by subst e; exact Or.inr nwN_o.2), (x1.mono fun _ _ e => e.elim).tr (g3.mono fun c _ e => by subst e; exact fun q => hb (hL _ q)), fun q => hb (hL _ q), ⟨v, cap, g1, fun q => g2 (hL2 _ q)⟩, fun x hx => (g3 x (hL2 x hx)).1, ht⟩
set_option maxHeartbeats 4000000 in
theorem l_text_a {Ω : JO} {Q : JQ} {I : JI} {S : JS} {L0 : List Nat} {d : Nat} {A C : Nat → Nat} {T : TP} {v : Int32} (h0 : LQ Ω L0 S I d A C T) (hT : sT S = none) (hL : ∀ x, x ∈ L0 → x ∈ sL S) (hk : ∀ I' S' b, TS (fun S I => LQ Ω L0 S I d A C T) L0 I S S' I' b (TXh T ++ TXw T (tW T)) 110 → AA Ω m_L_text (FQ Ω m_L_text Q) 30 60000 104 [(2, .ref b), (0, .ref d), (1, .int v)] [] I' S') : AA Ω m_L_text (FQ Ω m_L_text Q) 0 0 0 [(0, .ref d), (1, .int v)] [] I S := by
  have hv := h0.tv
  obtain ⟨⟨v1, v2⟩, ⟨v3, v4⟩, v5, ⟨v6, v7⟩, ⟨v8, v9⟩, v10, v11⟩ := hv
  refine r_newG (pc' := 3) dL_text_0 cw_L_74 nwJ4 (Nat.le_of_ble_eq_true rfl) (Nat.le_of_ble_eq_true rfl) rfl (fun b hz0 => aa_widen (k' := 1) (n' := 4) (by decide) (by decide) ?_)
  have hb : b ∉ sL S := notin_of hz0
  refine r_dup (pc' := 4) dL_text_3 rfl rfl ?_
  refine r_ldcS (pc' := 6) dL_text_4 sw_L_81 rfl ?_
  refine r_callI (pc' := 9) (k' := 3) (n' := 3004) (nn := 1) (As := [_]) (rest := [_]) dL_text_6 mb_J4_init_a7421 mc_J4_init_a7421 lk_L_83 rfl rfl rfl rfl rfl (Nat.le_of_ble_eq_true rfl) rfl (c_J4_init_a7421 nwN_o (by rw [nwI_z]) sw_L_81 (fun x hx => of_decide_eq_true (List.all_eq_true.mp (show (tb "loom ").all (fun x => decide (x < 128)) = true by decide +kernel) x hx)) (by decide +kernel) (fun I2 S2 hn => (cpV ?_)))
  have h := TS.new (m := 5) h0 LQ.tk hT hL hb hn (by decide +kernel)
  refine r_aload_n (pc' := 10) dL_text_9 rfl 0 rfl rfl ?_
  refine r_getNIv (pc' := 13) dL_text_10 fn_L_32 (LQ.o h.x) rfl (LQ.f0 h.x) rfl ?_
  refine r_callV (pc' := 16) (k' := 4) (n' := 5004) (nn := 1) (As := [_]) (rest := []) dL_text_13 mb_J4_append_bf812 mi_J4_append_bf812 h.o (by decide) rfl lk_L_78 rfl rfl rfl rfl rfl (Nat.le_of_ble_eq_true rfl) rfl (c_apI (u := tH T) h LQ.tk (by omega) (by omega) (fun I S h => (cpR ?_)))
  refine r_bipush (pc' := 18) (v := 32) dL_text_16 (by decide) rfl ?_
  refine r_callV (pc' := 21) (k' := 5) (n' := 7004) (nn := 1) (As := [_]) (rest := []) dL_text_18 mb_J4_append_cf468 mi_J4_append_cf468 h.o (by decide) rfl lk_L_73 rfl rfl rfl rfl rfl (Nat.le_of_ble_eq_true rfl) rfl (c_apC (c := 32) h LQ.tk (by decide) (by omega) (fun I S h => (cpR ?_)))
  refine r_aload_n (pc' := 22) dL_text_21 rfl 0 rfl rfl ?_
  refine r_getNIv (pc' := 25) dL_text_22 fn_L_36 (LQ.o h.x) rfl (LQ.f1 h.x) rfl ?_
  refine r_callV (pc' := 28) (k' := 6) (n' := 9004) (nn := 1) (As := [_]) (rest := []) dL_text_25 mb_J4_append_bf812 mi_J4_append_bf812 h.o (by decide) rfl lk_L_78 rfl rfl rfl rfl rfl (Nat.le_of_ble_eq_true rfl) rfl (c_apI (u := tL T) h LQ.tk (by omega) (by omega) (fun I S h => (cpR ?_)))
  refine r_ldcS (pc' := 30) dL_text_28 sw_L_86 rfl ?_
  refine r_callV (pc' := 33) (k' := 7) (n' := 11004) (nn := 1) (As := [_]) (rest := []) dL_text_30 mb_J4_append_15ec4 mi_J4_append_15ec4 h.o (by decide) rfl lk_L_88 rfl rfl rfl rfl rfl (Nat.le_of_ble_eq_true rfl) rfl (c_apS sw_L_86 8 h LQ.tk (by decide +kernel) (by decide +kernel) (by omega) (fun I S h => (cpR ?_)))
  refine r_aload_n (pc' := 34) dL_text_33 rfl 0 rfl rfl ?_
  refine r_getNIv (pc' := 37) dL_text_34 fn_L_39 (LQ.o h.x) rfl (LQ.f2 h.x) rfl ?_
  refine r_callV (pc' := 40) (k' := 8) (n' := 13004) (nn := 1) (As := [_]) (rest := []) dL_text_37 mb_J4_append_bf812 mi_J4_append_bf812 h.o (by decide) rfl lk_L_78 rfl rfl rfl rfl rfl (Nat.le_of_ble_eq_true rfl) rfl (c_apI (u := tS T) h LQ.tk (by omega) (by omega) (fun I S h => (cpR ?_)))
  refine r_ldcS (pc' := 42) dL_text_40 sw_L_91 rfl ?_
  refine r_callV (pc' := 45) (k' := 9) (n' := 15004) (nn := 1) (As := [_]) (rest := []) dL_text_42 mb_J4_append_15ec4 mi_J4_append_15ec4 h.o (by decide) rfl lk_L_88 rfl rfl rfl rfl rfl (Nat.le_of_ble_eq_true rfl) rfl (c_apS sw_L_91 7 h LQ.tk (by decide +kernel) (by decide +kernel) (by omega) (fun I S h => (cpR ?_)))
  refine r_aload_n (pc' := 46) dL_text_45 rfl 0 rfl rfl ?_
  refine r_getNIv (pc' := 49) dL_text_46 fn_L_42 (LQ.o h.x) rfl (LQ.f3 h.x) rfl ?_
  refine r_callV (pc' := 52) (k' := 10) (n' := 17004) (nn := 1) (As := [_]) (rest := []) dL_text_49 mb_J4_append_bf812 mi_J4_append_bf812 h.o (by decide) rfl lk_L_78 rfl rfl rfl rfl rfl (Nat.le_of_ble_eq_true rfl) rfl (c_apI (u := tM T) h LQ.tk (by omega) (by omega) (fun I S h => (cpR ?_)))
  refine r_astore_n (pc' := 53) (lv' := [(2, _), (0, _), (1, _)]) dL_text_52 rfl (by decide) rfl rfl ?_
  refine r_iconst (pc' := 54) (v := 0) dL_text_53 (by decide) rfl ?_
  refine r_istore_n (pc' := 55) (lv' := [(3, _), (2, _), (0, _), (1, _)]) dL_text_54 rfl (by decide) rfl rfl ?_
  refine r_iload_n (pc' := 56) dL_text_55 rfl 0 rfl rfl ?_
  refine r_aload_n (pc' := 57) dL_text_56 rfl 2 rfl rfl ?_
  refine r_getNO (pc' := 60) dL_text_57 fn_L_56 (LQ.o h.x) rfl ((LQ.rr h.x) 8 (by decide) (by decide) (by decide)) rfl ?_
  refine r_alen (pc' := 61) dL_text_60 (LQ.a8 h.x) (by decide) rfl rfl ?_
  refine r_icmp_ge (tgt := 104) (pc' := 64) dL_text_61 rfl rfl (fun h61 => ?_) (fun h61 => ?_)
  · exact absurd h61 (show ¬ nI (tW T) ≤ nI 0 from nI_ge (by omega) (by omega))
  · refine r_aload_n (pc' := 65) dL_text_64 rfl 1 rfl rfl ?_
    refine r_ldcS (pc' := 67) dL_text_65 sw_L_93 rfl ?_
    refine r_callV (pc' := 70) (k' := 11) (n' := 19004) (nn := 1) (As := [_]) (rest := []) dL_text_67 mb_J4_append_15ec4 mi_J4_append_15ec4 h.o (by decide) rfl lk_L_88 rfl rfl rfl rfl rfl (Nat.le_of_ble_eq_true rfl) rfl (c_apS sw_L_93 6 h LQ.tk (by decide +kernel) (by decide +kernel) (by omega) (fun I S h => (cpR ?_)))
    refine r_bipush (pc' := 72) (v := 97) dL_text_70 (by decide) rfl ?_
    refine r_aload_n (pc' := 73) dL_text_72 rfl 2 rfl rfl ?_
    refine r_getNO (pc' := 76) dL_text_73 fn_L_59 (LQ.o h.x) rfl ((LQ.rr h.x) 9 (by decide) (by decide) (by decide)) rfl ?_
    refine r_iload_n (pc' := 77) dL_text_76 rfl 0 rfl rfl ?_
    refine r_ialoadN (pc' := 78) dL_text_77 (LQ.a9 h.x) (show 0 < tW T by omega) (by omega) ((LQ.wv h.x) 0 (by decide)).2 rfl ?_
    refine r_iaddv (pc' := 79) dL_text_78 (nI_add 97 (tCo T 0)) rfl ?_
    refine r_i2c (pc' := 80) dL_text_79 (byt_chr (show 97 + tCo T 0 < 128 by have := (v10 0 (by decide)).2; omega)) rfl ?_
    refine r_callV (pc' := 83) (k' := 12) (n' := 21004) (nn := 1) (As := [_]) (rest := []) dL_text_80 mb_J4_append_cf468 mi_J4_append_cf468 h.o (by decide) rfl lk_L_73 rfl rfl rfl rfl rfl (Nat.le_of_ble_eq_true rfl) rfl (c_apC (c := 97 + tCo T 0) h LQ.tk (by have := (v10 0 (by decide)).2; omega) (by omega) (fun I S h => (cpR ?_)))
    refine r_bipush (pc' := 85) (v := 32) dL_text_83 (by decide) rfl ?_
    refine r_callV (pc' := 88) (k' := 13) (n' := 23004) (nn := 1) (As := [_]) (rest := []) dL_text_85 mb_J4_append_cf468 mi_J4_append_cf468 h.o (by decide) rfl lk_L_73 rfl rfl rfl rfl rfl (Nat.le_of_ble_eq_true rfl) rfl (c_apC (c := 32) h LQ.tk (by decide) (by omega) (fun I S h => (cpR ?_)))
    refine r_aload_n (pc' := 89) dL_text_88 rfl 2 rfl rfl ?_
    refine r_getNO (pc' := 92) dL_text_89 fn_L_56 (LQ.o h.x) rfl ((LQ.rr h.x) 8 (by decide) (by decide) (by decide)) rfl ?_
    refine r_iload_n (pc' := 93) dL_text_92 rfl 0 rfl rfl ?_
    refine r_ialoadN (pc' := 94) dL_text_93 (LQ.a8 h.x) (show 0 < tW T by omega) (by omega) ((LQ.wv h.x) 0 (by decide)).1 rfl ?_
    refine r_callV (pc' := 97) (k' := 14) (n' := 25004) (nn := 1) (As := [_]) (rest := []) dL_text_94 mb_J4_append_bf812 mi_J4_append_bf812 h.o (by decide) rfl lk_L_78 rfl rfl rfl rfl rfl (Nat.le_of_ble_eq_true rfl) rfl (c_apI (u := tOn T 0) h LQ.tk (by have := (v10 0 (by decide)).1; omega) (by omega) (fun I S h => (cpR ?_)))
    refine r_pop (pc' := 98) dL_text_97 rfl rfl ?_
    refine r_iinc (pc' := 101) (lv' := [(3, _), (2, _), (0, _), (1, _)]) dL_text_98 0 rfl rfl (by decide) rfl rfl ?_
    refine aa_lv (lv' := [(3, .int (nI 1)), (2, _), (0, _), (1, _)]) rfl ?_
    refine r_goto (tgt := 55) dL_text_101 rfl ?_
    refine r_iload_n (pc' := 56) dL_text_55 rfl 0 rfl rfl ?_
    refine r_aload_n (pc' := 57) dL_text_56 rfl 2 rfl rfl ?_
    refine r_getNO (pc' := 60) dL_text_57 fn_L_56 (LQ.o h.x) rfl ((LQ.rr h.x) 8 (by decide) (by decide) (by decide)) rfl ?_
    refine r_alen (pc' := 61) dL_text_60 (LQ.a8 h.x) (by decide) rfl rfl ?_
    refine r_icmp_ge (tgt := 104) (pc' := 64) dL_text_61 rfl rfl (fun h61 => ?_) (fun h61 => ?_)
    · exact absurd h61 (show ¬ nI (tW T) ≤ nI 1 from nI_ge (by omega) (by omega))
    · refine r_aload_n (pc' := 65) dL_text_64 rfl 1 rfl rfl ?_
      refine r_ldcS (pc' := 67) dL_text_65 sw_L_93 rfl ?_
      refine r_callV (pc' := 70) (k' := 15) (n' := 27004) (nn := 1) (As := [_]) (rest := []) dL_text_67 mb_J4_append_15ec4 mi_J4_append_15ec4 h.o (by decide) rfl lk_L_88 rfl rfl rfl rfl rfl (Nat.le_of_ble_eq_true rfl) rfl (c_apS sw_L_93 6 h LQ.tk (by decide +kernel) (by decide +kernel) (by omega) (fun I S h => (cpR ?_)))
      refine r_bipush (pc' := 72) (v := 97) dL_text_70 (by decide) rfl ?_
      refine r_aload_n (pc' := 73) dL_text_72 rfl 2 rfl rfl ?_
      refine r_getNO (pc' := 76) dL_text_73 fn_L_59 (LQ.o h.x) rfl ((LQ.rr h.x) 9 (by decide) (by decide) (by decide)) rfl ?_
      refine r_iload_n (pc' := 77) dL_text_76 rfl 0 rfl rfl ?_
      refine r_ialoadN (pc' := 78) dL_text_77 (LQ.a9 h.x) (show 1 < tW T by omega) (by omega) ((LQ.wv h.x) 1 (by decide)).2 rfl ?_
      refine r_iaddv (pc' := 79) dL_text_78 (nI_add 97 (tCo T 1)) rfl ?_
      refine r_i2c (pc' := 80) dL_text_79 (byt_chr (show 97 + tCo T 1 < 128 by have := (v10 1 (by decide)).2; omega)) rfl ?_
      refine r_callV (pc' := 83) (k' := 16) (n' := 29004) (nn := 1) (As := [_]) (rest := []) dL_text_80 mb_J4_append_cf468 mi_J4_append_cf468 h.o (by decide) rfl lk_L_73 rfl rfl rfl rfl rfl (Nat.le_of_ble_eq_true rfl) rfl (c_apC (c := 97 + tCo T 1) h LQ.tk (by have := (v10 1 (by decide)).2; omega) (by omega) (fun I S h => (cpR ?_)))
      refine r_bipush (pc' := 85) (v := 32) dL_text_83 (by decide) rfl ?_
      refine r_callV (pc' := 88) (k' := 17) (n' := 31004) (nn := 1) (As := [_]) (rest := []) dL_text_85 mb_J4_append_cf468 mi_J4_append_cf468 h.o (by decide) rfl lk_L_73 rfl rfl rfl rfl rfl (Nat.le_of_ble_eq_true rfl) rfl (c_apC (c := 32) h LQ.tk (by decide) (by omega) (fun I S h => (cpR ?_)))
      refine r_aload_n (pc' := 89) dL_text_88 rfl 2 rfl rfl ?_
      refine r_getNO (pc' := 92) dL_text_89 fn_L_56 (LQ.o h.x) rfl ((LQ.rr h.x) 8 (by decide) (by decide) (by decide)) rfl ?_
      refine r_iload_n (pc' := 93) dL_text_92 rfl 0 rfl rfl ?_
      refine r_ialoadN (pc' := 94) dL_text_93 (LQ.a8 h.x) (show 1 < tW T by omega) (by omega) ((LQ.wv h.x) 1 (by decide)).1 rfl ?_
      refine r_callV (pc' := 97) (k' := 18) (n' := 33004) (nn := 1) (As := [_]) (rest := []) dL_text_94 mb_J4_append_bf812 mi_J4_append_bf812 h.o (by decide) rfl lk_L_78 rfl rfl rfl rfl rfl (Nat.le_of_ble_eq_true rfl) rfl (c_apI (u := tOn T 1) h LQ.tk (by have := (v10 1 (by decide)).1; omega) (by omega) (fun I S h => (cpR ?_)))
      refine r_pop (pc' := 98) dL_text_97 rfl rfl ?_
      refine r_iinc (pc' := 101) (lv' := [(3, _), (2, _), (0, _), (1, _)]) dL_text_98 0 rfl rfl (by decide) rfl rfl ?_
      refine aa_lv (lv' := [(3, .int (nI 2)), (2, _), (0, _), (1, _)]) rfl ?_
      refine r_goto (tgt := 55) dL_text_101 rfl ?_
      refine r_iload_n (pc' := 56) dL_text_55 rfl 0 rfl rfl ?_
      refine r_aload_n (pc' := 57) dL_text_56 rfl 2 rfl rfl ?_
      refine r_getNO (pc' := 60) dL_text_57 fn_L_56 (LQ.o h.x) rfl ((LQ.rr h.x) 8 (by decide) (by decide) (by decide)) rfl ?_
      refine r_alen (pc' := 61) dL_text_60 (LQ.a8 h.x) (by decide) rfl rfl ?_
      refine r_icmp_ge (tgt := 104) (pc' := 64) dL_text_61 rfl rfl (fun h61 => ?_) (fun h61 => ?_)
      · exact absurd h61 (show ¬ nI (tW T) ≤ nI 2 from nI_ge (by omega) (by omega))
      · refine r_aload_n (pc' := 65) dL_text_64 rfl 1 rfl rfl ?_
        refine r_ldcS (pc' := 67) dL_text_65 sw_L_93 rfl ?_
        refine r_callV (pc' := 70) (k' := 19) (n' := 35004) (nn := 1) (As := [_]) (rest := []) dL_text_67 mb_J4_append_15ec4 mi_J4_append_15ec4 h.o (by decide) rfl lk_L_88 rfl rfl rfl rfl rfl (Nat.le_of_ble_eq_true rfl) rfl (c_apS sw_L_93 6 h LQ.tk (by decide +kernel) (by decide +kernel) (by omega) (fun I S h => (cpR ?_)))
        refine r_bipush (pc' := 72) (v := 97) dL_text_70 (by decide) rfl ?_
        refine r_aload_n (pc' := 73) dL_text_72 rfl 2 rfl rfl ?_
        refine r_getNO (pc' := 76) dL_text_73 fn_L_59 (LQ.o h.x) rfl ((LQ.rr h.x) 9 (by decide) (by decide) (by decide)) rfl ?_
        refine r_iload_n (pc' := 77) dL_text_76 rfl 0 rfl rfl ?_
        refine r_ialoadN (pc' := 78) dL_text_77 (LQ.a9 h.x) (show 2 < tW T by omega) (by omega) ((LQ.wv h.x) 2 (by decide)).2 rfl ?_
        refine r_iaddv (pc' := 79) dL_text_78 (nI_add 97 (tCo T 2)) rfl ?_
        refine r_i2c (pc' := 80) dL_text_79 (byt_chr (show 97 + tCo T 2 < 128 by have := (v10 2 (by decide)).2; omega)) rfl ?_
        refine r_callV (pc' := 83) (k' := 20) (n' := 37004) (nn := 1) (As := [_]) (rest := []) dL_text_80 mb_J4_append_cf468 mi_J4_append_cf468 h.o (by decide) rfl lk_L_73 rfl rfl rfl rfl rfl (Nat.le_of_ble_eq_true rfl) rfl (c_apC (c := 97 + tCo T 2) h LQ.tk (by have := (v10 2 (by decide)).2; omega) (by omega) (fun I S h => (cpR ?_)))
        refine r_bipush (pc' := 85) (v := 32) dL_text_83 (by decide) rfl ?_
        refine r_callV (pc' := 88) (k' := 21) (n' := 39004) (nn := 1) (As := [_]) (rest := []) dL_text_85 mb_J4_append_cf468 mi_J4_append_cf468 h.o (by decide) rfl lk_L_73 rfl rfl rfl rfl rfl (Nat.le_of_ble_eq_true rfl) rfl (c_apC (c := 32) h LQ.tk (by decide) (by omega) (fun I S h => (cpR ?_)))
        refine r_aload_n (pc' := 89) dL_text_88 rfl 2 rfl rfl ?_
        refine r_getNO (pc' := 92) dL_text_89 fn_L_56 (LQ.o h.x) rfl ((LQ.rr h.x) 8 (by decide) (by decide) (by decide)) rfl ?_
        refine r_iload_n (pc' := 93) dL_text_92 rfl 0 rfl rfl ?_
        refine r_ialoadN (pc' := 94) dL_text_93 (LQ.a8 h.x) (show 2 < tW T by omega) (by omega) ((LQ.wv h.x) 2 (by decide)).1 rfl ?_
        refine r_callV (pc' := 97) (k' := 22) (n' := 41004) (nn := 1) (As := [_]) (rest := []) dL_text_94 mb_J4_append_bf812 mi_J4_append_bf812 h.o (by decide) rfl lk_L_78 rfl rfl rfl rfl rfl (Nat.le_of_ble_eq_true rfl) rfl (c_apI (u := tOn T 2) h LQ.tk (by have := (v10 2 (by decide)).1; omega) (by omega) (fun I S h => (cpR ?_)))
        refine r_pop (pc' := 98) dL_text_97 rfl rfl ?_
        refine r_iinc (pc' := 101) (lv' := [(3, _), (2, _), (0, _), (1, _)]) dL_text_98 0 rfl rfl (by decide) rfl rfl ?_
        refine aa_lv (lv' := [(3, .int (nI 3)), (2, _), (0, _), (1, _)]) rfl ?_
        refine r_goto (tgt := 55) dL_text_101 rfl ?_
        refine r_iload_n (pc' := 56) dL_text_55 rfl 0 rfl rfl ?_
        refine r_aload_n (pc' := 57) dL_text_56 rfl 2 rfl rfl ?_
        refine r_getNO (pc' := 60) dL_text_57 fn_L_56 (LQ.o h.x) rfl ((LQ.rr h.x) 8 (by decide) (by decide) (by decide)) rfl ?_
        refine r_alen (pc' := 61) dL_text_60 (LQ.a8 h.x) (by decide) rfl rfl ?_
        refine r_icmp_ge (tgt := 104) (pc' := 64) dL_text_61 rfl rfl (fun h61 => ?_) (fun h61 => ?_)
        · have eW : tW T = 3 := by
            rcases (show tW T = 3 ∨ tW T = 4 by omega) with e | e
            · exact e
            · exact absurd h61 (show ¬ nI (tW T) ≤ nI 3 by rw [e]; decide)
          refine aa_locs (ks := [1, 2, 3]) (lv' := [(2, _), (0, _), (1, _)]) rfl ?_
          refine aa_widen (k' := 30) (n' := 60000) (by decide) (by decide) ?_
          refine hk _ _ _ ((h.weak (by omega)).eq ?_)
          rw [eW]
          simp only [TXh, TXw, TXA, List.append_assoc, List.nil_append]
        · have eW : tW T = 4 := by
            rcases (show tW T = 3 ∨ tW T = 4 by omega) with e | e
            · exact absurd (show nI (tW T) ≤ nI 3 by rw [e]; decide) h61
            · exact e
          refine r_aload_n (pc' := 65) dL_text_64 rfl 1 rfl rfl ?_
          refine r_ldcS (pc' := 67) dL_text_65 sw_L_93 rfl ?_
          refine r_callV (pc' := 70) (k' := 23) (n' := 43004) (nn := 1) (As := [_]) (rest := []) dL_text_67 mb_J4_append_15ec4 mi_J4_append_15ec4 h.o (by decide) rfl lk_L_88 rfl rfl rfl rfl rfl (Nat.le_of_ble_eq_true rfl) rfl (c_apS sw_L_93 6 h LQ.tk (by decide +kernel) (by decide +kernel) (by omega) (fun I S h => (cpR ?_)))
          refine r_bipush (pc' := 72) (v := 97) dL_text_70 (by decide) rfl ?_
          refine r_aload_n (pc' := 73) dL_text_72 rfl 2 rfl rfl ?_
          refine r_getNO (pc' := 76) dL_text_73 fn_L_59 (LQ.o h.x) rfl ((LQ.rr h.x) 9 (by decide) (by decide) (by decide)) rfl ?_
          refine r_iload_n (pc' := 77) dL_text_76 rfl 0 rfl rfl ?_
          refine r_ialoadN (pc' := 78) dL_text_77 (LQ.a9 h.x) (show 3 < tW T by omega) (by omega) ((LQ.wv h.x) 3 (by decide)).2 rfl ?_
          refine r_iaddv (pc' := 79) dL_text_78 (nI_add 97 (tCo T 3)) rfl ?_
          refine r_i2c (pc' := 80) dL_text_79 (byt_chr (show 97 + tCo T 3 < 128 by have := (v10 3 (by decide)).2; omega)) rfl ?_
          refine r_callV (pc' := 83) (k' := 24) (n' := 45004) (nn := 1) (As := [_]) (rest := []) dL_text_80 mb_J4_append_cf468 mi_J4_append_cf468 h.o (by decide) rfl lk_L_73 rfl rfl rfl rfl rfl (Nat.le_of_ble_eq_true rfl) rfl (c_apC (c := 97 + tCo T 3) h LQ.tk (by have := (v10 3 (by decide)).2; omega) (by omega) (fun I S h => (cpR ?_)))
          refine r_bipush (pc' := 85) (v := 32) dL_text_83 (by decide) rfl ?_
          refine r_callV (pc' := 88) (k' := 25) (n' := 47004) (nn := 1) (As := [_]) (rest := []) dL_text_85 mb_J4_append_cf468 mi_J4_append_cf468 h.o (by decide) rfl lk_L_73 rfl rfl rfl rfl rfl (Nat.le_of_ble_eq_true rfl) rfl (c_apC (c := 32) h LQ.tk (by decide) (by omega) (fun I S h => (cpR ?_)))
          refine r_aload_n (pc' := 89) dL_text_88 rfl 2 rfl rfl ?_
          refine r_getNO (pc' := 92) dL_text_89 fn_L_56 (LQ.o h.x) rfl ((LQ.rr h.x) 8 (by decide) (by decide) (by decide)) rfl ?_
          refine r_iload_n (pc' := 93) dL_text_92 rfl 0 rfl rfl ?_
          refine r_ialoadN (pc' := 94) dL_text_93 (LQ.a8 h.x) (show 3 < tW T by omega) (by omega) ((LQ.wv h.x) 3 (by decide)).1 rfl ?_
          refine r_callV (pc' := 97) (k' := 26) (n' := 49004) (nn := 1) (As := [_]) (rest := []) dL_text_94 mb_J4_append_bf812 mi_J4_append_bf812 h.o (by decide) rfl lk_L_78 rfl rfl rfl rfl rfl (Nat.le_of_ble_eq_true rfl) rfl (c_apI (u := tOn T 3) h LQ.tk (by have := (v10 3 (by decide)).1; omega) (by omega) (fun I S h => (cpR ?_)))
          refine r_pop (pc' := 98) dL_text_97 rfl rfl ?_
          refine r_iinc (pc' := 101) (lv' := [(3, _), (2, _), (0, _), (1, _)]) dL_text_98 0 rfl rfl (by decide) rfl rfl ?_
          refine aa_lv (lv' := [(3, .int (nI 4)), (2, _), (0, _), (1, _)]) rfl ?_
          refine r_goto (tgt := 55) dL_text_101 rfl ?_
          refine r_iload_n (pc' := 56) dL_text_55 rfl 0 rfl rfl ?_
          refine r_aload_n (pc' := 57) dL_text_56 rfl 2 rfl rfl ?_
          refine r_getNO (pc' := 60) dL_text_57 fn_L_56 (LQ.o h.x) rfl ((LQ.rr h.x) 8 (by decide) (by decide) (by decide)) rfl ?_
          refine r_alen (pc' := 61) dL_text_60 (LQ.a8 h.x) (by decide) rfl rfl ?_
          refine r_icmp_ge (tgt := 104) (pc' := 64) dL_text_61 rfl rfl (fun h61 => ?_) (fun h61 => ?_)
          · refine aa_locs (ks := [1, 2, 3]) (lv' := [(2, _), (0, _), (1, _)]) rfl ?_
            refine aa_widen (k' := 30) (n' := 60000) (by decide) (by decide) ?_
            refine hk _ _ _ ((h.weak (by omega)).eq ?_)
            rw [eW]
            simp only [TXh, TXw, TXA, List.append_assoc, List.nil_append]
          · exact absurd (show nI (tW T) ≤ nI 4 from nI_le (by omega) (by omega)) h61
set_option maxHeartbeats 4000000 in
theorem l_text_b {Ω : JO} {Q : JQ} {I I0 : JI} {S S0 : JS} {L0 : List Nat} {d : Nat} {A C : Nat → Nat} {T : TP} {v : Int32} {b : Nat} {t : List Nat} (hv : TV T) (h : TS (fun S I => LQ Ω L0 S I d A C T) L0 I0 S0 S I b t 110) (hk : ∀ I' S', TS (fun S I => LQ Ω L0 S I d A C T) L0 I0 S0 S' I' b (t ++ (TXB T 0 ++ (TXB T 1 ++ (TXB T 2 ++ (TXC T 0 ++ (TXC T 1 ++ TXC T 2)))))) 200 → AA Ω m_L_text (FQ Ω m_L_text Q) 80 160000 192 [(2, .ref b), (0, .ref d), (1, .int v)] [] I' S') : AA Ω m_L_text (FQ Ω m_L_text Q) 30 60000 104 [(2, .ref b), (0, .ref d), (1, .int v)] [] I S := by
  obtain ⟨⟨v1, v2⟩, ⟨v3, v4⟩, v5, ⟨v6, v7⟩, ⟨v8, v9⟩, v10, v11⟩ := hv
  refine r_iconst (pc' := 105) (v := 0) dL_text_104 (by decide) rfl ?_
  refine r_istore_n (pc' := 106) (lv' := [(3, _), (2, _), (0, _), (1, _)]) dL_text_105 rfl (by decide) rfl rfl ?_
  refine r_iload_n (pc' := 107) dL_text_106 rfl 0 rfl rfl ?_
  refine r_iconst (pc' := 108) (v := 3) dL_text_107 (by decide) rfl ?_
  refine r_icmp_ge (tgt := 150) (pc' := 111) dL_text_108 rfl rfl (fun h108 => ?_) (fun h108 => ?_)
  · exact absurd h108 (by decide)
  · refine r_aload_n (pc' := 112) dL_text_111 rfl 1 rfl rfl ?_
    refine r_ldcS (pc' := 114) dL_text_112 sw_L_95 rfl ?_
    refine r_callV (pc' := 117) (k' := 31) (n' := 62000) (nn := 1) (As := [_]) (rest := []) dL_text_114 mb_J4_append_15ec4 mi_J4_append_15ec4 h.o (by decide) rfl lk_L_88 rfl rfl rfl rfl rfl (Nat.le_of_ble_eq_true rfl) rfl (c_apS sw_L_95 6 h LQ.tk (by decide +kernel) (by decide +kernel) (by omega) (fun I S h => (cpR ?_)))
    refine r_bipush (pc' := 119) (v := 97) dL_text_117 (by decide) rfl ?_
    refine r_aload_n (pc' := 120) dL_text_119 rfl 2 rfl rfl ?_
    refine r_getNO (pc' := 123) dL_text_120 fn_L_66 (LQ.o h.x) rfl ((LQ.rr h.x) 11 (by decide) (by decide) (by decide)) rfl ?_
    refine r_iload_n (pc' := 124) dL_text_123 rfl 0 rfl rfl ?_
    refine r_aald20N (pc' := 125) (d := 0) dL_text_124 (LQ.a11 h.x) (by decide) (by decide) ((LQ.cr h.x) 0 (by decide)).1 rfl ?_
    refine r_iconst (pc' := 126) (v := 1) dL_text_125 (by decide) rfl ?_
    refine r_ialoadN (pc' := 127) dL_text_126 ((LQ.cr h.x) 0 (by decide)).2.1 (show 1 < 4 by decide) (by omega) ((LQ.cr h.x) 0 (by decide)).2.2.2 rfl ?_
    refine r_iaddv (pc' := 128) dL_text_127 (nI_add 97 (tWe T 0)) rfl ?_
    refine r_i2c (pc' := 129) dL_text_128 (byt_chr (show 97 + tWe T 0 < 128 by have := (v11 0 (by decide)).2.1; omega)) rfl ?_
    refine r_callV (pc' := 132) (k' := 32) (n' := 64000) (nn := 1) (As := [_]) (rest := []) dL_text_129 mb_J4_append_cf468 mi_J4_append_cf468 h.o (by decide) rfl lk_L_73 rfl rfl rfl rfl rfl (Nat.le_of_ble_eq_true rfl) rfl (c_apC (c := 97 + tWe T 0) h LQ.tk (by have := (v11 0 (by decide)).2.1; omega) (by omega) (fun I S h => (cpR ?_)))
    refine r_aload_n (pc' := 133) dL_text_132 rfl 2 rfl rfl ?_
    refine r_getNO (pc' := 136) dL_text_133 fn_L_66 (LQ.o h.x) rfl ((LQ.rr h.x) 11 (by decide) (by decide) (by decide)) rfl ?_
    refine r_iload_n (pc' := 137) dL_text_136 rfl 0 rfl rfl ?_
    refine r_aald20N (pc' := 138) (d := 0) dL_text_137 (LQ.a11 h.x) (by decide) (by decide) ((LQ.cr h.x) 0 (by decide)).1 rfl ?_
    refine r_iconst (pc' := 139) (v := 0) dL_text_138 (by decide) rfl ?_
    refine r_ialoadN (pc' := 140) dL_text_139 ((LQ.cr h.x) 0 (by decide)).2.1 (show 0 < 4 by decide) (by omega) ((LQ.cr h.x) 0 (by decide)).2.2.1 rfl ?_
    refine r_callS (pc' := 143) (k' := 42) (n' := 84000) (nn := 2) (As := [_, _]) (rest := []) dL_text_140 mb_L_list ms_L_list lk_L_97 rfl rfl rfl rfl rfl (Nat.le_of_ble_eq_true rfl) rfl (c_L_list (x := tLi T 0) h LQ.tk (Nat.lt_of_lt_of_le (v11 0 (by decide)).1 (Nat.pow_le_pow_right (by decide) v2)) (by omega) (fun I S h => (cpR ?_)))
    refine r_pop (pc' := 144) dL_text_143 rfl rfl ?_
    refine r_iinc (pc' := 147) (lv' := [(3, _), (2, _), (0, _), (1, _)]) dL_text_144 0 rfl rfl (by decide) rfl rfl ?_
    refine aa_lv (lv' := [(3, .int (nI 1)), (2, _), (0, _), (1, _)]) rfl ?_
    refine r_goto (tgt := 106) dL_text_147 rfl ?_
    refine r_iload_n (pc' := 107) dL_text_106 rfl 0 rfl rfl ?_
    refine r_iconst (pc' := 108) (v := 3) dL_text_107 (by decide) rfl ?_
    refine r_icmp_ge (tgt := 150) (pc' := 111) dL_text_108 rfl rfl (fun h108 => ?_) (fun h108 => ?_)
    · exact absurd h108 (by decide)
    · refine r_aload_n (pc' := 112) dL_text_111 rfl 1 rfl rfl ?_
      refine r_ldcS (pc' := 114) dL_text_112 sw_L_95 rfl ?_
      refine r_callV (pc' := 117) (k' := 43) (n' := 86000) (nn := 1) (As := [_]) (rest := []) dL_text_114 mb_J4_append_15ec4 mi_J4_append_15ec4 h.o (by decide) rfl lk_L_88 rfl rfl rfl rfl rfl (Nat.le_of_ble_eq_true rfl) rfl (c_apS sw_L_95 6 h LQ.tk (by decide +kernel) (by decide +kernel) (by omega) (fun I S h => (cpR ?_)))
      refine r_bipush (pc' := 119) (v := 97) dL_text_117 (by decide) rfl ?_
      refine r_aload_n (pc' := 120) dL_text_119 rfl 2 rfl rfl ?_
      refine r_getNO (pc' := 123) dL_text_120 fn_L_66 (LQ.o h.x) rfl ((LQ.rr h.x) 11 (by decide) (by decide) (by decide)) rfl ?_
      refine r_iload_n (pc' := 124) dL_text_123 rfl 0 rfl rfl ?_
      refine r_aald20N (pc' := 125) (d := 1) dL_text_124 (LQ.a11 h.x) (by decide) (by decide) ((LQ.cr h.x) 1 (by decide)).1 rfl ?_
      refine r_iconst (pc' := 126) (v := 1) dL_text_125 (by decide) rfl ?_
      refine r_ialoadN (pc' := 127) dL_text_126 ((LQ.cr h.x) 1 (by decide)).2.1 (show 1 < 4 by decide) (by omega) ((LQ.cr h.x) 1 (by decide)).2.2.2 rfl ?_
      refine r_iaddv (pc' := 128) dL_text_127 (nI_add 97 (tWe T 1)) rfl ?_
      refine r_i2c (pc' := 129) dL_text_128 (byt_chr (show 97 + tWe T 1 < 128 by have := (v11 1 (by decide)).2.1; omega)) rfl ?_
      refine r_callV (pc' := 132) (k' := 44) (n' := 88000) (nn := 1) (As := [_]) (rest := []) dL_text_129 mb_J4_append_cf468 mi_J4_append_cf468 h.o (by decide) rfl lk_L_73 rfl rfl rfl rfl rfl (Nat.le_of_ble_eq_true rfl) rfl (c_apC (c := 97 + tWe T 1) h LQ.tk (by have := (v11 1 (by decide)).2.1; omega) (by omega) (fun I S h => (cpR ?_)))
      refine r_aload_n (pc' := 133) dL_text_132 rfl 2 rfl rfl ?_
      refine r_getNO (pc' := 136) dL_text_133 fn_L_66 (LQ.o h.x) rfl ((LQ.rr h.x) 11 (by decide) (by decide) (by decide)) rfl ?_
      refine r_iload_n (pc' := 137) dL_text_136 rfl 0 rfl rfl ?_
      refine r_aald20N (pc' := 138) (d := 1) dL_text_137 (LQ.a11 h.x) (by decide) (by decide) ((LQ.cr h.x) 1 (by decide)).1 rfl ?_
      refine r_iconst (pc' := 139) (v := 0) dL_text_138 (by decide) rfl ?_
      refine r_ialoadN (pc' := 140) dL_text_139 ((LQ.cr h.x) 1 (by decide)).2.1 (show 0 < 4 by decide) (by omega) ((LQ.cr h.x) 1 (by decide)).2.2.1 rfl ?_
      refine r_callS (pc' := 143) (k' := 54) (n' := 108000) (nn := 2) (As := [_, _]) (rest := []) dL_text_140 mb_L_list ms_L_list lk_L_97 rfl rfl rfl rfl rfl (Nat.le_of_ble_eq_true rfl) rfl (c_L_list (x := tLi T 1) h LQ.tk (Nat.lt_of_lt_of_le (v11 1 (by decide)).1 (Nat.pow_le_pow_right (by decide) v2)) (by omega) (fun I S h => (cpR ?_)))
      refine r_pop (pc' := 144) dL_text_143 rfl rfl ?_
      refine r_iinc (pc' := 147) (lv' := [(3, _), (2, _), (0, _), (1, _)]) dL_text_144 0 rfl rfl (by decide) rfl rfl ?_
      refine aa_lv (lv' := [(3, .int (nI 2)), (2, _), (0, _), (1, _)]) rfl ?_
      refine r_goto (tgt := 106) dL_text_147 rfl ?_
      refine r_iload_n (pc' := 107) dL_text_106 rfl 0 rfl rfl ?_
      refine r_iconst (pc' := 108) (v := 3) dL_text_107 (by decide) rfl ?_
      refine r_icmp_ge (tgt := 150) (pc' := 111) dL_text_108 rfl rfl (fun h108 => ?_) (fun h108 => ?_)
      · exact absurd h108 (by decide)
      · refine r_aload_n (pc' := 112) dL_text_111 rfl 1 rfl rfl ?_
        refine r_ldcS (pc' := 114) dL_text_112 sw_L_95 rfl ?_
        refine r_callV (pc' := 117) (k' := 55) (n' := 110000) (nn := 1) (As := [_]) (rest := []) dL_text_114 mb_J4_append_15ec4 mi_J4_append_15ec4 h.o (by decide) rfl lk_L_88 rfl rfl rfl rfl rfl (Nat.le_of_ble_eq_true rfl) rfl (c_apS sw_L_95 6 h LQ.tk (by decide +kernel) (by decide +kernel) (by omega) (fun I S h => (cpR ?_)))
        refine r_bipush (pc' := 119) (v := 97) dL_text_117 (by decide) rfl ?_
        refine r_aload_n (pc' := 120) dL_text_119 rfl 2 rfl rfl ?_
        refine r_getNO (pc' := 123) dL_text_120 fn_L_66 (LQ.o h.x) rfl ((LQ.rr h.x) 11 (by decide) (by decide) (by decide)) rfl ?_
        refine r_iload_n (pc' := 124) dL_text_123 rfl 0 rfl rfl ?_
        refine r_aald20N (pc' := 125) (d := 2) dL_text_124 (LQ.a11 h.x) (by decide) (by decide) ((LQ.cr h.x) 2 (by decide)).1 rfl ?_
        refine r_iconst (pc' := 126) (v := 1) dL_text_125 (by decide) rfl ?_
        refine r_ialoadN (pc' := 127) dL_text_126 ((LQ.cr h.x) 2 (by decide)).2.1 (show 1 < 4 by decide) (by omega) ((LQ.cr h.x) 2 (by decide)).2.2.2 rfl ?_
        refine r_iaddv (pc' := 128) dL_text_127 (nI_add 97 (tWe T 2)) rfl ?_
        refine r_i2c (pc' := 129) dL_text_128 (byt_chr (show 97 + tWe T 2 < 128 by have := (v11 2 (by decide)).2.1; omega)) rfl ?_
        refine r_callV (pc' := 132) (k' := 56) (n' := 112000) (nn := 1) (As := [_]) (rest := []) dL_text_129 mb_J4_append_cf468 mi_J4_append_cf468 h.o (by decide) rfl lk_L_73 rfl rfl rfl rfl rfl (Nat.le_of_ble_eq_true rfl) rfl (c_apC (c := 97 + tWe T 2) h LQ.tk (by have := (v11 2 (by decide)).2.1; omega) (by omega) (fun I S h => (cpR ?_)))
        refine r_aload_n (pc' := 133) dL_text_132 rfl 2 rfl rfl ?_
        refine r_getNO (pc' := 136) dL_text_133 fn_L_66 (LQ.o h.x) rfl ((LQ.rr h.x) 11 (by decide) (by decide) (by decide)) rfl ?_
        refine r_iload_n (pc' := 137) dL_text_136 rfl 0 rfl rfl ?_
        refine r_aald20N (pc' := 138) (d := 2) dL_text_137 (LQ.a11 h.x) (by decide) (by decide) ((LQ.cr h.x) 2 (by decide)).1 rfl ?_
        refine r_iconst (pc' := 139) (v := 0) dL_text_138 (by decide) rfl ?_
        refine r_ialoadN (pc' := 140) dL_text_139 ((LQ.cr h.x) 2 (by decide)).2.1 (show 0 < 4 by decide) (by omega) ((LQ.cr h.x) 2 (by decide)).2.2.1 rfl ?_
        refine r_callS (pc' := 143) (k' := 66) (n' := 132000) (nn := 2) (As := [_, _]) (rest := []) dL_text_140 mb_L_list ms_L_list lk_L_97 rfl rfl rfl rfl rfl (Nat.le_of_ble_eq_true rfl) rfl (c_L_list (x := tLi T 2) h LQ.tk (Nat.lt_of_lt_of_le (v11 2 (by decide)).1 (Nat.pow_le_pow_right (by decide) v2)) (by omega) (fun I S h => (cpR ?_)))
        refine r_pop (pc' := 144) dL_text_143 rfl rfl ?_
        refine r_iinc (pc' := 147) (lv' := [(3, _), (2, _), (0, _), (1, _)]) dL_text_144 0 rfl rfl (by decide) rfl rfl ?_
        refine aa_lv (lv' := [(3, .int (nI 3)), (2, _), (0, _), (1, _)]) rfl ?_
        refine r_goto (tgt := 106) dL_text_147 rfl ?_
        refine r_iload_n (pc' := 107) dL_text_106 rfl 0 rfl rfl ?_
        refine r_iconst (pc' := 108) (v := 3) dL_text_107 (by decide) rfl ?_
        refine r_icmp_ge (tgt := 150) (pc' := 111) dL_text_108 rfl rfl (fun h108 => ?_) (fun h108 => ?_)
        · refine r_iconst (pc' := 151) (v := 0) dL_text_150 (by decide) rfl ?_
          refine r_istore_n (pc' := 152) (lv' := [(3, _), (2, _), (0, _), (1, _)]) dL_text_151 rfl (by decide) rfl rfl ?_
          refine r_iload_n (pc' := 153) dL_text_152 rfl 0 rfl rfl ?_
          refine r_iconst (pc' := 154) (v := 3) dL_text_153 (by decide) rfl ?_
          refine r_icmp_ge (tgt := 192) (pc' := 157) dL_text_154 rfl rfl (fun h154 => ?_) (fun h154 => ?_)
          · exact absurd h154 (by decide)
          · refine r_aload_n (pc' := 158) dL_text_157 rfl 1 rfl rfl ?_
            refine r_ldcS (pc' := 160) dL_text_158 sw_L_101 rfl ?_
            refine r_callV (pc' := 163) (k' := 67) (n' := 134000) (nn := 1) (As := [_]) (rest := []) dL_text_160 mb_J4_append_15ec4 mi_J4_append_15ec4 h.o (by decide) rfl lk_L_88 rfl rfl rfl rfl rfl (Nat.le_of_ble_eq_true rfl) rfl (c_apS sw_L_101 6 h LQ.tk (by decide +kernel) (by decide +kernel) (by omega) (fun I S h => (cpR ?_)))
            refine r_bipush (pc' := 165) (v := 97) dL_text_163 (by decide) rfl ?_
            refine r_iload_n (pc' := 166) dL_text_165 rfl 0 rfl rfl ?_
            refine r_iaddv (pc' := 167) dL_text_166 (nI_add 97 0) rfl ?_
            refine r_i2c (pc' := 168) dL_text_167 (byt_chr (by decide)) rfl ?_
            refine r_callV (pc' := 171) (k' := 68) (n' := 136000) (nn := 1) (As := [_]) (rest := []) dL_text_168 mb_J4_append_cf468 mi_J4_append_cf468 h.o (by decide) rfl lk_L_73 rfl rfl rfl rfl rfl (Nat.le_of_ble_eq_true rfl) rfl (c_apC (c := (97 + 0)) h LQ.tk (by decide) (by omega) (fun I S h => (cpR ?_)))
            refine r_bipush (pc' := 173) (v := 32) dL_text_171 (by decide) rfl ?_
            refine r_callV (pc' := 176) (k' := 69) (n' := 138000) (nn := 1) (As := [_]) (rest := []) dL_text_173 mb_J4_append_cf468 mi_J4_append_cf468 h.o (by decide) rfl lk_L_73 rfl rfl rfl rfl rfl (Nat.le_of_ble_eq_true rfl) rfl (c_apC (c := 32) h LQ.tk (by decide) (by omega) (fun I S h => (cpR ?_)))
            refine r_aload_n (pc' := 177) dL_text_176 rfl 2 rfl rfl ?_
            refine r_getNO (pc' := 180) dL_text_177 fn_L_70 (LQ.o h.x) rfl ((LQ.rr h.x) 10 (by decide) (by decide) (by decide)) rfl ?_
            refine r_iload_n (pc' := 181) dL_text_180 rfl 0 rfl rfl ?_
            refine r_ialoadN (pc' := 182) dL_text_181 (LQ.a10 h.x) (show 0 < 6 by decide) (by omega) ((LQ.yv h.x) 0 (by decide)) rfl ?_
            refine r_callV (pc' := 185) (k' := 70) (n' := 140000) (nn := 1) (As := [_]) (rest := []) dL_text_182 mb_J4_append_bf812 mi_J4_append_bf812 h.o (by decide) rfl lk_L_78 rfl rfl rfl rfl rfl (Nat.le_of_ble_eq_true rfl) rfl (c_apI (u := tYa T 0) h LQ.tk (by have := (v11 0 (by decide)).2.2.2; omega) (by omega) (fun I S h => (cpR ?_)))
            refine r_pop (pc' := 186) dL_text_185 rfl rfl ?_
            refine r_iinc (pc' := 189) (lv' := [(3, _), (2, _), (0, _), (1, _)]) dL_text_186 0 rfl rfl (by decide) rfl rfl ?_
            refine aa_lv (lv' := [(3, .int (nI 1)), (2, _), (0, _), (1, _)]) rfl ?_
            refine r_goto (tgt := 152) dL_text_189 rfl ?_
            refine r_iload_n (pc' := 153) dL_text_152 rfl 0 rfl rfl ?_
            refine r_iconst (pc' := 154) (v := 3) dL_text_153 (by decide) rfl ?_
            refine r_icmp_ge (tgt := 192) (pc' := 157) dL_text_154 rfl rfl (fun h154 => ?_) (fun h154 => ?_)
            · exact absurd h154 (by decide)
            · refine r_aload_n (pc' := 158) dL_text_157 rfl 1 rfl rfl ?_
              refine r_ldcS (pc' := 160) dL_text_158 sw_L_101 rfl ?_
              refine r_callV (pc' := 163) (k' := 71) (n' := 142000) (nn := 1) (As := [_]) (rest := []) dL_text_160 mb_J4_append_15ec4 mi_J4_append_15ec4 h.o (by decide) rfl lk_L_88 rfl rfl rfl rfl rfl (Nat.le_of_ble_eq_true rfl) rfl (c_apS sw_L_101 6 h LQ.tk (by decide +kernel) (by decide +kernel) (by omega) (fun I S h => (cpR ?_)))
              refine r_bipush (pc' := 165) (v := 97) dL_text_163 (by decide) rfl ?_
              refine r_iload_n (pc' := 166) dL_text_165 rfl 0 rfl rfl ?_
              refine r_iaddv (pc' := 167) dL_text_166 (nI_add 97 1) rfl ?_
              refine r_i2c (pc' := 168) dL_text_167 (byt_chr (by decide)) rfl ?_
              refine r_callV (pc' := 171) (k' := 72) (n' := 144000) (nn := 1) (As := [_]) (rest := []) dL_text_168 mb_J4_append_cf468 mi_J4_append_cf468 h.o (by decide) rfl lk_L_73 rfl rfl rfl rfl rfl (Nat.le_of_ble_eq_true rfl) rfl (c_apC (c := (97 + 1)) h LQ.tk (by decide) (by omega) (fun I S h => (cpR ?_)))
              refine r_bipush (pc' := 173) (v := 32) dL_text_171 (by decide) rfl ?_
              refine r_callV (pc' := 176) (k' := 73) (n' := 146000) (nn := 1) (As := [_]) (rest := []) dL_text_173 mb_J4_append_cf468 mi_J4_append_cf468 h.o (by decide) rfl lk_L_73 rfl rfl rfl rfl rfl (Nat.le_of_ble_eq_true rfl) rfl (c_apC (c := 32) h LQ.tk (by decide) (by omega) (fun I S h => (cpR ?_)))
              refine r_aload_n (pc' := 177) dL_text_176 rfl 2 rfl rfl ?_
              refine r_getNO (pc' := 180) dL_text_177 fn_L_70 (LQ.o h.x) rfl ((LQ.rr h.x) 10 (by decide) (by decide) (by decide)) rfl ?_
              refine r_iload_n (pc' := 181) dL_text_180 rfl 0 rfl rfl ?_
              refine r_ialoadN (pc' := 182) dL_text_181 (LQ.a10 h.x) (show 1 < 6 by decide) (by omega) ((LQ.yv h.x) 1 (by decide)) rfl ?_
              refine r_callV (pc' := 185) (k' := 74) (n' := 148000) (nn := 1) (As := [_]) (rest := []) dL_text_182 mb_J4_append_bf812 mi_J4_append_bf812 h.o (by decide) rfl lk_L_78 rfl rfl rfl rfl rfl (Nat.le_of_ble_eq_true rfl) rfl (c_apI (u := tYa T 1) h LQ.tk (by have := (v11 1 (by decide)).2.2.2; omega) (by omega) (fun I S h => (cpR ?_)))
              refine r_pop (pc' := 186) dL_text_185 rfl rfl ?_
              refine r_iinc (pc' := 189) (lv' := [(3, _), (2, _), (0, _), (1, _)]) dL_text_186 0 rfl rfl (by decide) rfl rfl ?_
              refine aa_lv (lv' := [(3, .int (nI 2)), (2, _), (0, _), (1, _)]) rfl ?_
              refine r_goto (tgt := 152) dL_text_189 rfl ?_
              refine r_iload_n (pc' := 153) dL_text_152 rfl 0 rfl rfl ?_
              refine r_iconst (pc' := 154) (v := 3) dL_text_153 (by decide) rfl ?_
              refine r_icmp_ge (tgt := 192) (pc' := 157) dL_text_154 rfl rfl (fun h154 => ?_) (fun h154 => ?_)
              · exact absurd h154 (by decide)
              · refine r_aload_n (pc' := 158) dL_text_157 rfl 1 rfl rfl ?_
                refine r_ldcS (pc' := 160) dL_text_158 sw_L_101 rfl ?_
                refine r_callV (pc' := 163) (k' := 75) (n' := 150000) (nn := 1) (As := [_]) (rest := []) dL_text_160 mb_J4_append_15ec4 mi_J4_append_15ec4 h.o (by decide) rfl lk_L_88 rfl rfl rfl rfl rfl (Nat.le_of_ble_eq_true rfl) rfl (c_apS sw_L_101 6 h LQ.tk (by decide +kernel) (by decide +kernel) (by omega) (fun I S h => (cpR ?_)))
                refine r_bipush (pc' := 165) (v := 97) dL_text_163 (by decide) rfl ?_
                refine r_iload_n (pc' := 166) dL_text_165 rfl 0 rfl rfl ?_
                refine r_iaddv (pc' := 167) dL_text_166 (nI_add 97 2) rfl ?_
                refine r_i2c (pc' := 168) dL_text_167 (byt_chr (by decide)) rfl ?_
                refine r_callV (pc' := 171) (k' := 76) (n' := 152000) (nn := 1) (As := [_]) (rest := []) dL_text_168 mb_J4_append_cf468 mi_J4_append_cf468 h.o (by decide) rfl lk_L_73 rfl rfl rfl rfl rfl (Nat.le_of_ble_eq_true rfl) rfl (c_apC (c := (97 + 2)) h LQ.tk (by decide) (by omega) (fun I S h => (cpR ?_)))
                refine r_bipush (pc' := 173) (v := 32) dL_text_171 (by decide) rfl ?_
                refine r_callV (pc' := 176) (k' := 77) (n' := 154000) (nn := 1) (As := [_]) (rest := []) dL_text_173 mb_J4_append_cf468 mi_J4_append_cf468 h.o (by decide) rfl lk_L_73 rfl rfl rfl rfl rfl (Nat.le_of_ble_eq_true rfl) rfl (c_apC (c := 32) h LQ.tk (by decide) (by omega) (fun I S h => (cpR ?_)))
                refine r_aload_n (pc' := 177) dL_text_176 rfl 2 rfl rfl ?_
                refine r_getNO (pc' := 180) dL_text_177 fn_L_70 (LQ.o h.x) rfl ((LQ.rr h.x) 10 (by decide) (by decide) (by decide)) rfl ?_
                refine r_iload_n (pc' := 181) dL_text_180 rfl 0 rfl rfl ?_
                refine r_ialoadN (pc' := 182) dL_text_181 (LQ.a10 h.x) (show 2 < 6 by decide) (by omega) ((LQ.yv h.x) 2 (by decide)) rfl ?_
                refine r_callV (pc' := 185) (k' := 78) (n' := 156000) (nn := 1) (As := [_]) (rest := []) dL_text_182 mb_J4_append_bf812 mi_J4_append_bf812 h.o (by decide) rfl lk_L_78 rfl rfl rfl rfl rfl (Nat.le_of_ble_eq_true rfl) rfl (c_apI (u := tYa T 2) h LQ.tk (by have := (v11 2 (by decide)).2.2.2; omega) (by omega) (fun I S h => (cpR ?_)))
                refine r_pop (pc' := 186) dL_text_185 rfl rfl ?_
                refine r_iinc (pc' := 189) (lv' := [(3, _), (2, _), (0, _), (1, _)]) dL_text_186 0 rfl rfl (by decide) rfl rfl ?_
                refine aa_lv (lv' := [(3, .int (nI 3)), (2, _), (0, _), (1, _)]) rfl ?_
                refine r_goto (tgt := 152) dL_text_189 rfl ?_
                refine r_iload_n (pc' := 153) dL_text_152 rfl 0 rfl rfl ?_
                refine r_iconst (pc' := 154) (v := 3) dL_text_153 (by decide) rfl ?_
                refine r_icmp_ge (tgt := 192) (pc' := 157) dL_text_154 rfl rfl (fun h154 => ?_) (fun h154 => ?_)
                · refine aa_locs (ks := [1, 2, 3]) (lv' := [(2, _), (0, _), (1, _)]) rfl ?_
                  refine aa_widen (k' := 80) (n' := 160000) (by decide) (by decide) ?_
                  refine hk _ _ ((h.weak (by omega)).eq ?_)
                  simp only [TXB, TXC, List.append_assoc]
                · exact absurd (show (3 : Int32) ≤ nI 3 by decide) h154
        · exact absurd (show (3 : Int32) ≤ nI 3 by decide) h108
set_option maxHeartbeats 4000000 in
theorem l_text_c {Ω : JO} {Q : JQ} {I I0 : JI} {S S0 : JS} {L0 : List Nat} {d : Nat} {A C : Nat → Nat} {T : TP} {v : Int32} {b : Nat} {t : List Nat} (h : TS (fun S I => LQ Ω L0 S I d A C T) L0 I0 S0 S I b t 200) (hk : ∀ a0 b0 c0 t0, a0 < 3 → b0 < 3 → c0 < 3 → (t0 = 1 ∨ t0 = 2) → ∀ I' S', TS (fun S I => LQ Ω L0 S I d A C T) L0 I0 S0 S' I' b (t ++ TXd a0 b0 c0 t0) 290 → AA Ω m_L_text (FQ Ω m_L_text Q) 100 200000 320 [(2, .ref b), (0, .ref d), (1, .int v), (3, .int (nI a0)), (4, .int (nI b0)), (5, .int (nI c0)), (6, .int (nI t0))] [] I' S') : AA Ω m_L_text (FQ Ω m_L_text Q) 80 160000 192 [(2, .ref b), (0, .ref d), (1, .int v)] [] I S := by
  refine r_iload_n (pc' := 193) dL_text_192 rfl 2 rfl rfl ?_
  refine r_iconst (pc' := 194) (v := 3) dL_text_193 (by decide) rfl ?_
  refine r_iandM (q := 2) (pc' := 195) dL_text_194 (by decide) rfl rfl (fun p hp => ?_)
  refine r_iconst (pc' := 196) (v := 3) dL_text_195 (by decide) rfl ?_
  refine r_iremv (pc' := 197) dL_text_196 (by decide) (nI_modt (b := 3) (by omega) (by decide) (by decide)) rfl ?_
  refine r_istore_n (pc' := 198) (lv' := [(3, _), (2, _), (0, _), (1, _)]) dL_text_197 rfl (by decide) rfl rfl ?_
  refine r_iload_n (pc' := 199) dL_text_198 rfl 3 rfl rfl ?_
  refine r_iconst (pc' := 200) (v := 2) dL_text_199 (by decide) rfl ?_
  refine r_iushr (pc' := 201) dL_text_200 rfl ?_
  refine r_iconst (pc' := 202) (v := 3) dL_text_201 (by decide) rfl ?_
  refine r_iandM (q := 2) (pc' := 203) dL_text_202 (by decide) rfl rfl (fun q hq => ?_)
  refine r_iconst (pc' := 204) (v := 3) dL_text_203 (by decide) rfl ?_
  refine r_iremv (pc' := 205) dL_text_204 (by decide) (nI_modt (b := 3) (by omega) (by decide) (by decide)) rfl ?_
  refine r_istore (pc' := 207) (lv' := [(4, _), (3, _), (2, _), (0, _), (1, _)]) dL_text_205 (by decide) rfl rfl ?_
  refine r_iload_n (pc' := 208) dL_text_207 rfl 4 rfl rfl ?_
  refine r_iconst (pc' := 209) (v := 4) dL_text_208 (by decide) rfl ?_
  refine r_iushr (pc' := 210) dL_text_209 rfl ?_
  refine r_iconst (pc' := 211) (v := 3) dL_text_210 (by decide) rfl ?_
  refine r_iandM (q := 2) (pc' := 212) dL_text_211 (by decide) rfl rfl (fun r hr => ?_)
  refine r_iconst (pc' := 213) (v := 3) dL_text_212 (by decide) rfl ?_
  refine r_iremv (pc' := 214) dL_text_213 (by decide) (nI_modt (b := 3) (by omega) (by decide) (by decide)) rfl ?_
  refine r_istore (pc' := 216) (lv' := [(5, _), (4, _), (3, _), (2, _), (0, _), (1, _)]) dL_text_214 (by decide) rfl rfl ?_
  refine r_iconst (pc' := 217) (v := 1) dL_text_216 (by decide) rfl ?_
  refine r_iload_n (pc' := 218) dL_text_217 rfl 5 rfl rfl ?_
  refine r_bipush (pc' := 220) (v := 6) dL_text_218 (by decide) rfl ?_
  refine r_iushr (pc' := 221) dL_text_220 rfl ?_
  refine r_iconst (pc' := 222) (v := 1) dL_text_221 (by decide) rfl ?_
  refine r_iandM (q := 1) (pc' := 223) dL_text_222 (by decide) rfl rfl (fun u hu => ?_)
  refine r_iaddv (pc' := 224) dL_text_223 (nI_add 1 u) rfl ?_
  refine r_istore (pc' := 226) (lv' := [(6, _), (5, _), (4, _), (3, _), (2, _), (0, _), (1, _)]) dL_text_224 (by decide) rfl rfl ?_
  refine r_aload_n (pc' := 227) dL_text_226 rfl 4 rfl rfl ?_
  refine r_ldcS (pc' := 229) dL_text_227 sw_L_103 rfl ?_
  refine r_callV (pc' := 232) (k' := 81) (n' := 162000) (nn := 1) (As := [_]) (rest := []) dL_text_229 mb_J4_append_15ec4 mi_J4_append_15ec4 h.o (by decide) rfl lk_L_88 rfl rfl rfl rfl rfl (Nat.le_of_ble_eq_true rfl) rfl (c_apS sw_L_103 6 h LQ.tk (by decide +kernel) (by decide +kernel) (by omega) (fun I S h => (cpR ?_)))
  refine r_iload_n (pc' := 233) dL_text_232 rfl 3 rfl rfl ?_
  refine r_callV (pc' := 236) (k' := 82) (n' := 164000) (nn := 1) (As := [_]) (rest := []) dL_text_233 mb_J4_append_bf812 mi_J4_append_bf812 h.o (by decide) rfl lk_L_78 rfl rfl rfl rfl rfl (Nat.le_of_ble_eq_true rfl) rfl (c_apI (u := (p % 3)) h LQ.tk (by omega) (by omega) (fun I S h => (cpR ?_)))
  refine r_ldcS (pc' := 238) dL_text_236 sw_L_105 rfl ?_
  refine r_callV (pc' := 241) (k' := 83) (n' := 166000) (nn := 1) (As := [_]) (rest := []) dL_text_238 mb_J4_append_15ec4 mi_J4_append_15ec4 h.o (by decide) rfl lk_L_88 rfl rfl rfl rfl rfl (Nat.le_of_ble_eq_true rfl) rfl (c_apS sw_L_105 8 h LQ.tk (by decide +kernel) (by decide +kernel) (by omega) (fun I S h => (cpR ?_)))
  refine r_iload (pc' := 243) dL_text_241 0 rfl rfl ?_
  refine r_callV (pc' := 246) (k' := 84) (n' := 168000) (nn := 1) (As := [_]) (rest := []) dL_text_243 mb_J4_append_bf812 mi_J4_append_bf812 h.o (by decide) rfl lk_L_78 rfl rfl rfl rfl rfl (Nat.le_of_ble_eq_true rfl) rfl (c_apI (u := (1 + u)) h LQ.tk (by omega) (by omega) (fun I S h => (cpR ?_)))
  refine r_ldcS (pc' := 248) dL_text_246 sw_L_107 rfl ?_
  refine r_callV (pc' := 251) (k' := 85) (n' := 170000) (nn := 1) (As := [_]) (rest := []) dL_text_248 mb_J4_append_15ec4 mi_J4_append_15ec4 h.o (by decide) rfl lk_L_88 rfl rfl rfl rfl rfl (Nat.le_of_ble_eq_true rfl) rfl (c_apS sw_L_107 2 h LQ.tk (by decide +kernel) (by decide +kernel) (by omega) (fun I S h => (cpR ?_)))
  refine r_iload (pc' := 253) dL_text_251 2 rfl rfl ?_
  refine r_callV (pc' := 256) (k' := 86) (n' := 172000) (nn := 1) (As := [_]) (rest := []) dL_text_253 mb_J4_append_bf812 mi_J4_append_bf812 h.o (by decide) rfl lk_L_78 rfl rfl rfl rfl rfl (Nat.le_of_ble_eq_true rfl) rfl (c_apI (u := (q % 3)) h LQ.tk (by omega) (by omega) (fun I S h => (cpR ?_)))
  refine r_bipush (pc' := 258) (v := 32) dL_text_256 (by decide) rfl ?_
  refine r_callV (pc' := 261) (k' := 87) (n' := 174000) (nn := 1) (As := [_]) (rest := []) dL_text_258 mb_J4_append_cf468 mi_J4_append_cf468 h.o (by decide) rfl lk_L_73 rfl rfl rfl rfl rfl (Nat.le_of_ble_eq_true rfl) rfl (c_apC (c := 32) h LQ.tk (by decide) (by omega) (fun I S h => (cpR ?_)))
  refine r_iload (pc' := 263) dL_text_261 1 rfl rfl ?_
  refine r_callV (pc' := 266) (k' := 88) (n' := 176000) (nn := 1) (As := [_]) (rest := []) dL_text_263 mb_J4_append_bf812 mi_J4_append_bf812 h.o (by decide) rfl lk_L_78 rfl rfl rfl rfl rfl (Nat.le_of_ble_eq_true rfl) rfl (c_apI (u := (r % 3)) h LQ.tk (by omega) (by omega) (fun I S h => (cpR ?_)))
  refine r_ldcS (pc' := 268) dL_text_266 sw_L_109 rfl ?_
  refine r_callV (pc' := 271) (k' := 89) (n' := 178000) (nn := 1) (As := [_]) (rest := []) dL_text_268 mb_J4_append_15ec4 mi_J4_append_15ec4 h.o (by decide) rfl lk_L_88 rfl rfl rfl rfl rfl (Nat.le_of_ble_eq_true rfl) rfl (c_apS sw_L_109 15 h LQ.tk (by decide +kernel) (by decide +kernel) (by omega) (fun I S h => (cpR ?_)))
  refine r_iload_n (pc' := 272) dL_text_271 rfl 3 rfl rfl ?_
  refine r_callV (pc' := 275) (k' := 90) (n' := 180000) (nn := 1) (As := [_]) (rest := []) dL_text_272 mb_J4_append_bf812 mi_J4_append_bf812 h.o (by decide) rfl lk_L_78 rfl rfl rfl rfl rfl (Nat.le_of_ble_eq_true rfl) rfl (c_apI (u := (p % 3)) h LQ.tk (by omega) (by omega) (fun I S h => (cpR ?_)))
  refine r_bipush (pc' := 277) (v := 32) dL_text_275 (by decide) rfl ?_
  refine r_callV (pc' := 280) (k' := 91) (n' := 182000) (nn := 1) (As := [_]) (rest := []) dL_text_277 mb_J4_append_cf468 mi_J4_append_cf468 h.o (by decide) rfl lk_L_73 rfl rfl rfl rfl rfl (Nat.le_of_ble_eq_true rfl) rfl (c_apC (c := 32) h LQ.tk (by decide) (by omega) (fun I S h => (cpR ?_)))
  refine r_iload (pc' := 282) dL_text_280 2 rfl rfl ?_
  refine r_callV (pc' := 285) (k' := 92) (n' := 184000) (nn := 1) (As := [_]) (rest := []) dL_text_282 mb_J4_append_bf812 mi_J4_append_bf812 h.o (by decide) rfl lk_L_78 rfl rfl rfl rfl rfl (Nat.le_of_ble_eq_true rfl) rfl (c_apI (u := (q % 3)) h LQ.tk (by omega) (by omega) (fun I S h => (cpR ?_)))
  refine r_bipush (pc' := 287) (v := 32) dL_text_285 (by decide) rfl ?_
  refine r_callV (pc' := 290) (k' := 93) (n' := 186000) (nn := 1) (As := [_]) (rest := []) dL_text_287 mb_J4_append_cf468 mi_J4_append_cf468 h.o (by decide) rfl lk_L_73 rfl rfl rfl rfl rfl (Nat.le_of_ble_eq_true rfl) rfl (c_apC (c := 32) h LQ.tk (by decide) (by omega) (fun I S h => (cpR ?_)))
  refine r_iload (pc' := 292) dL_text_290 1 rfl rfl ?_
  refine r_callV (pc' := 295) (k' := 94) (n' := 188000) (nn := 1) (As := [_]) (rest := []) dL_text_292 mb_J4_append_bf812 mi_J4_append_bf812 h.o (by decide) rfl lk_L_78 rfl rfl rfl rfl rfl (Nat.le_of_ble_eq_true rfl) rfl (c_apI (u := (r % 3)) h LQ.tk (by omega) (by omega) (fun I S h => (cpR ?_)))
  refine r_ldcS (pc' := 297) dL_text_295 sw_L_111 rfl ?_
  refine r_callV (pc' := 300) (k' := 95) (n' := 190000) (nn := 1) (As := [_]) (rest := []) dL_text_297 mb_J4_append_15ec4 mi_J4_append_15ec4 h.o (by decide) rfl lk_L_88 rfl rfl rfl rfl rfl (Nat.le_of_ble_eq_true rfl) rfl (c_apS sw_L_111 8 h LQ.tk (by decide +kernel) (by decide +kernel) (by omega) (fun I S h => (cpR ?_)))
  refine r_iload_n (pc' := 301) dL_text_300 rfl 3 rfl rfl ?_
  refine r_callV (pc' := 304) (k' := 96) (n' := 192000) (nn := 1) (As := [_]) (rest := []) dL_text_301 mb_J4_append_bf812 mi_J4_append_bf812 h.o (by decide) rfl lk_L_78 rfl rfl rfl rfl rfl (Nat.le_of_ble_eq_true rfl) rfl (c_apI (u := (p % 3)) h LQ.tk (by omega) (by omega) (fun I S h => (cpR ?_)))
  refine r_ldcS (pc' := 306) dL_text_304 sw_L_113 rfl ?_
  refine r_callV (pc' := 309) (k' := 97) (n' := 194000) (nn := 1) (As := [_]) (rest := []) dL_text_306 mb_J4_append_15ec4 mi_J4_append_15ec4 h.o (by decide) rfl lk_L_88 rfl rfl rfl rfl rfl (Nat.le_of_ble_eq_true rfl) rfl (c_apS sw_L_113 11 h LQ.tk (by decide +kernel) (by decide +kernel) (by omega) (fun I S h => (cpR ?_)))
  refine r_iload (pc' := 311) dL_text_309 1 rfl rfl ?_
  refine r_callV (pc' := 314) (k' := 98) (n' := 196000) (nn := 1) (As := [_]) (rest := []) dL_text_311 mb_J4_append_bf812 mi_J4_append_bf812 h.o (by decide) rfl lk_L_78 rfl rfl rfl rfl rfl (Nat.le_of_ble_eq_true rfl) rfl (c_apI (u := (r % 3)) h LQ.tk (by omega) (by omega) (fun I S h => (cpR ?_)))
  refine r_ldcS (pc' := 316) dL_text_314 sw_L_115 rfl ?_
  refine r_callV (pc' := 319) (k' := 99) (n' := 198000) (nn := 1) (As := [_]) (rest := []) dL_text_316 mb_J4_append_15ec4 mi_J4_append_15ec4 h.o (by decide) rfl lk_L_88 rfl rfl rfl rfl rfl (Nat.le_of_ble_eq_true rfl) rfl (c_apS sw_L_115 2 h LQ.tk (by decide +kernel) (by decide +kernel) (by omega) (fun I S h => (cpR ?_)))
  refine r_pop (pc' := 320) dL_text_319 rfl rfl ?_
  refine aa_locs (ks := [4, 5, 6, 3, 2, 1, 0]) (lv' := [(2, _), (0, _), (1, _), (3, _), (4, _), (5, _), (6, _)]) rfl ?_
  refine aa_widen (k' := 100) (n' := 200000) (by decide) (by decide) ?_
  refine hk (p % 3) (q % 3) (r % 3) (1 + u) (Nat.mod_lt _ (by decide)) (Nat.mod_lt _ (by decide)) (Nat.mod_lt _ (by decide)) (by omega) _ _ ((h.weak (by omega)).eq ?_)
  simp only [TXd, List.append_assoc]
