/-! the law: its loop and its end -/
set_option maxHeartbeats 4000000 in
theorem l_law604 {Ω : JO} {F : JF} {I : JI} {S : JS} {c wa ia N H W kb nb step sl : Nat} {v : Int32} {g : Nat → Int64} {J : JI} {N1 : Nat} (hc : ∀ f g, Is8 (LZ S wa ia f g) c (c + 4) (c + 104)) (hA : ∀ f g, ArE 14 (LZ S wa ia f g) wa 50) (hB : ∀ f g, ArE 14 (LZ S wa ia f g) ia 50) (hne : wa ≠ ia) (hkb : kb + 15000 ≤ 600086) (hnb : nb + 100000 ≤ 7301442) (hi : INV N I c (c + 4) H W) (hj : INV N1 J c (c + 4) H W) (hNN : N ≤ N1) (hsv : SV c sl I (c + 4) J) (hsl : sl < 2) (hle : LE (c + 4) I J) (hnx : ∀ (J : JI) (f g : Nat → Int64), INV N1 J c (c + 4) H W → AA Ω m_L_law F (kb + 15000) (nb + 100000) 65 [(7, .int (nI (step + 1))), (0, .ref (oS Ω).1), (1, .ref c), (5, .ref wa), (6, .ref ia)] [] J (LZ S wa ia f g)) : AA Ω m_L_law F (kb + 7000) (nb + 45000) 604 [(7, .int (nI step)), (0, .ref (oS Ω).1), (1, .ref c), (5, .ref wa), (6, .ref ia), (8, .int v), (9, .int (nI sl))] [] J (LZ S wa ia (seeF I (c + 4) H W) g) := by
  refine r_aload_n (pc' := 605) dL_law_604 rfl 2 rfl rfl ?_
  refine r_callS (pc' := 608) (k' := (kb + 7200)) (n' := (nb + 46200)) (nn := 1) (As := [_]) (rest := []) dL_law_605 mb_L_isWhole ms_L_isWhole lk_L_230 rfl rfl (roomB_mk (by decide) (by decide) (show (kb + 7000) + 200 ≤ 600086 by omega) (show (nb + 45000) + 1200 ≤ 7301442 by omega)) (show (kb + 7000) + 200 = (kb + 7200) by omega) (show (nb + 45000) + 1200 = (nb + 46200) by omega) (Nat.le_of_ble_eq_true rfl) rfl (c_L_isWhole (hc _ _) hj (fun K hK => (cpI ?_)))
  have KI := hj.fr hK
  have KF : FR c J K := FR.of hK
  refine r_if_ne (tgt := 613) (pc' := 611) dL_law_608 rfl rfl (fun h608 => ?_) (fun h608 => ?_)
  · refine r_iload (pc' := 615) dL_law_613 5 rfl rfl ?_
    refine r_bipush (pc' := 617) (v := 25) dL_law_615 (by decide) rfl ?_
    refine r_iushr (pc' := 618) dL_law_617 rfl ?_
    refine r_iconst (pc' := 619) (v := 3) dL_law_618 (by decide) rfl ?_
    refine r_iand (pc' := 620) dL_law_619 rfl ?_
    refine r_if_ne (tgt := 665) (pc' := 623) dL_law_620 rfl rfl (fun h620 => ?_) (fun h620 => ?_)
    · refine r_iinc (pc' := 668) (lv' := [(7, _), (0, _), (1, _), (5, _), (6, _), (8, _), (9, _)]) dL_law_665 0 rfl rfl (by decide) rfl rfl ?_
      refine r_goto (tgt := 65) dL_law_668 rfl ?_
      refine aa_locs (ks := [0, 1, 2, 3, 4]) (lv' := [(7, _), (0, _), (1, _), (5, _), (6, _)]) rfl ?_
      refine aa_widen (k' := kb + 15000) (n' := nb + 100000) (by omega) (by omega) ?_
      exact aa_lv (lv' := [(7, .int (nI (step + 1))), (0, .ref (oS Ω).1), (1, .ref c), (5, .ref wa), (6, .ref ia)]) (by rw [nI_succ]; rfl) (hnx _ _ _ KI)
    · refine r_aload_n (pc' := 624) dL_law_623 rfl 2 rfl rfl ?_
      refine r_iload (pc' := 626) dL_law_624 6 rfl rfl ?_
      obtain ⟨R, r1, KI2, r3, r4, r5⟩ := v_restore (P := c + 104) KI hi hNN hsl (hsv.fr KF hsl) (hle.tr (KF.le rfl))
      refine r_callV (pc' := 629) (k' := (kb + 7202)) (n' := (nb + 46212)) (nn := 1) (As := [_]) (rest := []) dL_law_626 mb_X8_restoreState mi_X8_restoreState (hc _ _).o (by decide) rfl lk_L_277 rfl rfl (roomB_mk (by decide) (by decide) (show (kb + 7200) + 2 ≤ 600086 by omega) (show (nb + 46200) + 12 ≤ 7301442 by omega)) (show (kb + 7200) + 2 = (kb + 7202) by omega) (show (nb + 46200) + 12 = (nb + 46212) by omega) (Nat.le_of_ble_eq_true rfl) rfl (c_X8_restoreState (hc _ _) (hc _ _).t (r1) (cpI ?_))
      refine r_i2l (pc' := 630) dL_law_629 rfl ?_
      refine r_aload (pc' := 632) dL_law_630 3 rfl rfl ?_
      refine r_iconst (pc' := 633) (v := 0) dL_law_632 (by decide) rfl ?_
      refine r_laloadN (pc' := 634) (d := 0) dL_law_633 (hA _ _) rfl (by decide) (by decide) ((LZ_w hne (by decide)).trans see_0) rfl ?_
      refine r_lcmpE (pc' := 635) dL_law_634 rfl rfl ?_
      refine r_if_ne (tgt := 645) (pc' := 638) dL_law_635 rfl rfl (fun h635 => ?_) (fun h635 => ?_)
      · exact absurd rfl h635
      · refine r_aload_n (pc' := 639) dL_law_638 rfl 2 rfl rfl ?_
        refine r_callV (pc' := 642) (k' := (kb + 7202)) (n' := (nb + 46212)) (nn := 0) (As := []) (rest := []) dL_law_639 mb_X8_undoCount mi_X8_undoCount (hc _ _).o (by decide) rfl lk_L_280 rfl rfl (roomB_mk (by decide) (by decide) (show (kb + 7202) + 0 ≤ 600086 by omega) (show (nb + 46212) + 0 ≤ 7301442 by omega)) (show (kb + 7202) + 0 = (kb + 7202) by omega) (show (nb + 46212) + 0 = (nb + 46212) by omega) (Nat.le_of_ble_eq_true rfl) rfl (c_X8_undoCount (hc _ _) (show s_X8_undoCount R c (c + 4) (c + 104) = 0 from r5) (cpI ?_))
        refine r_if_eq (tgt := 647) (pc' := 645) dL_law_642 rfl rfl (fun h642 => ?_) (fun h642 => ?_)
        · refine r_aload_n (pc' := 648) dL_law_647 rfl 2 rfl rfl ?_
          refine r_aload (pc' := 650) dL_law_648 4 rfl rfl ?_
          refine r_callS (pc' := 653) (k' := (kb + 13202)) (n' := (nb + 86212)) (nn := 2) (As := [_, _]) (rest := []) dL_law_650 mb_L_sees ms_L_sees lk_L_223 rfl rfl (roomB_mk (by decide) (by decide) (show (kb + 7202) + 6000 ≤ 600086 by omega) (show (nb + 46212) + 40000 ≤ 7301442 by omega)) (show (kb + 7202) + 6000 = (kb + 13202) by omega) (show (nb + 46212) + 40000 = (nb + 86212) by omega) (Nat.le_of_ble_eq_true rfl) rfl (c_L_sees (hc _ _) (hB _ _) KI2 (cpV ?_))
          refine aa_S LZ_si ?_
          refine r_aload (pc' := 655) dL_law_653 3 rfl rfl ?_
          refine r_aload (pc' := 657) dL_law_655 4 rfl rfl ?_
          refine r_callS (pc' := 660) (k' := (kb + 13202)) (n' := (nb + 86212)) (nn := 2) (As := [_, _]) (rest := []) dL_law_657 mb_J7_equals_331f6 ms_J7_equals_331f6 lk_L_283 rfl rfl (roomB_mk (by decide) (by decide) (show (kb + 13202) + 0 ≤ 600086 by omega) (show (nb + 86212) + 0 ≤ 7301442 by omega)) (show (kb + 13202) + 0 = (kb + 13202) by omega) (show (nb + 86212) + 0 = (nb + 86212) by omega) (Nat.le_of_ble_eq_true rfl) rfl (c_J7_equals_331f6 (hA _ _) (hB _ _) hne (fun j hj50 => by rw [LZ_w hne hj50, LZ_i hj50, see_eq r3 r4 (by have := hi.hw; omega) hi.r6]) (cpI ?_))
          refine r_if_ne (tgt := 665) (pc' := 663) dL_law_660 rfl rfl (fun h660 => ?_) (fun h660 => ?_)
          · refine r_iinc (pc' := 668) (lv' := [(7, _), (0, _), (1, _), (5, _), (6, _), (8, _), (9, _)]) dL_law_665 0 rfl rfl (by decide) rfl rfl ?_
            refine r_goto (tgt := 65) dL_law_668 rfl ?_
            refine aa_locs (ks := [0, 1, 2, 3, 4]) (lv' := [(7, _), (0, _), (1, _), (5, _), (6, _)]) rfl ?_
            refine aa_widen (k' := kb + 15000) (n' := nb + 100000) (by omega) (by omega) ?_
            exact aa_lv (lv' := [(7, .int (nI (step + 1))), (0, .ref (oS Ω).1), (1, .ref c), (5, .ref wa), (6, .ref ia)]) (by rw [nI_succ]; rfl) (hnx _ _ _ KI2)
          · exact absurd h660 (by decide)
        · exact absurd rfl h642
  · exact absurd h608 (by decide)
set_option maxHeartbeats 4000000 in
theorem l_lawB {Ω : JO} {F : JF} {I : JI} {S : JS} {c wa ia N H W kb nb step sl : Nat} {v : Int32} {g : Nat → Int64} {a b h n : Nat} (hc : ∀ f g, Is8 (LZ S wa ia f g) c (c + 4) (c + 104)) (hA : ∀ f g, ArE 14 (LZ S wa ia f g) wa 50) (hB : ∀ f g, ArE 14 (LZ S wa ia f g) ia 50) (hne : wa ≠ ia) (hkb : kb + 15000 ≤ 600086) (hnb : nb + 100000 ≤ 7301442) (hi : INV N I c (c + 4) H W) (hN : N + 10 ≤ 100000) (ha : a < 3) (hb : b < 3) (hh : h < H) (hn1 : 1 ≤ n) (hn8 : n ≤ 8) (h604 : ∀ (J : JI) (N1 : Nat), N ≤ N1 → N1 ≤ N + 10 → INV N1 J c (c + 4) H W → FR c I J → AA Ω m_L_law F (kb + 7000) (nb + 45000) 604 [(7, .int (nI step)), (0, .ref (oS Ω).1), (1, .ref c), (5, .ref wa), (6, .ref ia), (8, .int v), (9, .int (nI sl))] [] J (LZ S wa ia (seeF I (c + 4) H W) g)) : AA Ω m_L_law F (kb + 6400) (nb + 41900) 166 [(7, .int (nI step)), (0, .ref (oS Ω).1), (1, .ref c), (5, .ref wa), (6, .ref ia), (8, .int v), (9, .int (nI sl)), (10, .int (nI a)), (11, .int (nI b)), (12, .int (nI h)), (13, .int (nI n))] [] I (LZ S wa ia (seeF I (c + 4) H W) g) := by
  refine r_iload (pc' := 168) dL_law_166 5 rfl rfl ?_
  refine r_iconst (pc' := 169) (v := 1) dL_law_168 (by decide) rfl ?_
  refine r_iushr (pc' := 170) dL_law_169 rfl ?_
  refine r_bipush (pc' := 172) (v := 15) dL_law_170 (by decide) rfl ?_
  refine r_iand (pc' := 173) dL_law_172 rfl ?_
  refine r_istore (pc' := 175) (lv' := [(14, _), (7, _), (0, _), (1, _), (5, _), (6, _), (8, _), (9, _), (10, _), (11, _), (12, _), (13, _)]) dL_law_173 (by decide) rfl rfl ?_
  refine r_iload (pc' := 177) dL_law_175 0 rfl rfl ?_
  refine r_iconst (pc' := 178) (v := 5) dL_law_177 (by decide) rfl ?_
  refine r_icmp_ge (tgt := 254) (pc' := 181) dL_law_178 rfl rfl (fun h178 => ?_) (fun h178 => ?_)
  · refine r_iload (pc' := 256) dL_law_254 0 rfl rfl ?_
    refine r_bipush (pc' := 258) (v := 7) dL_law_256 (by decide) rfl ?_
    refine r_icmp_ge (tgt := 323) (pc' := 261) dL_law_258 rfl rfl (fun h258 => ?_) (fun h258 => ?_)
    · refine r_iload (pc' := 325) dL_law_323 0 rfl rfl ?_
      refine r_bipush (pc' := 327) (v := 9) dL_law_325 (by decide) rfl ?_
      refine r_icmp_ge (tgt := 417) (pc' := 330) dL_law_327 rfl rfl (fun h327 => ?_) (fun h327 => ?_)
      · refine r_iload (pc' := 419) dL_law_417 0 rfl rfl ?_
        refine r_bipush (pc' := 421) (v := 9) dL_law_419 (by decide) rfl ?_
        refine r_icmp_ne (tgt := 465) (pc' := 424) dL_law_421 rfl rfl (fun h421 => ?_) (fun h421 => ?_)
        · refine r_iload (pc' := 467) dL_law_465 0 rfl rfl ?_
          refine r_bipush (pc' := 469) (v := 10) dL_law_467 (by decide) rfl ?_
          refine r_icmp_ne (tgt := 504) (pc' := 472) dL_law_469 rfl rfl (fun h469 => ?_) (fun h469 => ?_)
          · refine r_iload (pc' := 506) dL_law_504 0 rfl rfl ?_
            refine r_bipush (pc' := 508) (v := 13) dL_law_506 (by decide) rfl ?_
            refine r_icmp_ge (tgt := 565) (pc' := 511) dL_law_508 rfl rfl (fun h508 => ?_) (fun h508 => ?_)
            · refine aa_locs (ks := [1, 2, 3, 4, 5, 6, 7, 8, 9, 10, 11]) (lv' := [(7, _), (0, _), (1, _), (5, _), (6, _), (8, _), (9, _), (10, _), (11, _), (12, _), (13, _)]) rfl ?_
              refine aa_widen (k' := kb + 6500) (n' := nb + 42000) (by omega) (by omega) ?_
              exact b_oil hc hA hB hne hkb hnb hi hN ha hb hh hn1 hn8 h604
            · refine aa_locs (ks := [1, 2, 3, 4, 5, 6, 7, 8, 9, 10, 11]) (lv' := [(7, _), (0, _), (1, _), (5, _), (6, _), (8, _), (9, _), (10, _), (11, _), (12, _), (13, _)]) rfl ?_
              refine aa_widen (k' := kb + 6500) (n' := nb + 42000) (by omega) (by omega) ?_
              exact b_bring hc hA hB hne hkb hnb hi hN ha hb hh hn1 hn8 h604
          · refine aa_locs (ks := [1, 2, 3, 4, 5, 6, 7, 8, 9, 10, 11]) (lv' := [(7, _), (0, _), (1, _), (5, _), (6, _), (8, _), (9, _), (10, _), (11, _), (12, _), (13, _)]) rfl ?_
            refine aa_widen (k' := kb + 6500) (n' := nb + 42000) (by omega) (by omega) ?_
            exact b_colour hc hA hB hne hkb hnb hi hN ha hb hh hn1 hn8 h604
        · refine aa_locs (ks := [1, 2, 3, 4, 5, 6, 7, 8, 9, 10, 11]) (lv' := [(7, _), (0, _), (1, _), (5, _), (6, _), (8, _), (9, _), (10, _), (11, _), (12, _), (13, _)]) rfl ?_
          refine aa_widen (k' := kb + 6500) (n' := nb + 42000) (by omega) (by omega) ?_
          exact b_punch hc hA hB hne hkb hnb hi hN ha hb hh hn1 hn8 h604
      · refine aa_locs (ks := [1, 2, 3, 4, 5, 6, 7, 8, 9, 10, 11]) (lv' := [(7, _), (0, _), (1, _), (5, _), (6, _), (8, _), (9, _), (10, _), (11, _), (12, _), (13, _)]) rfl ?_
        refine aa_widen (k' := kb + 6500) (n' := nb + 42000) (by omega) (by omega) ?_
        exact b_swap hc hA hB hne hkb hnb hi hN ha hb hh hn1 hn8 h604
    · refine aa_locs (ks := [1, 2, 3, 4, 5, 6, 7, 8, 9, 10, 11]) (lv' := [(7, _), (0, _), (1, _), (5, _), (6, _), (8, _), (9, _), (10, _), (11, _), (12, _), (13, _)]) rfl ?_
      refine aa_widen (k' := kb + 6500) (n' := nb + 42000) (by omega) (by omega) ?_
      exact b_unweave hc hA hB hne hkb hnb hi hN ha hb hh hn1 hn8 h604
  · refine aa_locs (ks := [1, 2, 3, 4, 5, 6, 7, 8, 9, 10, 11]) (lv' := [(7, _), (0, _), (1, _), (5, _), (6, _), (8, _), (9, _), (10, _), (11, _), (12, _), (13, _)]) rfl ?_
    refine aa_widen (k' := kb + 6500) (n' := nb + 42000) (by omega) (by omega) ?_
    exact b_weave hc hA hB hne hkb hnb hi hN ha hb hh hn1 hn8 h604
set_option maxHeartbeats 4000000 in
theorem law_step {Ω : JO} {F : JF} {I : JI} {S : JS} {c wa ia N H W kb nb step : Nat} {g : Nat → Int64} {f : Nat → Int64} (hc : ∀ f g, Is8 (LZ S wa ia f g) c (c + 4) (c + 104)) (hA : ∀ f g, ArE 14 (LZ S wa ia f g) wa 50) (hB : ∀ f g, ArE 14 (LZ S wa ia f g) ia 50) (hne : wa ≠ ia) (hkb : kb + 15000 ≤ 600086) (hnb : nb + 100000 ≤ 7301442) (hi : INV N I c (c + 4) H W) (hN : N + 10 ≤ 100000) (hs : step < 20) (hnx : ∀ (J : JI) (f g : Nat → Int64) (N1 : Nat), N1 ≤ N + 10 → INV N1 J c (c + 4) H W → AA Ω m_L_law F (kb + 15000) (nb + 100000) 65 [(7, .int (nI (step + 1))), (0, .ref (oS Ω).1), (1, .ref c), (5, .ref wa), (6, .ref ia)] [] J (LZ S wa ia f g)) : AA Ω m_L_law F kb nb 65 [(7, .int (nI step)), (0, .ref (oS Ω).1), (1, .ref c), (5, .ref wa), (6, .ref ia)] [] I (LZ S wa ia f g) := by
  have hw := hi.hw
  have h6 := hi.r6
  refine r_iload (pc' := 67) dL_law_65 0 rfl rfl ?_
  refine r_bipush (pc' := 69) (v := 20) dL_law_67 (by decide) rfl ?_
  refine r_icmp_ge (tgt := 671) (pc' := 72) dL_law_69 rfl rfl (fun h69 => ?_) (fun h69 => ?_)
  · exact absurd h69 (show ¬ nI 20 ≤ nI step from nI_ge hs (by decide))
  · refine r_aload_n (pc' := 73) dL_law_72 rfl 1 rfl rfl ?_
    refine r_bipush (pc' := 75) (v := 6) dL_law_73 (by decide) rfl ?_
    refine r_iload (pc' := 77) dL_law_75 0 rfl rfl ?_
    refine r_iaddv (pc' := 78) dL_law_77 (nI_add 6 step) rfl ?_
    refine r_callS (pc' := 81) (k' := (kb + 0)) (n' := (nb + 0)) (nn := 2) (As := [_, _]) (rest := []) dL_law_78 mb_L_cell ms_L_cell lk_L_28 rfl rfl (roomB_mk (by decide) (by decide) (show (kb + 0) + 0 ≤ 600086 by omega) (show (nb + 0) + 0 ≤ 7301442 by omega)) (show (kb + 0) + 0 = (kb + 0) by omega) (show (nb + 0) + 0 = (nb + 0) by omega) (Nat.le_of_ble_eq_true rfl) rfl (c_L_cell (by omega) (fun v => (cpI ?_)))
    refine r_istore (pc' := 83) (lv' := [(8, _), (7, _), (0, _), (1, _), (5, _), (6, _)]) dL_law_81 (by decide) rfl rfl ?_
    refine r_iload (pc' := 85) dL_law_83 0 rfl rfl ?_
    refine r_iconst (pc' := 86) (v := 1) dL_law_85 (by decide) rfl ?_
    refine r_iandM (Y := m_L_law) (pc' := 87) (q := 1) dL_law_86 (by decide) rfl rfl (fun sl hsl => ?_)
    refine r_istore (pc' := 89) (lv' := [(9, _), (8, _), (7, _), (0, _), (1, _), (5, _), (6, _)]) dL_law_87 (by decide) rfl rfl ?_
    refine r_iload (pc' := 91) dL_law_89 1 rfl rfl ?_
    refine r_iconst (pc' := 92) (v := 5) dL_law_91 (by decide) rfl ?_
    refine r_iushr (pc' := 93) dL_law_92 rfl ?_
    refine r_iconst (pc' := 94) (v := 3) dL_law_93 (by decide) rfl ?_
    refine r_iandM (Y := m_L_law) (pc' := 95) (q := 2) dL_law_94 (by decide) rfl rfl (fun a0 ha0 => ?_)
    refine r_iconst (pc' := 96) (v := 3) dL_law_95 (by decide) rfl ?_
    refine r_iremv (pc' := 97) dL_law_96 (by decide) (nI_modt (b := 3) (by omega) (by decide) (by decide)) rfl ?_
    refine r_istore (pc' := 99) (lv' := [(10, _), (9, _), (8, _), (7, _), (0, _), (1, _), (5, _), (6, _)]) dL_law_97 (by decide) rfl rfl ?_
    refine r_iload (pc' := 101) dL_law_99 2 rfl rfl ?_
    refine r_bipush (pc' := 103) (v := 7) dL_law_101 (by decide) rfl ?_
    refine r_iushr (pc' := 104) dL_law_103 rfl ?_
    refine r_iconst (pc' := 105) (v := 3) dL_law_104 (by decide) rfl ?_
    refine r_iandM (Y := m_L_law) (pc' := 106) (q := 2) dL_law_105 (by decide) rfl rfl (fun b0 hb0 => ?_)
    refine r_iconst (pc' := 107) (v := 3) dL_law_106 (by decide) rfl ?_
    refine r_iremv (pc' := 108) dL_law_107 (by decide) (nI_modt (b := 3) (by omega) (by decide) (by decide)) rfl ?_
    refine r_istore (pc' := 110) (lv' := [(11, _), (10, _), (9, _), (8, _), (7, _), (0, _), (1, _), (5, _), (6, _)]) dL_law_108 (by decide) rfl rfl ?_
    refine r_iload (pc' := 112) dL_law_110 3 rfl rfl ?_
    refine r_bipush (pc' := 114) (v := 9) dL_law_112 (by decide) rfl ?_
    refine r_iushr (pc' := 115) dL_law_114 rfl ?_
    refine r_iconst (pc' := 116) (v := 3) dL_law_115 (by decide) rfl ?_
    refine r_iandM (Y := m_L_law) (pc' := 117) (q := 2) dL_law_116 (by decide) rfl rfl (fun h0 hh0 => ?_)
    refine r_aload_n (pc' := 118) dL_law_117 rfl 6 rfl rfl ?_
    refine r_callV (pc' := 121) (k' := (kb + 1)) (n' := (nb + 6)) (nn := 0) (As := []) (rest := [_]) dL_law_118 mb_X8_harnessCount mi_X8_harnessCount (hc _ _).o (by decide) rfl lk_L_198 rfl rfl (roomB_mk (by decide) (by decide) (show (kb + 0) + 1 ≤ 600086 by omega) (show (nb + 0) + 6 ≤ 7301442 by omega)) (show (kb + 0) + 1 = (kb + 1) by omega) (show (nb + 0) + 6 = (nb + 6) by omega) (Nat.le_of_ble_eq_true rfl) rfl (c_X8_harnessCount (hc _ _) (hc _ _).t (v_harnessCount hi) (cpI ?_))
    refine r_iremv (pc' := 122) dL_law_121 (nI_ne0 (by omega) (by omega)) (nI_modt (by omega) (by omega) (by omega)) rfl ?_
    refine r_istore (pc' := 124) (lv' := [(12, _), (11, _), (10, _), (9, _), (8, _), (7, _), (0, _), (1, _), (5, _), (6, _)]) dL_law_122 (by decide) rfl rfl ?_
    refine r_iconst (pc' := 125) (v := 1) dL_law_124 (by decide) rfl ?_
    refine r_iload (pc' := 127) dL_law_125 4 rfl rfl ?_
    refine r_bipush (pc' := 129) (v := 11) dL_law_127 (by decide) rfl ?_
    refine r_iushr (pc' := 130) dL_law_129 rfl ?_
    refine r_bipush (pc' := 132) (v := 7) dL_law_130 (by decide) rfl ?_
    refine r_iandM (Y := m_L_law) (pc' := 133) (q := 3) dL_law_132 (by decide) rfl rfl (fun n0 hn0 => ?_)
    refine r_iaddv (pc' := 134) dL_law_133 (nI_add 1 n0) rfl ?_
    refine r_istore (pc' := 136) (lv' := [(13, _), (12, _), (11, _), (10, _), (9, _), (8, _), (7, _), (0, _), (1, _), (5, _), (6, _)]) dL_law_134 (by decide) rfl rfl ?_
    refine r_aload_n (pc' := 137) dL_law_136 rfl 8 rfl rfl ?_
    refine r_aload (pc' := 139) dL_law_137 9 rfl rfl ?_
    refine r_callS (pc' := 142) (k' := (kb + 6001)) (n' := (nb + 40006)) (nn := 2) (As := [_, _]) (rest := []) dL_law_139 mb_L_sees ms_L_sees lk_L_223 rfl rfl (roomB_mk (by decide) (by decide) (show (kb + 1) + 6000 ≤ 600086 by omega) (show (nb + 6) + 40000 ≤ 7301442 by omega)) (show (kb + 1) + 6000 = (kb + 6001) by omega) (show (nb + 6) + 40000 = (nb + 40006) by omega) (Nat.le_of_ble_eq_true rfl) rfl (c_L_sees (hc _ _) (hA _ _) hi (cpV ?_))
    refine aa_S (LZ_sw hne) ?_
    refine r_aload_n (pc' := 143) dL_law_142 rfl 8 rfl rfl ?_
    refine r_iload (pc' := 145) dL_law_143 4 rfl rfl ?_
    obtain ⟨J, s1, s2, si, s4⟩ := v_save (P := c + 104) hi (show sl < 2 from hsl)
    refine r_callV (pc' := 148) (k' := (kb + 6003)) (n' := (nb + 40018)) (nn := 1) (As := [_]) (rest := []) dL_law_145 mb_X8_saveState mi_X8_saveState (hc _ _).o (by decide) rfl lk_L_227 rfl rfl (roomB_mk (by decide) (by decide) (show (kb + 6001) + 2 ≤ 600086 by omega) (show (nb + 40006) + 12 ≤ 7301442 by omega)) (show (kb + 6001) + 2 = (kb + 6003) by omega) (show (nb + 40006) + 12 = (nb + 40018) by omega) (Nat.le_of_ble_eq_true rfl) rfl (c_X8_saveState (hc _ _) (hc _ _).t (s1) (cpI ?_))
    refine r_i2l (pc' := 149) dL_law_148 rfl ?_
    refine r_aload (pc' := 151) dL_law_149 9 rfl rfl ?_
    refine r_iconst (pc' := 152) (v := 0) dL_law_151 (by decide) rfl ?_
    refine r_laloadN (pc' := 153) (d := 0) dL_law_152 (hA _ _) rfl (by decide) (by decide) ((LZ_w hne (by decide)).trans see_0) rfl ?_
    refine r_lcmpE (pc' := 154) dL_law_153 rfl rfl ?_
    refine r_if_ne (tgt := 164) (pc' := 157) dL_law_154 rfl rfl (fun h154 => ?_) (fun h154 => ?_)
    · exact absurd rfl h154
    · refine r_aload_n (pc' := 158) dL_law_157 rfl 8 rfl rfl ?_
      refine r_callS (pc' := 161) (k' := (kb + 6203)) (n' := (nb + 41218)) (nn := 1) (As := [_]) (rest := []) dL_law_158 mb_L_isWhole ms_L_isWhole lk_L_230 rfl rfl (roomB_mk (by decide) (by decide) (show (kb + 6003) + 200 ≤ 600086 by omega) (show (nb + 40018) + 1200 ≤ 7301442 by omega)) (show (kb + 6003) + 200 = (kb + 6203) by omega) (show (nb + 40018) + 1200 = (nb + 41218) by omega) (Nat.le_of_ble_eq_true rfl) rfl (c_L_isWhole (hc _ _) si (fun K hK => (cpI ?_)))
      refine r_if_ne (tgt := 166) (pc' := 164) dL_law_161 rfl rfl (fun h161 => ?_) (fun h161 => ?_)
      · refine aa_locs (ks := [6, 7, 8, 9, 10, 5, 4, 3, 2, 1, 0]) (lv' := [(7, _), (0, _), (1, _), (5, _), (6, _), (8, _), (9, _), (10, _), (11, _), (12, _), (13, _)]) rfl ?_
        have KI := si.fr hK
        have KF : FR c J K := FR.of hK
        have e1 : SE I (c + 4 + 10) K (c + 4 + 10) := fun k j hk hj => by rw [hK _ (by omega), s2 _ (by omega)]
        have e2 : LE (c + 4) I K := fun z z1 z2 => by rw [hK _ (by omega), s2 _ (by omega)]
        have hsee := see_eq (W := W) e1 e2 (show H ≤ 3 by omega) hi.r6
        have hsv : SV c sl K (c + 4) K := ⟨by rw [hK _ (by omega)]; exact s4.1, fun k' j hk' hj => by rw [← e1 k' j hk' hj, hK _ (by omega)]; exact s4.2 k' j hk' hj⟩
        refine aa_S (congrArg (fun q => LZ S wa ia q g) hsee) ?_
        refine aa_widen (k' := kb + 6400) (n' := nb + 41900) (by omega) (by omega) ?_
        exact l_lawB hc hA hB hne hkb hnb KI hN (Nat.mod_lt _ (by decide)) (Nat.mod_lt _ (by decide)) (Nat.mod_lt _ (by omega)) (Nat.le_add_right 1 n0) (by omega) (fun J1 N1 n1 n2 hj hfr => l_law604 hc hA hB hne hkb hnb KI hj n1 (hsv.fr hfr hsl) hsl (hfr.le rfl) (fun J f g hJ => hnx J f g N1 n2 hJ))
      · exact absurd h161 (by decide)
theorem bud_k {k m : Nat} {d A e : Nat} (h : k + d * (m + 1) + e ≤ A) : k + d ≤ A ∧ k + d + d * m + e ≤ A := by
  have : d * (m + 1) = d * m + d := Nat.mul_succ d m
  rw [this] at h
  generalize d * m = x at h ⊢
  omega
set_option maxHeartbeats 4000000 in
theorem law_loop {Ω : JO} {F : JF} {S : JS} {c wa ia H W : Nat} (hc : ∀ f g, Is8 (LZ S wa ia f g) c (c + 4) (c + 104)) (hA : ∀ f g, ArE 14 (LZ S wa ia f g) wa 50) (hB : ∀ f g, ArE 14 (LZ S wa ia f g) ia 50) (hne : wa ≠ ia) (hend : ∀ (k n : Nat) (lv : List (Nat × Value)) (I : JI) (S : JS), k ≤ 600086 → n ≤ 7301442 → AA Ω m_L_law F k n 683 lv [.int 1] I S) : ∀ (m step kb nb N : Nat) (I : JI) (f g : Nat → Int64), step + m = 20 → kb + 15000 * m + 10 ≤ 600086 → nb + 100000 * m + 60 ≤ 7301442 → N + 10 * m ≤ 100000 → INV N I c (c + 4) H W → AA Ω m_L_law F kb nb 65 [(7, .int (nI step)), (0, .ref (oS Ω).1), (1, .ref c), (5, .ref wa), (6, .ref ia)] [] I (LZ S wa ia f g) := by
  intro m
  induction m with
  | zero =>
    intro step kb nb N I f g hs hk hn hN hi
    refine r_iload (pc' := 67) dL_law_65 0 rfl rfl ?_
    refine r_bipush (pc' := 69) (v := 20) dL_law_67 (by decide) rfl ?_
    refine r_icmp_ge (tgt := 671) (pc' := 72) dL_law_69 rfl rfl (fun h69 => ?_) (fun h69 => ?_)
    · refine r_aload_n (pc' := 672) dL_law_671 rfl 2 rfl rfl ?_
      refine r_callV (pc' := 675) (k' := (kb + 1)) (n' := (nb + 6)) (nn := 0) (As := []) (rest := []) dL_law_672 mb_X8_imbalance mi_X8_imbalance (hc _ _).o (by decide) rfl lk_L_204 rfl rfl (roomB_mk (by decide) (by decide) (show (kb + 0) + 1 ≤ 600086 by omega) (show (nb + 0) + 6 ≤ 7301442 by omega)) (show (kb + 0) + 1 = (kb + 1) by omega) (show (nb + 0) + 6 = (nb + 6) by omega) (Nat.le_of_ble_eq_true rfl) rfl (c_X8_imbalance (hc _ _) (hc _ _).t (v_imbalance hi) (cpI ?_))
      refine r_if_ne (tgt := 682) (pc' := 678) dL_law_675 rfl rfl (fun h675 => ?_) (fun h675 => ?_)
      · exact absurd rfl h675
      · refine r_iconst (pc' := 679) (v := 1) dL_law_678 (by decide) rfl ?_
        refine r_goto (tgt := 683) dL_law_679 rfl ?_
        exact hend _ _ _ _ _ (by omega) (by omega)
    · exact absurd (show (20 : Int32) ≤ nI step from nI_le (a := 20) (by omega) (by omega)) h69
  | succ m ih =>
    intro step kb nb N I f g hs hk hn hN hi
    obtain ⟨a1, a3⟩ := bud_k hk
    obtain ⟨a2, a4⟩ := bud_k hn
    obtain ⟨a5, a6⟩ := bud_k (k := N) (d := 10) (A := 100000) (e := 0) hN
    exact law_step hc hA hB hne a1 a2 hi a5 (by omega) (fun J f g N1 n1 hJ => ih (step + 1) _ _ (N + 10) J f g (by omega) a3 a4 a6 (hJ.mono n1 a5))
