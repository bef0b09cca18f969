noncomputable def s_X9_readsDeed (I : JI) (m : Nat) : Option (JI) :=
  bd (s_X9_isWord I m "unweave") fun z1 => if z1 = true then (bd (s_X9_readsUnweave I m) fun I28 => some I28) else (bd (s_X9_isWord I m "swap") fun z3 => if z3 = true then (bd (s_X9_readsSwap I m) fun I27 => some I27) else (bd (s_X9_isWord I m "punch") fun z5 => if z5 = true then (bd (s_X9_readsPunch I m) fun I26 => some I26) else (bd (s_X9_isWord I m "dye") fun z7 => if z7 = true then (bd (s_X9_readsDye I m) fun I25 => some I25) else (bd (s_X9_isWord I m "oil") fun z9 => if z9 = true then (bd (s_X9_readsOil I m) fun I24 => some I24) else (bd (s_X9_isWord I m "invert") fun z11 => if z11 = true then (bd (s_X9_readsInvert I m) fun I23 => some I23) else (bd (s_X9_isWord I m "strain") fun z13 => if z13 = true then (bd (s_X9_readsSetting I m 11 0 60) fun I22 => some I22) else (bd (s_X9_isWord I m "motor") fun z15 => if z15 = true then (bd (s_X9_readsSetting I m 12 1 24) fun I21 => some I21) else (bd (s_X9_isWord I m "mend") fun z17 => if z17 = true then (bd (s_X9_readsMend I m) fun I20 => some I20) else (lx (s_X9_faults I m 1) fun I19 => some I19)))))))))
set_option maxHeartbeats 4000000 in
theorem c_X9_readsDeed {Ω : JO} {I : JI} {S : JS} {Q : JQ} {m : Nat} {J : JI} (hm : Is9 S m) (h : s_X9_readsDeed I m = some J) (hQ : Q (.inl none) J S) : Call Ω m_X9_readsDeed [.ref m] I S Q := by
  refine call_of (by decide +kernel) rfl (Nat.le_of_ble_eq_true rfl) ?_
  change AA Ω m_X9_readsDeed (FQ Ω m_X9_readsDeed Q) 0 0 0 [(0, .ref m)] [] I S
  unfold s_X9_readsDeed at h
  refine r_aload_n (pc' := 1) dX9_readsDeed_0 rfl 0 rfl rfl ?_
  refine r_ldcSW (pc' := 4) (tx := "unweave") dX9_readsDeed_1 sw_X9_266 rfl ?_
  obtain ⟨z1, ez1, h⟩ := bd_e h
  refine r_callV1 (pc' := 7) (k' := 0) (n' := 0) dX9_readsDeed_4 mb_X9_isWord mi_X9_isWord hm.o (by decide) rfl lk_X9_166 rfl rfl rfl (Nat.le_of_ble_eq_true rfl) rfl (c_X9_isWord hm sw_X9_266 ez1 (cpI ?_))
  refine r_if_eq (tgt := 17) (pc' := 10) dX9_readsDeed_7 rfl rfl (fun h2 => ?_) (fun h2 => ?_)
  · have h := ifn (zb_n0 h2) h
    refine r_aload_n (pc' := 18) dX9_readsDeed_17 rfl 0 rfl rfl ?_
    refine r_ldcSW (pc' := 21) (tx := "swap") dX9_readsDeed_18 sw_X9_271 rfl ?_
    obtain ⟨z3, ez3, h⟩ := bd_e h
    refine r_callV1 (pc' := 24) (k' := 0) (n' := 0) dX9_readsDeed_21 mb_X9_isWord mi_X9_isWord hm.o (by decide) rfl lk_X9_166 rfl rfl rfl (Nat.le_of_ble_eq_true rfl) rfl (c_X9_isWord hm sw_X9_271 ez3 (cpI ?_))
    refine r_if_eq (tgt := 34) (pc' := 27) dX9_readsDeed_24 rfl rfl (fun h4 => ?_) (fun h4 => ?_)
    · have h := ifn (zb_n0 h4) h
      refine r_aload_n (pc' := 35) dX9_readsDeed_34 rfl 0 rfl rfl ?_
      refine r_ldcSW (pc' := 38) (tx := "punch") dX9_readsDeed_35 sw_X9_276 rfl ?_
      obtain ⟨z5, ez5, h⟩ := bd_e h
      refine r_callV1 (pc' := 41) (k' := 0) (n' := 0) dX9_readsDeed_38 mb_X9_isWord mi_X9_isWord hm.o (by decide) rfl lk_X9_166 rfl rfl rfl (Nat.le_of_ble_eq_true rfl) rfl (c_X9_isWord hm sw_X9_276 ez5 (cpI ?_))
      refine r_if_eq (tgt := 51) (pc' := 44) dX9_readsDeed_41 rfl rfl (fun h6 => ?_) (fun h6 => ?_)
      · have h := ifn (zb_n0 h6) h
        refine r_aload_n (pc' := 52) dX9_readsDeed_51 rfl 0 rfl rfl ?_
        refine r_ldcSW (pc' := 55) (tx := "dye") dX9_readsDeed_52 sw_X9_281 rfl ?_
        obtain ⟨z7, ez7, h⟩ := bd_e h
        refine r_callV1 (pc' := 58) (k' := 0) (n' := 0) dX9_readsDeed_55 mb_X9_isWord mi_X9_isWord hm.o (by decide) rfl lk_X9_166 rfl rfl rfl (Nat.le_of_ble_eq_true rfl) rfl (c_X9_isWord hm sw_X9_281 ez7 (cpI ?_))
        refine r_if_eq (tgt := 68) (pc' := 61) dX9_readsDeed_58 rfl rfl (fun h8 => ?_) (fun h8 => ?_)
        · have h := ifn (zb_n0 h8) h
          refine r_aload_n (pc' := 69) dX9_readsDeed_68 rfl 0 rfl rfl ?_
          refine r_ldcSW (pc' := 72) (tx := "oil") dX9_readsDeed_69 sw_X9_286 rfl ?_
          obtain ⟨z9, ez9, h⟩ := bd_e h
          refine r_callV1 (pc' := 75) (k' := 0) (n' := 0) dX9_readsDeed_72 mb_X9_isWord mi_X9_isWord hm.o (by decide) rfl lk_X9_166 rfl rfl rfl (Nat.le_of_ble_eq_true rfl) rfl (c_X9_isWord hm sw_X9_286 ez9 (cpI ?_))
          refine r_if_eq (tgt := 85) (pc' := 78) dX9_readsDeed_75 rfl rfl (fun h10 => ?_) (fun h10 => ?_)
          · have h := ifn (zb_n0 h10) h
            refine r_aload_n (pc' := 86) dX9_readsDeed_85 rfl 0 rfl rfl ?_
            refine r_ldcSW (pc' := 89) (tx := "invert") dX9_readsDeed_86 sw_X9_291 rfl ?_
            obtain ⟨z11, ez11, h⟩ := bd_e h
            refine r_callV1 (pc' := 92) (k' := 0) (n' := 0) dX9_readsDeed_89 mb_X9_isWord mi_X9_isWord hm.o (by decide) rfl lk_X9_166 rfl rfl rfl (Nat.le_of_ble_eq_true rfl) rfl (c_X9_isWord hm sw_X9_291 ez11 (cpI ?_))
            refine r_if_eq (tgt := 102) (pc' := 95) dX9_readsDeed_92 rfl rfl (fun h12 => ?_) (fun h12 => ?_)
            · have h := ifn (zb_n0 h12) h
              refine r_aload_n (pc' := 103) dX9_readsDeed_102 rfl 0 rfl rfl ?_
              refine r_ldcSW (pc' := 106) (tx := "strain") dX9_readsDeed_103 sw_X9_296 rfl ?_
              obtain ⟨z13, ez13, h⟩ := bd_e h
              refine r_callV1 (pc' := 109) (k' := 0) (n' := 0) dX9_readsDeed_106 mb_X9_isWord mi_X9_isWord hm.o (by decide) rfl lk_X9_166 rfl rfl rfl (Nat.le_of_ble_eq_true rfl) rfl (c_X9_isWord hm sw_X9_296 ez13 (cpI ?_))
              refine r_if_eq (tgt := 124) (pc' := 112) dX9_readsDeed_109 rfl rfl (fun h14 => ?_) (fun h14 => ?_)
              · have h := ifn (zb_n0 h14) h
                refine r_aload_n (pc' := 125) dX9_readsDeed_124 rfl 0 rfl rfl ?_
                refine r_ldcSW (pc' := 128) (tx := "motor") dX9_readsDeed_125 sw_X9_301 rfl ?_
                obtain ⟨z15, ez15, h⟩ := bd_e h
                refine r_callV1 (pc' := 131) (k' := 0) (n' := 0) dX9_readsDeed_128 mb_X9_isWord mi_X9_isWord hm.o (by decide) rfl lk_X9_166 rfl rfl rfl (Nat.le_of_ble_eq_true rfl) rfl (c_X9_isWord hm sw_X9_301 ez15 (cpI ?_))
                refine r_if_eq (tgt := 146) (pc' := 134) dX9_readsDeed_131 rfl rfl (fun h16 => ?_) (fun h16 => ?_)
                · have h := ifn (zb_n0 h16) h
                  refine r_aload_n (pc' := 147) dX9_readsDeed_146 rfl 0 rfl rfl ?_
                  refine r_ldcSW (pc' := 150) (tx := "mend") dX9_readsDeed_147 sw_X9_303 rfl ?_
                  obtain ⟨z17, ez17, h⟩ := bd_e h
                  refine r_callV1 (pc' := 153) (k' := 0) (n' := 0) dX9_readsDeed_150 mb_X9_isWord mi_X9_isWord hm.o (by decide) rfl lk_X9_166 rfl rfl rfl (Nat.le_of_ble_eq_true rfl) rfl (c_X9_isWord hm sw_X9_303 ez17 (cpI ?_))
                  refine r_if_eq (tgt := 163) (pc' := 156) dX9_readsDeed_153 rfl rfl (fun h18 => ?_) (fun h18 => ?_)
                  · have h := ifn (zb_n0 h18) h
                    refine r_aload_n (pc' := 164) dX9_readsDeed_163 rfl 0 rfl rfl ?_
                    refine r_iconst (pc' := 165) (v := 1) dX9_readsDeed_164 (by decide) rfl ?_
                    refine r_callV1 (pc' := 168) (k' := 0) (n' := 0) dX9_readsDeed_165 mb_X9_faults mi_X9_faults hm.o (by decide) rfl lk_X9_104 rfl rfl rfl (Nat.le_of_ble_eq_true rfl) rfl (c_X9_faults hm rfl (cpV ?_))
                    have h := lx_e h
                    cases h
                    exact r_ret dX9_readsDeed_168 rfl (by decide) (by decide) hQ
                  · have h := ifp (zb_p0 h18) h
                    refine r_aload_n (pc' := 157) dX9_readsDeed_156 rfl 0 rfl rfl ?_
                    obtain ⟨I20, eI20, h⟩ := bd_e h
                    refine r_callV0 (pc' := 160) (k' := 0) (n' := 0) dX9_readsDeed_157 mb_X9_readsMend mi_X9_readsMend hm.o (by decide) rfl lk_X9_305 rfl rfl rfl (Nat.le_of_ble_eq_true rfl) rfl (c_X9_readsMend hm eI20 (cpV ?_))
                    refine r_goto (tgt := 168) dX9_readsDeed_160 rfl ?_
                    cases h
                    exact r_ret dX9_readsDeed_168 rfl (by decide) (by decide) hQ
                · have h := ifp (zb_p0 h16) h
                  refine r_aload_n (pc' := 135) dX9_readsDeed_134 rfl 0 rfl rfl ?_
                  refine r_bipush (pc' := 137) (v := 12) dX9_readsDeed_135 (by decide) rfl ?_
                  refine r_iconst (pc' := 138) (v := 1) dX9_readsDeed_137 (by decide) rfl ?_
                  refine r_bipush (pc' := 140) (v := 24) dX9_readsDeed_138 (by decide) rfl ?_
                  obtain ⟨I21, eI21, h⟩ := bd_e h
                  refine r_callV3 (pc' := 143) (k' := 0) (n' := 0) dX9_readsDeed_140 mb_X9_readsSetting mi_X9_readsSetting hm.o (by decide) rfl lk_X9_298 rfl rfl rfl (Nat.le_of_ble_eq_true rfl) rfl (c_X9_readsSetting hm eI21 (cpV ?_))
                  refine r_goto (tgt := 168) dX9_readsDeed_143 rfl ?_
                  cases h
                  exact r_ret dX9_readsDeed_168 rfl (by decide) (by decide) hQ
              · have h := ifp (zb_p0 h14) h
                refine r_aload_n (pc' := 113) dX9_readsDeed_112 rfl 0 rfl rfl ?_
                refine r_bipush (pc' := 115) (v := 11) dX9_readsDeed_113 (by decide) rfl ?_
                refine r_iconst (pc' := 116) (v := 0) dX9_readsDeed_115 (by decide) rfl ?_
                refine r_bipush (pc' := 118) (v := 60) dX9_readsDeed_116 (by decide) rfl ?_
                obtain ⟨I22, eI22, h⟩ := bd_e h
                refine r_callV3 (pc' := 121) (k' := 0) (n' := 0) dX9_readsDeed_118 mb_X9_readsSetting mi_X9_readsSetting hm.o (by decide) rfl lk_X9_298 rfl rfl rfl (Nat.le_of_ble_eq_true rfl) rfl (c_X9_readsSetting hm eI22 (cpV ?_))
                refine r_goto (tgt := 168) dX9_readsDeed_121 rfl ?_
                cases h
                exact r_ret dX9_readsDeed_168 rfl (by decide) (by decide) hQ
            · have h := ifp (zb_p0 h12) h
              refine r_aload_n (pc' := 96) dX9_readsDeed_95 rfl 0 rfl rfl ?_
              obtain ⟨I23, eI23, h⟩ := bd_e h
              refine r_callV0 (pc' := 99) (k' := 0) (n' := 0) dX9_readsDeed_96 mb_X9_readsInvert mi_X9_readsInvert hm.o (by decide) rfl lk_X9_293 rfl rfl rfl (Nat.le_of_ble_eq_true rfl) rfl (c_X9_readsInvert hm eI23 (cpV ?_))
              refine r_goto (tgt := 168) dX9_readsDeed_99 rfl ?_
              cases h
              exact r_ret dX9_readsDeed_168 rfl (by decide) (by decide) hQ
          · have h := ifp (zb_p0 h10) h
            refine r_aload_n (pc' := 79) dX9_readsDeed_78 rfl 0 rfl rfl ?_
            obtain ⟨I24, eI24, h⟩ := bd_e h
            refine r_callV0 (pc' := 82) (k' := 0) (n' := 0) dX9_readsDeed_79 mb_X9_readsOil mi_X9_readsOil hm.o (by decide) rfl lk_X9_288 rfl rfl rfl (Nat.le_of_ble_eq_true rfl) rfl (c_X9_readsOil hm eI24 (cpV ?_))
            refine r_goto (tgt := 168) dX9_readsDeed_82 rfl ?_
            cases h
            exact r_ret dX9_readsDeed_168 rfl (by decide) (by decide) hQ
        · have h := ifp (zb_p0 h8) h
          refine r_aload_n (pc' := 62) dX9_readsDeed_61 rfl 0 rfl rfl ?_
          obtain ⟨I25, eI25, h⟩ := bd_e h
          refine r_callV0 (pc' := 65) (k' := 0) (n' := 0) dX9_readsDeed_62 mb_X9_readsDye mi_X9_readsDye hm.o (by decide) rfl lk_X9_283 rfl rfl rfl (Nat.le_of_ble_eq_true rfl) rfl (c_X9_readsDye hm eI25 (cpV ?_))
          refine r_goto (tgt := 168) dX9_readsDeed_65 rfl ?_
          cases h
          exact r_ret dX9_readsDeed_168 rfl (by decide) (by decide) hQ
      · have h := ifp (zb_p0 h6) h
        refine r_aload_n (pc' := 45) dX9_readsDeed_44 rfl 0 rfl rfl ?_
        obtain ⟨I26, eI26, h⟩ := bd_e h
        refine r_callV0 (pc' := 48) (k' := 0) (n' := 0) dX9_readsDeed_45 mb_X9_readsPunch mi_X9_readsPunch hm.o (by decide) rfl lk_X9_278 rfl rfl rfl (Nat.le_of_ble_eq_true rfl) rfl (c_X9_readsPunch hm eI26 (cpV ?_))
        refine r_goto (tgt := 168) dX9_readsDeed_48 rfl ?_
        cases h
        exact r_ret dX9_readsDeed_168 rfl (by decide) (by decide) hQ
    · have h := ifp (zb_p0 h4) h
      refine r_aload_n (pc' := 28) dX9_readsDeed_27 rfl 0 rfl rfl ?_
      obtain ⟨I27, eI27, h⟩ := bd_e h
      refine r_callV0 (pc' := 31) (k' := 0) (n' := 0) dX9_readsDeed_28 mb_X9_readsSwap mi_X9_readsSwap hm.o (by decide) rfl lk_X9_273 rfl rfl rfl (Nat.le_of_ble_eq_true rfl) rfl (c_X9_readsSwap hm eI27 (cpV ?_))
      refine r_goto (tgt := 168) dX9_readsDeed_31 rfl ?_
      cases h
      exact r_ret dX9_readsDeed_168 rfl (by decide) (by decide) hQ
  · have h := ifp (zb_p0 h2) h
    refine r_aload_n (pc' := 11) dX9_readsDeed_10 rfl 0 rfl rfl ?_
    obtain ⟨I28, eI28, h⟩ := bd_e h
    refine r_callV0 (pc' := 14) (k' := 0) (n' := 0) dX9_readsDeed_11 mb_X9_readsUnweave mi_X9_readsUnweave hm.o (by decide) rfl lk_X9_268 rfl rfl rfl (Nat.le_of_ble_eq_true rfl) rfl (c_X9_readsUnweave hm eI28 (cpV ?_))
    refine r_goto (tgt := 168) dX9_readsDeed_14 rfl ?_
    cases h
    exact r_ret dX9_readsDeed_168 rfl (by decide) (by decide) hQ
set_option maxHeartbeats 4000000 in
theorem fr_X9_readsDeed {I : JI} {m : Nat} {J : JI} {z : Nat} (h : s_X9_readsDeed I m = some J) (hz_m1 : z ≠ (m + 1)) (hz_m : z ≠ m) : J z = I z := by
  unfold s_X9_readsDeed at h
  obtain ⟨o1, e1, h⟩ := bd_e h
  rcases if_e h with h | h
  · obtain ⟨I28, e2, h⟩ := bd_e h
    cases h
    exact ((fr_X9_readsUnweave e2 (by omega) (by omega)).trans rfl)
  · obtain ⟨o3, e3, h⟩ := bd_e h
    rcases if_e h with h | h
    · obtain ⟨I27, e4, h⟩ := bd_e h
      cases h
      exact ((fr_X9_readsSwap e4 (by omega) (by omega)).trans rfl)
    · obtain ⟨o5, e5, h⟩ := bd_e h
      rcases if_e h with h | h
      · obtain ⟨I26, e6, h⟩ := bd_e h
        cases h
        exact ((fr_X9_readsPunch e6 (by omega) (by omega)).trans rfl)
      · obtain ⟨o7, e7, h⟩ := bd_e h
        rcases if_e h with h | h
        · obtain ⟨I25, e8, h⟩ := bd_e h
          cases h
          exact ((fr_X9_readsDye e8 (by omega) (by omega)).trans rfl)
        · obtain ⟨o9, e9, h⟩ := bd_e h
          rcases if_e h with h | h
          · obtain ⟨I24, e10, h⟩ := bd_e h
            cases h
            exact ((fr_X9_readsOil e10 (by omega) (by omega)).trans rfl)
          · obtain ⟨o11, e11, h⟩ := bd_e h
            rcases if_e h with h | h
            · obtain ⟨I23, e12, h⟩ := bd_e h
              cases h
              exact ((fr_X9_readsInvert e12 (by omega) (by omega)).trans rfl)
            · obtain ⟨o13, e13, h⟩ := bd_e h
              rcases if_e h with h | h
              · obtain ⟨I22, e14, h⟩ := bd_e h
                cases h
                exact ((fr_X9_readsSetting e14 (by omega) (by omega)).trans rfl)
              · obtain ⟨o15, e15, h⟩ := bd_e h
                rcases if_e h with h | h
                · obtain ⟨I21, e16, h⟩ := bd_e h
                  cases h
                  exact ((fr_X9_readsSetting e16 (by omega) (by omega)).trans rfl)
                · obtain ⟨o17, e17, h⟩ := bd_e h
                  rcases if_e h with h | h
                  · obtain ⟨I20, e18, h⟩ := bd_e h
                    cases h
                    exact ((fr_X9_readsMend e18 (by omega) (by omega)).trans rfl)
                  · have h := lx_e h
                    cases h
                    exact ((fr_X9_faults (by omega)).trans rfl)
set_option maxHeartbeats 4000000 in
theorem ff_X9_readsDeed {I : JI} {m : Nat} {J : JI} {k : Nat} (h : s_X9_readsDeed I m = some J) (hk10 : k ≠ 10) (hk11 : k ≠ 11) (hk13 : k ≠ 13) (hk14 : k ≠ 14) (hk15 : k ≠ 15) (hk16 : k ≠ 16) : J m k = I m k := by
  unfold s_X9_readsDeed at h
  obtain ⟨o1, e1, h⟩ := bd_e h
  rcases if_e h with h | h
  · obtain ⟨I28, e2, h⟩ := bd_e h
    cases h
    exact ((ff_X9_readsUnweave e2 hk10 hk11 hk13 hk14 hk15 hk16).trans rfl)
  · obtain ⟨o3, e3, h⟩ := bd_e h
    rcases if_e h with h | h
    · obtain ⟨I27, e4, h⟩ := bd_e h
      cases h
      exact ((ff_X9_readsSwap e4 hk10 hk11 hk13 hk14 hk15 hk16).trans rfl)
    · obtain ⟨o5, e5, h⟩ := bd_e h
      rcases if_e h with h | h
      · obtain ⟨I26, e6, h⟩ := bd_e h
        cases h
        exact ((ff_X9_readsPunch e6 hk10 hk11 hk13 hk14 hk15 hk16).trans rfl)
      · obtain ⟨o7, e7, h⟩ := bd_e h
        rcases if_e h with h | h
        · obtain ⟨I25, e8, h⟩ := bd_e h
          cases h
          exact ((ff_X9_readsDye e8 hk10 hk11 hk13 hk14 hk15 hk16).trans rfl)
        · obtain ⟨o9, e9, h⟩ := bd_e h
          rcases if_e h with h | h
          · obtain ⟨I24, e10, h⟩ := bd_e h
            cases h
            exact ((ff_X9_readsOil e10 hk10 hk11 hk13 hk14 hk15 hk16).trans rfl)
          · obtain ⟨o11, e11, h⟩ := bd_e h
            rcases if_e h with h | h
            · obtain ⟨I23, e12, h⟩ := bd_e h
              cases h
              exact ((ff_X9_readsInvert e12 hk10 hk11 hk13 hk14 hk15 hk16).trans rfl)
            · obtain ⟨o13, e13, h⟩ := bd_e h
              rcases if_e h with h | h
              · obtain ⟨I22, e14, h⟩ := bd_e h
                cases h
                exact ((ff_X9_readsSetting e14 hk10 hk11 hk13 hk14 hk15 hk16).trans rfl)
              · obtain ⟨o15, e15, h⟩ := bd_e h
                rcases if_e h with h | h
                · obtain ⟨I21, e16, h⟩ := bd_e h
                  cases h
                  exact ((ff_X9_readsSetting e16 hk10 hk11 hk13 hk14 hk15 hk16).trans rfl)
                · obtain ⟨o17, e17, h⟩ := bd_e h
                  rcases if_e h with h | h
                  · obtain ⟨I20, e18, h⟩ := bd_e h
                    cases h
                    exact ((ff_X9_readsMend e18 hk10 hk11 hk13 hk14 hk15 hk16).trans rfl)
                  · have h := lx_e h
                    cases h
                    exact ((ff_X9_faults hk10 hk11).trans rfl)
noncomputable def s_X9_readsItem (I : JI) (m : Nat) : Option (JI) :=
  bd (s_X9_isWord I m "warp") fun z1 => if z1 = true then (bd (s_X9_readsWarp I m) fun I16 => some I16) else (bd (s_X9_isWord I m "card") fun z3 => if z3 = true then (bd (s_X9_readsCard I m) fun I15 => some I15) else (bd (s_X9_isWord I m "deck") fun z5 => if z5 = true then (bd (s_X9_readsDeck I m) fun I14 => some I14) else (bd (s_X9_isWord I m "yarn") fun z7 => if z7 = true then (bd (s_X9_readsYarn I m) fun I13 => some I13) else (bd (s_X9_isWord I m "weave") fun z9 => if z9 = true then (bd (s_X9_readsWeave I m) fun I12 => some I12) else (bd (s_X9_readsDeed I m) fun I11 => some I11)))))
set_option maxHeartbeats 4000000 in
theorem c_X9_readsItem {Ω : JO} {I : JI} {S : JS} {Q : JQ} {m : Nat} {J : JI} (hm : Is9 S m) (h : s_X9_readsItem I m = some J) (hQ : Q (.inl none) J S) : Call Ω m_X9_readsItem [.ref m] I S Q := by
  refine call_of (by decide +kernel) rfl (Nat.le_of_ble_eq_true rfl) ?_
  change AA Ω m_X9_readsItem (FQ Ω m_X9_readsItem Q) 0 0 0 [(0, .ref m)] [] I S
  unfold s_X9_readsItem at h
  refine r_aload_n (pc' := 1) dX9_readsItem_0 rfl 0 rfl rfl ?_
  refine r_ldcS (pc' := 3) (tx := "warp") dX9_readsItem_1 sw_X9_238 rfl ?_
  obtain ⟨z1, ez1, h⟩ := bd_e h
  refine r_callV1 (pc' := 6) (k' := 0) (n' := 0) dX9_readsItem_3 mb_X9_isWord mi_X9_isWord hm.o (by decide) rfl lk_X9_166 rfl rfl rfl (Nat.le_of_ble_eq_true rfl) rfl (c_X9_isWord hm sw_X9_238 ez1 (cpI ?_))
  refine r_if_eq (tgt := 16) (pc' := 9) dX9_readsItem_6 rfl rfl (fun h2 => ?_) (fun h2 => ?_)
  · have h := ifn (zb_n0 h2) h
    refine r_aload_n (pc' := 17) dX9_readsItem_16 rfl 0 rfl rfl ?_
    refine r_ldcS (pc' := 19) (tx := "card") dX9_readsItem_17 sw_X9_243 rfl ?_
    obtain ⟨z3, ez3, h⟩ := bd_e h
    refine r_callV1 (pc' := 22) (k' := 0) (n' := 0) dX9_readsItem_19 mb_X9_isWord mi_X9_isWord hm.o (by decide) rfl lk_X9_166 rfl rfl rfl (Nat.le_of_ble_eq_true rfl) rfl (c_X9_isWord hm sw_X9_243 ez3 (cpI ?_))
    refine r_if_eq (tgt := 32) (pc' := 25) dX9_readsItem_22 rfl rfl (fun h4 => ?_) (fun h4 => ?_)
    · have h := ifn (zb_n0 h4) h
      refine r_aload_n (pc' := 33) dX9_readsItem_32 rfl 0 rfl rfl ?_
      refine r_ldcS (pc' := 35) (tx := "deck") dX9_readsItem_33 sw_X9_248 rfl ?_
      obtain ⟨z5, ez5, h⟩ := bd_e h
      refine r_callV1 (pc' := 38) (k' := 0) (n' := 0) dX9_readsItem_35 mb_X9_isWord mi_X9_isWord hm.o (by decide) rfl lk_X9_166 rfl rfl rfl (Nat.le_of_ble_eq_true rfl) rfl (c_X9_isWord hm sw_X9_248 ez5 (cpI ?_))
      refine r_if_eq (tgt := 48) (pc' := 41) dX9_readsItem_38 rfl rfl (fun h6 => ?_) (fun h6 => ?_)
      · have h := ifn (zb_n0 h6) h
        refine r_aload_n (pc' := 49) dX9_readsItem_48 rfl 0 rfl rfl ?_
        refine r_ldcS (pc' := 51) (tx := "yarn") dX9_readsItem_49 sw_X9_253 rfl ?_
        obtain ⟨z7, ez7, h⟩ := bd_e h
        refine r_callV1 (pc' := 54) (k' := 0) (n' := 0) dX9_readsItem_51 mb_X9_isWord mi_X9_isWord hm.o (by decide) rfl lk_X9_166 rfl rfl rfl (Nat.le_of_ble_eq_true rfl) rfl (c_X9_isWord hm sw_X9_253 ez7 (cpI ?_))
        refine r_if_eq (tgt := 64) (pc' := 57) dX9_readsItem_54 rfl rfl (fun h8 => ?_) (fun h8 => ?_)
        · have h := ifn (zb_n0 h8) h
          refine r_aload_n (pc' := 65) dX9_readsItem_64 rfl 0 rfl rfl ?_
          refine r_ldcSW (pc' := 68) (tx := "weave") dX9_readsItem_65 sw_X9_258 rfl ?_
          obtain ⟨z9, ez9, h⟩ := bd_e h
          refine r_callV1 (pc' := 71) (k' := 0) (n' := 0) dX9_readsItem_68 mb_X9_isWord mi_X9_isWord hm.o (by decide) rfl lk_X9_166 rfl rfl rfl (Nat.le_of_ble_eq_true rfl) rfl (c_X9_isWord hm sw_X9_258 ez9 (cpI ?_))
          refine r_if_eq (tgt := 81) (pc' := 74) dX9_readsItem_71 rfl rfl (fun h10 => ?_) (fun h10 => ?_)
          · have h := ifn (zb_n0 h10) h
            refine r_aload_n (pc' := 82) dX9_readsItem_81 rfl 0 rfl rfl ?_
            obtain ⟨I11, eI11, h⟩ := bd_e h
            refine r_callV0 (pc' := 85) (k' := 0) (n' := 0) dX9_readsItem_82 mb_X9_readsDeed mi_X9_readsDeed hm.o (by decide) rfl lk_X9_263 rfl rfl rfl (Nat.le_of_ble_eq_true rfl) rfl (c_X9_readsDeed hm eI11 (cpV ?_))
            cases h
            exact r_ret dX9_readsItem_85 rfl (by decide) (by decide) hQ
          · have h := ifp (zb_p0 h10) h
            refine r_aload_n (pc' := 75) dX9_readsItem_74 rfl 0 rfl rfl ?_
            obtain ⟨I12, eI12, h⟩ := bd_e h
            refine r_callV0 (pc' := 78) (k' := 0) (n' := 0) dX9_readsItem_75 mb_X9_readsWeave mi_X9_readsWeave hm.o (by decide) rfl lk_X9_260 rfl rfl rfl (Nat.le_of_ble_eq_true rfl) rfl (c_X9_readsWeave hm eI12 (cpV ?_))
            refine r_goto (tgt := 85) dX9_readsItem_78 rfl ?_
            cases h
            exact r_ret dX9_readsItem_85 rfl (by decide) (by decide) hQ
        · have h := ifp (zb_p0 h8) h
          refine r_aload_n (pc' := 58) dX9_readsItem_57 rfl 0 rfl rfl ?_
          obtain ⟨I13, eI13, h⟩ := bd_e h
          refine r_callV0 (pc' := 61) (k' := 0) (n' := 0) dX9_readsItem_58 mb_X9_readsYarn mi_X9_readsYarn hm.o (by decide) rfl lk_X9_255 rfl rfl rfl (Nat.le_of_ble_eq_true rfl) rfl (c_X9_readsYarn hm eI13 (cpV ?_))
          refine r_goto (tgt := 85) dX9_readsItem_61 rfl ?_
          cases h
          exact r_ret dX9_readsItem_85 rfl (by decide) (by decide) hQ
      · have h := ifp (zb_p0 h6) h
        refine r_aload_n (pc' := 42) dX9_readsItem_41 rfl 0 rfl rfl ?_
        obtain ⟨I14, eI14, h⟩ := bd_e h
        refine r_callV0 (pc' := 45) (k' := 0) (n' := 0) dX9_readsItem_42 mb_X9_readsDeck mi_X9_readsDeck hm.o (by decide) rfl lk_X9_250 rfl rfl rfl (Nat.le_of_ble_eq_true rfl) rfl (c_X9_readsDeck hm eI14 (cpV ?_))
        refine r_goto (tgt := 85) dX9_readsItem_45 rfl ?_
        cases h
        exact r_ret dX9_readsItem_85 rfl (by decide) (by decide) hQ
    · have h := ifp (zb_p0 h4) h
      refine r_aload_n (pc' := 26) dX9_readsItem_25 rfl 0 rfl rfl ?_
      obtain ⟨I15, eI15, h⟩ := bd_e h
      refine r_callV0 (pc' := 29) (k' := 0) (n' := 0) dX9_readsItem_26 mb_X9_readsCard mi_X9_readsCard hm.o (by decide) rfl lk_X9_245 rfl rfl rfl (Nat.le_of_ble_eq_true rfl) rfl (c_X9_readsCard hm eI15 (cpV ?_))
      refine r_goto (tgt := 85) dX9_readsItem_29 rfl ?_
      cases h
      exact r_ret dX9_readsItem_85 rfl (by decide) (by decide) hQ
  · have h := ifp (zb_p0 h2) h
    refine r_aload_n (pc' := 10) dX9_readsItem_9 rfl 0 rfl rfl ?_
    obtain ⟨I16, eI16, h⟩ := bd_e h
    refine r_callV0 (pc' := 13) (k' := 0) (n' := 0) dX9_readsItem_10 mb_X9_readsWarp mi_X9_readsWarp hm.o (by decide) rfl lk_X9_240 rfl rfl rfl (Nat.le_of_ble_eq_true rfl) rfl (c_X9_readsWarp hm eI16 (cpV ?_))
    refine r_goto (tgt := 85) dX9_readsItem_13 rfl ?_
    cases h
    exact r_ret dX9_readsItem_85 rfl (by decide) (by decide) hQ
set_option maxHeartbeats 4000000 in
theorem fr_X9_readsItem {I : JI} {m : Nat} {J : JI} {z : Nat} (h : s_X9_readsItem I m = some J) (hz_m1 : z ≠ (m + 1)) (hz_m7 : z ≠ (m + 7)) (hz_m8 : z ≠ (m + 8)) (hz_m9 : z ≠ (m + 9)) (hz_m : z ≠ m) : J z = I z := by
  unfold s_X9_readsItem at h
  obtain ⟨o1, e1, h⟩ := bd_e h
  rcases if_e h with h | h
  · obtain ⟨I16, e2, h⟩ := bd_e h
    cases h
    exact ((fr_X9_readsWarp e2 (by omega) (by omega)).trans rfl)
  · obtain ⟨o3, e3, h⟩ := bd_e h
    rcases if_e h with h | h
    · obtain ⟨I15, e4, h⟩ := bd_e h
      cases h
      exact ((fr_X9_readsCard e4 (by omega) (by omega)).trans rfl)
    · obtain ⟨o5, e5, h⟩ := bd_e h
      rcases if_e h with h | h
      · obtain ⟨I14, e6, h⟩ := bd_e h
        cases h
        exact ((fr_X9_readsDeck e6 (by omega) (by omega) (by omega) (by omega) (by omega)).trans rfl)
      · obtain ⟨o7, e7, h⟩ := bd_e h
        rcases if_e h with h | h
        · obtain ⟨I13, e8, h⟩ := bd_e h
          cases h
          exact ((fr_X9_readsYarn e8 (by omega) (by omega)).trans rfl)
        · obtain ⟨o9, e9, h⟩ := bd_e h
          rcases if_e h with h | h
          · obtain ⟨I12, e10, h⟩ := bd_e h
            cases h
            exact ((fr_X9_readsWeave e10 (by omega) (by omega)).trans rfl)
          · obtain ⟨I11, e11, h⟩ := bd_e h
            cases h
            exact ((fr_X9_readsDeed e11 (by omega) (by omega)).trans rfl)
set_option maxHeartbeats 4000000 in
theorem ff_X9_readsItem {I : JI} {m : Nat} {J : JI} {k : Nat} (h : s_X9_readsItem I m = some J) (hk10 : k ≠ 10) (hk11 : k ≠ 11) (hk13 : k ≠ 13) (hk14 : k ≠ 14) (hk15 : k ≠ 15) (hk16 : k ≠ 16) (hk20 : k ≠ 20) : J m k = I m k := by
  unfold s_X9_readsItem at h
  obtain ⟨o1, e1, h⟩ := bd_e h
  rcases if_e h with h | h
  · obtain ⟨I16, e2, h⟩ := bd_e h
    cases h
    exact ((ff_X9_readsWarp e2 hk10 hk11 hk13 hk14 hk15 hk16).trans rfl)
  · obtain ⟨o3, e3, h⟩ := bd_e h
    rcases if_e h with h | h
    · obtain ⟨I15, e4, h⟩ := bd_e h
      cases h
      exact ((ff_X9_readsCard e4 hk10 hk11 hk13 hk14 hk15 hk16).trans rfl)
    · obtain ⟨o5, e5, h⟩ := bd_e h
      rcases if_e h with h | h
      · obtain ⟨I14, e6, h⟩ := bd_e h
        cases h
        exact ((ff_X9_readsDeck e6 hk10 hk11 hk13 hk14 hk15 hk16 hk20).trans rfl)
      · obtain ⟨o7, e7, h⟩ := bd_e h
        rcases if_e h with h | h
        · obtain ⟨I13, e8, h⟩ := bd_e h
          cases h
          exact ((ff_X9_readsYarn e8 hk10 hk11 hk13 hk14 hk15 hk16).trans rfl)
        · obtain ⟨o9, e9, h⟩ := bd_e h
          rcases if_e h with h | h
          · obtain ⟨I12, e10, h⟩ := bd_e h
            cases h
            exact ((ff_X9_readsWeave e10 hk10 hk11 hk13 hk14 hk15 hk16).trans rfl)
          · obtain ⟨I11, e11, h⟩ := bd_e h
            cases h
            exact ((ff_X9_readsDeed e11 hk10 hk11 hk13 hk14 hk15 hk16).trans rfl)
noncomputable def s_X9_readsText_L50 (m : Nat) : Nat → JI → Option (JI)
  | 0, _ => none
  | f + 1, I => if (s_X9_is I m 4) = true then (bd (s_X9_goes I m) fun I14 => bd (s_X9_readsItem I14 m) fun I15 => s_X9_readsText_L50 m f  I15) else (some (I))
noncomputable def s_X9_readsText (I : JI) (m : Nat) : Option (JI) :=
  bd (s_X9_goes I m) fun I1 => bd (s_X9_isWord I1 m "loom") fun z2 => if z2 = true then (bd (s_X9_goes I1 m) fun I4 => bd2 (s_X9_readNumber I4 m 2 8) fun v6 I5 => gd (vp_in 0 2030) <| lx (stI I5 (m + 1) (Int32.toNatClampNeg 0) v6) fun I8 => bd2 (s_X9_readNumber I8 m 1 200) fun v10 I9 => gd (vp_in 1 2030) <| lx (stI I9 (m + 1) (Int32.toNatClampNeg 1) v10) fun I12 => bd (s_X9_readsText_L50 m lf  I12) fun I16 => if (s_X9_is I16 m 1) = true then (gd (vp_in 2 2030) <| if (I16 (m + 1) (Int32.toNatClampNeg 2)) = 0 then (lx (s_X9_limits I16 m true) fun I22 => some I22) else (lx (s_X9_limits I16 m false) fun I21 => some I21)) else (lx (s_X9_faults I16 m 1) fun I23 => gd (vp_in 2 2030) <| if (I23 (m + 1) (Int32.toNatClampNeg 2)) = 0 then (lx (s_X9_limits I23 m true) fun I27 => some I27) else (lx (s_X9_limits I23 m false) fun I26 => some I26))) else (lx (s_X9_faults I1 m 1) fun I28 => bd (s_X9_goes I28 m) fun I29 => bd2 (s_X9_readNumber I29 m 2 8) fun v31 I30 => gd (vp_in 0 2030) <| lx (stI I30 (m + 1) (Int32.toNatClampNeg 0) v31) fun I33 => bd2 (s_X9_readNumber I33 m 1 200) fun v35 I34 => gd (vp_in 1 2030) <| lx (stI I34 (m + 1) (Int32.toNatClampNeg 1) v35) fun I37 => bd (s_X9_readsText_L50 m lf  I37) fun I38 => if (s_X9_is I38 m 1) = true then (gd (vp_in 2 2030) <| if (I38 (m + 1) (Int32.toNatClampNeg 2)) = 0 then (lx (s_X9_limits I38 m true) fun I44 => some I44) else (lx (s_X9_limits I38 m false) fun I43 => some I43)) else (lx (s_X9_faults I38 m 1) fun I45 => gd (vp_in 2 2030) <| if (I45 (m + 1) (Int32.toNatClampNeg 2)) = 0 then (lx (s_X9_limits I45 m true) fun I49 => some I49) else (lx (s_X9_limits I45 m false) fun I48 => some I48)))
set_option maxHeartbeats 4000000 in
theorem l_X9_readsText_L50 {Ω : JO} {S : JS} {Q : JQ} {m : Nat} (hm : Is9 S m) : ∀ (f : Nat) (I : JI) (o : (JI)), s_X9_readsText_L50 m f I = some o → True → (∀ (J : JI) , o = (J) → AA Ω m_X9_readsText (FQ Ω m_X9_readsText Q) 0 0 69 [(0, .ref m)] [] J S) → AA Ω m_X9_readsText (FQ Ω m_X9_readsText Q) 0 0 50 [(0, .ref m)] [] I S := by
  intro f
  induction f with
  | zero =>
    intro I o h hR hE
    rw [s_X9_readsText_L50] at h
    cases h
  | succ f ih =>
    intro I o h hR hE
    rw [s_X9_readsText_L50] at h
    refine r_aload_n (pc' := 51) dX9_readsText_50 rfl 0 rfl rfl ?_
    refine r_iconst (pc' := 52) (v := 4) dX9_readsText_51 (by decide) rfl ?_
    refine r_callV1 (pc' := 55) (k' := 0) (n' := 0) dX9_readsText_52 mb_X9_is mi_X9_is hm.o (by decide) rfl lk_X9_107 rfl rfl rfl (Nat.le_of_ble_eq_true rfl) rfl (c_X9_is hm rfl (cpI ?_))
    refine r_if_eq (tgt := 69) (pc' := 58) dX9_readsText_55 rfl rfl (fun h13 => ?_) (fun h13 => ?_)
    · have h := ifn (zb_n0 h13) h
      cases h
      exact hE _ rfl
    · have h := ifp (zb_p0 h13) h
      refine r_aload_n (pc' := 59) dX9_readsText_58 rfl 0 rfl rfl ?_
      obtain ⟨I14, eI14, h⟩ := bd_e h
      refine r_callV0 (pc' := 62) (k' := 0) (n' := 0) dX9_readsText_59 mb_X9_goes mi_X9_goes hm.o (by decide) rfl lk_X9_124 rfl rfl rfl (Nat.le_of_ble_eq_true rfl) rfl (c_X9_goes hm eI14 (cpV ?_))
      refine r_aload_n (pc' := 63) dX9_readsText_62 rfl 0 rfl rfl ?_
      obtain ⟨I15, eI15, h⟩ := bd_e h
      refine r_callV0 (pc' := 66) (k' := 0) (n' := 0) dX9_readsText_63 mb_X9_readsItem mi_X9_readsItem hm.o (by decide) rfl lk_X9_310 rfl rfl rfl (Nat.le_of_ble_eq_true rfl) rfl (c_X9_readsItem hm eI15 (cpV ?_))
      refine r_goto (tgt := 50) dX9_readsText_66 rfl ?_
      exact ih  _ _ h hR hE
set_option maxHeartbeats 4000000 in
theorem c_X9_readsText {Ω : JO} {I : JI} {S : JS} {Q : JQ} {m : Nat} {J : JI} (hm : Is9 S m) (h : s_X9_readsText I m = some J) (hQ : Q (.inl none) J S) : Call Ω m_X9_readsText [.ref m] I S Q := by
  refine call_of (by decide +kernel) rfl (Nat.le_of_ble_eq_true rfl) ?_
  change AA Ω m_X9_readsText (FQ Ω m_X9_readsText Q) 0 0 0 [(0, .ref m)] [] I S
  unfold s_X9_readsText at h
  refine r_aload_n (pc' := 1) dX9_readsText_0 rfl 0 rfl rfl ?_
  obtain ⟨I1, eI1, h⟩ := bd_e h
  refine r_callV0 (pc' := 4) (k' := 0) (n' := 0) dX9_readsText_1 mb_X9_goes mi_X9_goes hm.o (by decide) rfl lk_X9_124 rfl rfl rfl (Nat.le_of_ble_eq_true rfl) rfl (c_X9_goes hm eI1 (cpV ?_))
  refine r_aload_n (pc' := 5) dX9_readsText_4 rfl 0 rfl rfl ?_
  refine r_ldcSW (pc' := 8) (tx := "loom") dX9_readsText_5 sw_X9_308 rfl ?_
  obtain ⟨z2, ez2, h⟩ := bd_e h
  refine r_callV1 (pc' := 11) (k' := 0) (n' := 0) dX9_readsText_8 mb_X9_isWord mi_X9_isWord hm.o (by decide) rfl lk_X9_166 rfl rfl rfl (Nat.le_of_ble_eq_true rfl) rfl (c_X9_isWord hm sw_X9_308 ez2 (cpI ?_))
  refine r_if_ne (tgt := 19) (pc' := 14) dX9_readsText_11 rfl rfl (fun h3 => ?_) (fun h3 => ?_)
  · have h := ifp (zb_p0 h3) h
    refine r_aload_n (pc' := 20) dX9_readsText_19 rfl 0 rfl rfl ?_
    obtain ⟨I4, eI4, h⟩ := bd_e h
    refine r_callV0 (pc' := 23) (k' := 0) (n' := 0) dX9_readsText_20 mb_X9_goes mi_X9_goes hm.o (by decide) rfl lk_X9_124 rfl rfl rfl (Nat.le_of_ble_eq_true rfl) rfl (c_X9_goes hm eI4 (cpV ?_))
    refine r_aload_n (pc' := 24) dX9_readsText_23 rfl 0 rfl rfl ?_
    refine r_getO (pc' := 27) dX9_readsText_24 fa_X9_9 hm.o rfl hm.r1 rfl ?_
    refine r_iconst (pc' := 28) (v := 0) dX9_readsText_27 (by decide) rfl ?_
    refine r_aload_n (pc' := 29) dX9_readsText_28 rfl 0 rfl rfl ?_
    refine r_iconst (pc' := 30) (v := 2) dX9_readsText_29 (by decide) rfl ?_
    refine r_bipush (pc' := 32) (v := 8) dX9_readsText_30 (by decide) rfl ?_
    obtain ⟨v6, I5, ev6, h⟩ := bd2_e h
    refine r_callV2 (pc' := 35) (k' := 0) (n' := 0) dX9_readsText_32 mb_X9_readNumber mi_X9_readNumber hm.o (by decide) rfl lk_X9_174 rfl rfl rfl (Nat.le_of_ble_eq_true rfl) rfl (c_X9_readNumber hm ev6 (cpI ?_))
    obtain ⟨g7, h⟩ := gd_e h
    refine r_iastore (pc' := 36) dX9_readsText_35 hm.c1 g7 rfl ?_
    have h := lx_e h
    refine r_aload_n (pc' := 37) dX9_readsText_36 rfl 0 rfl rfl ?_
    refine r_getO (pc' := 40) dX9_readsText_37 fa_X9_9 hm.o rfl hm.r1 rfl ?_
    refine r_iconst (pc' := 41) (v := 1) dX9_readsText_40 (by decide) rfl ?_
    refine r_aload_n (pc' := 42) dX9_readsText_41 rfl 0 rfl rfl ?_
    refine r_iconst (pc' := 43) (v := 1) dX9_readsText_42 (by decide) rfl ?_
    refine r_sipush (pc' := 46) (v := 200) dX9_readsText_43 (by decide) rfl ?_
    obtain ⟨v10, I9, ev10, h⟩ := bd2_e h
    refine r_callV2 (pc' := 49) (k' := 0) (n' := 0) dX9_readsText_46 mb_X9_readNumber mi_X9_readNumber hm.o (by decide) rfl lk_X9_174 rfl rfl rfl (Nat.le_of_ble_eq_true rfl) rfl (c_X9_readNumber hm ev10 (cpI ?_))
    obtain ⟨g11, h⟩ := gd_e h
    refine r_iastore (pc' := 50) dX9_readsText_49 hm.c1 g11 rfl ?_
    have h := lx_e h
    obtain ⟨o17, eo17, h⟩ := bd_e h
    refine l_X9_readsText_L50 (Ω := Ω) hm _ _ _ eo17 trivial (fun I16 q => ?_)
    subst q
    refine r_aload_n (pc' := 70) dX9_readsText_69 rfl 0 rfl rfl ?_
    refine r_iconst (pc' := 71) (v := 1) dX9_readsText_70 (by decide) rfl ?_
    refine r_callV1 (pc' := 74) (k' := 0) (n' := 0) dX9_readsText_71 mb_X9_is mi_X9_is hm.o (by decide) rfl lk_X9_107 rfl rfl rfl (Nat.le_of_ble_eq_true rfl) rfl (c_X9_is hm rfl (cpI ?_))
    refine r_if_ne (tgt := 82) (pc' := 77) dX9_readsText_74 rfl rfl (fun h18 => ?_) (fun h18 => ?_)
    · have h := ifp (zb_p0 h18) h
      refine r_aload_n (pc' := 83) dX9_readsText_82 rfl 0 rfl rfl ?_
      refine r_aload_n (pc' := 84) dX9_readsText_83 rfl 0 rfl rfl ?_
      refine r_getO (pc' := 87) dX9_readsText_84 fa_X9_9 hm.o rfl hm.r1 rfl ?_
      refine r_iconst (pc' := 88) (v := 2) dX9_readsText_87 (by decide) rfl ?_
      obtain ⟨g19, h⟩ := gd_e h
      refine r_iaload (pc' := 89) dX9_readsText_88 hm.c1 g19 rfl ?_
      refine r_if_ne (tgt := 96) (pc' := 92) dX9_readsText_89 rfl rfl (fun h20 => ?_) (fun h20 => ?_)
      · have h := ifn h20 h
        refine r_iconst (pc' := 97) (v := 0) dX9_readsText_96 (by decide) rfl ?_
        refine r_callV1 (pc' := 100) (k' := 0) (n' := 0) dX9_readsText_97 mb_X9_limits mi_X9_limits hm.o (by decide) rfl lk_X9_130 rfl rfl rfl (Nat.le_of_ble_eq_true rfl) rfl (c_X9_limits (b1 := false) hm rfl (cpV ?_))
        have h := lx_e h
        cases h
        exact r_ret dX9_readsText_100 rfl (by decide) (by decide) hQ
      · have h := ifp h20 h
        refine r_iconst (pc' := 93) (v := 1) dX9_readsText_92 (by decide) rfl ?_
        refine r_goto (tgt := 97) dX9_readsText_93 rfl ?_
        refine r_callV1 (pc' := 100) (k' := 0) (n' := 0) dX9_readsText_97 mb_X9_limits mi_X9_limits hm.o (by decide) rfl lk_X9_130 rfl rfl rfl (Nat.le_of_ble_eq_true rfl) rfl (c_X9_limits (b1 := true) hm rfl (cpV ?_))
        have h := lx_e h
        cases h
        exact r_ret dX9_readsText_100 rfl (by decide) (by decide) hQ
    · have h := ifn (zb_n0 h18) h
      refine r_aload_n (pc' := 78) dX9_readsText_77 rfl 0 rfl rfl ?_
      refine r_iconst (pc' := 79) (v := 1) dX9_readsText_78 (by decide) rfl ?_
      refine r_callV1 (pc' := 82) (k' := 0) (n' := 0) dX9_readsText_79 mb_X9_faults mi_X9_faults hm.o (by decide) rfl lk_X9_104 rfl rfl rfl (Nat.le_of_ble_eq_true rfl) rfl (c_X9_faults hm rfl (cpV ?_))
      have h := lx_e h
      refine r_aload_n (pc' := 83) dX9_readsText_82 rfl 0 rfl rfl ?_
      refine r_aload_n (pc' := 84) dX9_readsText_83 rfl 0 rfl rfl ?_
      refine r_getO (pc' := 87) dX9_readsText_84 fa_X9_9 hm.o rfl hm.r1 rfl ?_
      refine r_iconst (pc' := 88) (v := 2) dX9_readsText_87 (by decide) rfl ?_
      obtain ⟨g24, h⟩ := gd_e h
      refine r_iaload (pc' := 89) dX9_readsText_88 hm.c1 g24 rfl ?_
      refine r_if_ne (tgt := 96) (pc' := 92) dX9_readsText_89 rfl rfl (fun h25 => ?_) (fun h25 => ?_)
      · have h := ifn h25 h
        refine r_iconst (pc' := 97) (v := 0) dX9_readsText_96 (by decide) rfl ?_
        refine r_callV1 (pc' := 100) (k' := 0) (n' := 0) dX9_readsText_97 mb_X9_limits mi_X9_limits hm.o (by decide) rfl lk_X9_130 rfl rfl rfl (Nat.le_of_ble_eq_true rfl) rfl (c_X9_limits (b1 := false) hm rfl (cpV ?_))
        have h := lx_e h
        cases h
        exact r_ret dX9_readsText_100 rfl (by decide) (by decide) hQ
      · have h := ifp h25 h
        refine r_iconst (pc' := 93) (v := 1) dX9_readsText_92 (by decide) rfl ?_
        refine r_goto (tgt := 97) dX9_readsText_93 rfl ?_
        refine r_callV1 (pc' := 100) (k' := 0) (n' := 0) dX9_readsText_97 mb_X9_limits mi_X9_limits hm.o (by decide) rfl lk_X9_130 rfl rfl rfl (Nat.le_of_ble_eq_true rfl) rfl (c_X9_limits (b1 := true) hm rfl (cpV ?_))
        have h := lx_e h
        cases h
        exact r_ret dX9_readsText_100 rfl (by decide) (by decide) hQ
  · have h := ifn (zb_n0 h3) h
    refine r_aload_n (pc' := 15) dX9_readsText_14 rfl 0 rfl rfl ?_
    refine r_iconst (pc' := 16) (v := 1) dX9_readsText_15 (by decide) rfl ?_
    refine r_callV1 (pc' := 19) (k' := 0) (n' := 0) dX9_readsText_16 mb_X9_faults mi_X9_faults hm.o (by decide) rfl lk_X9_104 rfl rfl rfl (Nat.le_of_ble_eq_true rfl) rfl (c_X9_faults hm rfl (cpV ?_))
    have h := lx_e h
    refine r_aload_n (pc' := 20) dX9_readsText_19 rfl 0 rfl rfl ?_
    obtain ⟨I29, eI29, h⟩ := bd_e h
    refine r_callV0 (pc' := 23) (k' := 0) (n' := 0) dX9_readsText_20 mb_X9_goes mi_X9_goes hm.o (by decide) rfl lk_X9_124 rfl rfl rfl (Nat.le_of_ble_eq_true rfl) rfl (c_X9_goes hm eI29 (cpV ?_))
    refine r_aload_n (pc' := 24) dX9_readsText_23 rfl 0 rfl rfl ?_
    refine r_getO (pc' := 27) dX9_readsText_24 fa_X9_9 hm.o rfl hm.r1 rfl ?_
    refine r_iconst (pc' := 28) (v := 0) dX9_readsText_27 (by decide) rfl ?_
    refine r_aload_n (pc' := 29) dX9_readsText_28 rfl 0 rfl rfl ?_
    refine r_iconst (pc' := 30) (v := 2) dX9_readsText_29 (by decide) rfl ?_
    refine r_bipush (pc' := 32) (v := 8) dX9_readsText_30 (by decide) rfl ?_
    obtain ⟨v31, I30, ev31, h⟩ := bd2_e h
    refine r_callV2 (pc' := 35) (k' := 0) (n' := 0) dX9_readsText_32 mb_X9_readNumber mi_X9_readNumber hm.o (by decide) rfl lk_X9_174 rfl rfl rfl (Nat.le_of_ble_eq_true rfl) rfl (c_X9_readNumber hm ev31 (cpI ?_))
    obtain ⟨g32, h⟩ := gd_e h
    refine r_iastore (pc' := 36) dX9_readsText_35 hm.c1 g32 rfl ?_
    have h := lx_e h
    refine r_aload_n (pc' := 37) dX9_readsText_36 rfl 0 rfl rfl ?_
    refine r_getO (pc' := 40) dX9_readsText_37 fa_X9_9 hm.o rfl hm.r1 rfl ?_
    refine r_iconst (pc' := 41) (v := 1) dX9_readsText_40 (by decide) rfl ?_
    refine r_aload_n (pc' := 42) dX9_readsText_41 rfl 0 rfl rfl ?_
    refine r_iconst (pc' := 43) (v := 1) dX9_readsText_42 (by decide) rfl ?_
    refine r_sipush (pc' := 46) (v := 200) dX9_readsText_43 (by decide) rfl ?_
    obtain ⟨v35, I34, ev35, h⟩ := bd2_e h
    refine r_callV2 (pc' := 49) (k' := 0) (n' := 0) dX9_readsText_46 mb_X9_readNumber mi_X9_readNumber hm.o (by decide) rfl lk_X9_174 rfl rfl rfl (Nat.le_of_ble_eq_true rfl) rfl (c_X9_readNumber hm ev35 (cpI ?_))
    obtain ⟨g36, h⟩ := gd_e h
    refine r_iastore (pc' := 50) dX9_readsText_49 hm.c1 g36 rfl ?_
    have h := lx_e h
    obtain ⟨o39, eo39, h⟩ := bd_e h
    refine l_X9_readsText_L50 (Ω := Ω) hm _ _ _ eo39 trivial (fun I38 q => ?_)
    subst q
    refine r_aload_n (pc' := 70) dX9_readsText_69 rfl 0 rfl rfl ?_
    refine r_iconst (pc' := 71) (v := 1) dX9_readsText_70 (by decide) rfl ?_
    refine r_callV1 (pc' := 74) (k' := 0) (n' := 0) dX9_readsText_71 mb_X9_is mi_X9_is hm.o (by decide) rfl lk_X9_107 rfl rfl rfl (Nat.le_of_ble_eq_true rfl) rfl (c_X9_is hm rfl (cpI ?_))
    refine r_if_ne (tgt := 82) (pc' := 77) dX9_readsText_74 rfl rfl (fun h40 => ?_) (fun h40 => ?_)
    · have h := ifp (zb_p0 h40) h
      refine r_aload_n (pc' := 83) dX9_readsText_82 rfl 0 rfl rfl ?_
      refine r_aload_n (pc' := 84) dX9_readsText_83 rfl 0 rfl rfl ?_
      refine r_getO (pc' := 87) dX9_readsText_84 fa_X9_9 hm.o rfl hm.r1 rfl ?_
      refine r_iconst (pc' := 88) (v := 2) dX9_readsText_87 (by decide) rfl ?_
      obtain ⟨g41, h⟩ := gd_e h
      refine r_iaload (pc' := 89) dX9_readsText_88 hm.c1 g41 rfl ?_
      refine r_if_ne (tgt := 96) (pc' := 92) dX9_readsText_89 rfl rfl (fun h42 => ?_) (fun h42 => ?_)
      · have h := ifn h42 h
        refine r_iconst (pc' := 97) (v := 0) dX9_readsText_96 (by decide) rfl ?_
        refine r_callV1 (pc' := 100) (k' := 0) (n' := 0) dX9_readsText_97 mb_X9_limits mi_X9_limits hm.o (by decide) rfl lk_X9_130 rfl rfl rfl (Nat.le_of_ble_eq_true rfl) rfl (c_X9_limits (b1 := false) hm rfl (cpV ?_))
        have h := lx_e h
        cases h
        exact r_ret dX9_readsText_100 rfl (by decide) (by decide) hQ
      · have h := ifp h42 h
        refine r_iconst (pc' := 93) (v := 1) dX9_readsText_92 (by decide) rfl ?_
        refine r_goto (tgt := 97) dX9_readsText_93 rfl ?_
        refine r_callV1 (pc' := 100) (k' := 0) (n' := 0) dX9_readsText_97 mb_X9_limits mi_X9_limits hm.o (by decide) rfl lk_X9_130 rfl rfl rfl (Nat.le_of_ble_eq_true rfl) rfl (c_X9_limits (b1 := true) hm rfl (cpV ?_))
        have h := lx_e h
        cases h
        exact r_ret dX9_readsText_100 rfl (by decide) (by decide) hQ
    · have h := ifn (zb_n0 h40) h
      refine r_aload_n (pc' := 78) dX9_readsText_77 rfl 0 rfl rfl ?_
      refine r_iconst (pc' := 79) (v := 1) dX9_readsText_78 (by decide) rfl ?_
      refine r_callV1 (pc' := 82) (k' := 0) (n' := 0) dX9_readsText_79 mb_X9_faults mi_X9_faults hm.o (by decide) rfl lk_X9_104 rfl rfl rfl (Nat.le_of_ble_eq_true rfl) rfl (c_X9_faults hm rfl (cpV ?_))
      have h := lx_e h
      refine r_aload_n (pc' := 83) dX9_readsText_82 rfl 0 rfl rfl ?_
      refine r_aload_n (pc' := 84) dX9_readsText_83 rfl 0 rfl rfl ?_
      refine r_getO (pc' := 87) dX9_readsText_84 fa_X9_9 hm.o rfl hm.r1 rfl ?_
      refine r_iconst (pc' := 88) (v := 2) dX9_readsText_87 (by decide) rfl ?_
      obtain ⟨g46, h⟩ := gd_e h
      refine r_iaload (pc' := 89) dX9_readsText_88 hm.c1 g46 rfl ?_
      refine r_if_ne (tgt := 96) (pc' := 92) dX9_readsText_89 rfl rfl (fun h47 => ?_) (fun h47 => ?_)
      · have h := ifn h47 h
        refine r_iconst (pc' := 97) (v := 0) dX9_readsText_96 (by decide) rfl ?_
        refine r_callV1 (pc' := 100) (k' := 0) (n' := 0) dX9_readsText_97 mb_X9_limits mi_X9_limits hm.o (by decide) rfl lk_X9_130 rfl rfl rfl (Nat.le_of_ble_eq_true rfl) rfl (c_X9_limits (b1 := false) hm rfl (cpV ?_))
        have h := lx_e h
        cases h
        exact r_ret dX9_readsText_100 rfl (by decide) (by decide) hQ
      · have h := ifp h47 h
        refine r_iconst (pc' := 93) (v := 1) dX9_readsText_92 (by decide) rfl ?_
        refine r_goto (tgt := 97) dX9_readsText_93 rfl ?_
        refine r_callV1 (pc' := 100) (k' := 0) (n' := 0) dX9_readsText_97 mb_X9_limits mi_X9_limits hm.o (by decide) rfl lk_X9_130 rfl rfl rfl (Nat.le_of_ble_eq_true rfl) rfl (c_X9_limits (b1 := true) hm rfl (cpV ?_))
        have h := lx_e h
        cases h
        exact r_ret dX9_readsText_100 rfl (by decide) (by decide) hQ
theorem frl_X9_readsText_L50 {m : Nat} {z : Nat} (hz_m1 : z ≠ (m + 1)) (hz_m7 : z ≠ (m + 7)) (hz_m8 : z ≠ (m + 8)) (hz_m9 : z ≠ (m + 9)) (hz_m : z ≠ m) : ∀ (f : Nat) (I : JI) (o : (JI)), s_X9_readsText_L50 m f I = some o → (∀ (J : JI), o = (J) → J z = I z) := by
  intro f
  induction f with
  | zero =>
    intro I o h
    rw [s_X9_readsText_L50] at h
    cases h
  | succ f ih =>
    intro I o h
    rw [s_X9_readsText_L50] at h
    rcases if_e h with h | h
    · obtain ⟨I14, e1, h⟩ := bd_e h
      obtain ⟨I15, e2, h⟩ := bd_e h
      intro _ q
      exact ((ih  _ _ h) _ q).trans ((fr_X9_readsItem e2 (by omega) (by omega) (by omega) (by omega) (by omega)).trans ((fr_X9_goes e1 (by omega)).trans rfl))
    · cases h
      intro _ q
      cases q
      exact rfl
set_option maxHeartbeats 4000000 in
theorem fr_X9_readsText {I : JI} {m : Nat} {J : JI} {z : Nat} (h : s_X9_readsText I m = some J) (hz_m1 : z ≠ (m + 1)) (hz_m7 : z ≠ (m + 7)) (hz_m8 : z ≠ (m + 8)) (hz_m9 : z ≠ (m + 9)) (hz_m : z ≠ m) : J z = I z := by
  unfold s_X9_readsText at h
  obtain ⟨I1, e1, h⟩ := bd_e h
  obtain ⟨o2, e2, h⟩ := bd_e h
  rcases if_e h with h | h
  · obtain ⟨I4, e3, h⟩ := bd_e h
    obtain ⟨v6, I5, e4, h⟩ := bd2_e h
    obtain ⟨g5, h⟩ := gd_e h
    have h := lx_e h
    obtain ⟨v10, I9, e6, h⟩ := bd2_e h
    obtain ⟨g7, h⟩ := gd_e h
    have h := lx_e h
    obtain ⟨I16, e8, h⟩ := bd_e h
    rcases if_e h with h | h
    · obtain ⟨g9, h⟩ := gd_e h
      rcases if_e h with h | h
      · have h := lx_e h
        cases h
        exact ((fr_X9_limits (by omega)).trans (((frl_X9_readsText_L50 hz_m1 hz_m7 hz_m8 hz_m9 hz_m _  _ _ e8) _ rfl).trans ((fr_stI (by omega)).trans ((fr_X9_readNumber e6 (by omega)).trans ((fr_stI (by omega)).trans ((fr_X9_readNumber e4 (by omega)).trans ((fr_X9_goes e3 (by omega)).trans ((fr_X9_goes e1 (by omega)).trans rfl))))))))
      · have h := lx_e h
        cases h
        exact ((fr_X9_limits (by omega)).trans (((frl_X9_readsText_L50 hz_m1 hz_m7 hz_m8 hz_m9 hz_m _  _ _ e8) _ rfl).trans ((fr_stI (by omega)).trans ((fr_X9_readNumber e6 (by omega)).trans ((fr_stI (by omega)).trans ((fr_X9_readNumber e4 (by omega)).trans ((fr_X9_goes e3 (by omega)).trans ((fr_X9_goes e1 (by omega)).trans rfl))))))))
    · have h := lx_e h
      obtain ⟨g10, h⟩ := gd_e h
      rcases if_e h with h | h
      · have h := lx_e h
        cases h
        exact ((fr_X9_limits (by omega)).trans ((fr_X9_faults (by omega)).trans (((frl_X9_readsText_L50 hz_m1 hz_m7 hz_m8 hz_m9 hz_m _  _ _ e8) _ rfl).trans ((fr_stI (by omega)).trans ((fr_X9_readNumber e6 (by omega)).trans ((fr_stI (by omega)).trans ((fr_X9_readNumber e4 (by omega)).trans ((fr_X9_goes e3 (by omega)).trans ((fr_X9_goes e1 (by omega)).trans rfl)))))))))
      · have h := lx_e h
        cases h
        exact ((fr_X9_limits (by omega)).trans ((fr_X9_faults (by omega)).trans (((frl_X9_readsText_L50 hz_m1 hz_m7 hz_m8 hz_m9 hz_m _  _ _ e8) _ rfl).trans ((fr_stI (by omega)).trans ((fr_X9_readNumber e6 (by omega)).trans ((fr_stI (by omega)).trans ((fr_X9_readNumber e4 (by omega)).trans ((fr_X9_goes e3 (by omega)).trans ((fr_X9_goes e1 (by omega)).trans rfl)))))))))
  · have h := lx_e h
    obtain ⟨I29, e11, h⟩ := bd_e h
    obtain ⟨v31, I30, e12, h⟩ := bd2_e h
    obtain ⟨g13, h⟩ := gd_e h
    have h := lx_e h
    obtain ⟨v35, I34, e14, h⟩ := bd2_e h
    obtain ⟨g15, h⟩ := gd_e h
    have h := lx_e h
    obtain ⟨I38, e16, h⟩ := bd_e h
    rcases if_e h with h | h
    · obtain ⟨g17, h⟩ := gd_e h
      rcases if_e h with h | h
      · have h := lx_e h
        cases h
        exact ((fr_X9_limits (by omega)).trans (((frl_X9_readsText_L50 hz_m1 hz_m7 hz_m8 hz_m9 hz_m _  _ _ e16) _ rfl).trans ((fr_stI (by omega)).trans ((fr_X9_readNumber e14 (by omega)).trans ((fr_stI (by omega)).trans ((fr_X9_readNumber e12 (by omega)).trans ((fr_X9_goes e11 (by omega)).trans ((fr_X9_faults (by omega)).trans ((fr_X9_goes e1 (by omega)).trans rfl)))))))))
      · have h := lx_e h
        cases h
        exact ((fr_X9_limits (by omega)).trans (((frl_X9_readsText_L50 hz_m1 hz_m7 hz_m8 hz_m9 hz_m _  _ _ e16) _ rfl).trans ((fr_stI (by omega)).trans ((fr_X9_readNumber e14 (by omega)).trans ((fr_stI (by omega)).trans ((fr_X9_readNumber e12 (by omega)).trans ((fr_X9_goes e11 (by omega)).trans ((fr_X9_faults (by omega)).trans ((fr_X9_goes e1 (by omega)).trans rfl)))))))))
    · have h := lx_e h
      obtain ⟨g18, h⟩ := gd_e h
      rcases if_e h with h | h
      · have h := lx_e h
        cases h
        exact ((fr_X9_limits (by omega)).trans ((fr_X9_faults (by omega)).trans (((frl_X9_readsText_L50 hz_m1 hz_m7 hz_m8 hz_m9 hz_m _  _ _ e16) _ rfl).trans ((fr_stI (by omega)).trans ((fr_X9_readNumber e14 (by omega)).trans ((fr_stI (by omega)).trans ((fr_X9_readNumber e12 (by omega)).trans ((fr_X9_goes e11 (by omega)).trans ((fr_X9_faults (by omega)).trans ((fr_X9_goes e1 (by omega)).trans rfl))))))))))
      · have h := lx_e h
        cases h
        exact ((fr_X9_limits (by omega)).trans ((fr_X9_faults (by omega)).trans (((frl_X9_readsText_L50 hz_m1 hz_m7 hz_m8 hz_m9 hz_m _  _ _ e16) _ rfl).trans ((fr_stI (by omega)).trans ((fr_X9_readNumber e14 (by omega)).trans ((fr_stI (by omega)).trans ((fr_X9_readNumber e12 (by omega)).trans ((fr_X9_goes e11 (by omega)).trans ((fr_X9_faults (by omega)).trans ((fr_X9_goes e1 (by omega)).trans rfl))))))))))
theorem ffl_X9_readsText_L50 {m : Nat} {k : Nat} (hk10 : k ≠ 10) (hk11 : k ≠ 11) (hk13 : k ≠ 13) (hk14 : k ≠ 14) (hk15 : k ≠ 15) (hk16 : k ≠ 16) (hk20 : k ≠ 20) : ∀ (f : Nat) (I : JI) (o : (JI)), s_X9_readsText_L50 m f I = some o → (∀ (J : JI), o = (J) → J m k = I m k) := by
  intro f
  induction f with
  | zero =>
    intro I o h
    rw [s_X9_readsText_L50] at h
    cases h
  | succ f ih =>
    intro I o h
    rw [s_X9_readsText_L50] at h
    rcases if_e h with h | h
    · obtain ⟨I14, e1, h⟩ := bd_e h
      obtain ⟨I15, e2, h⟩ := bd_e h
      intro _ q
      exact ((ih  _ _ h) _ q).trans ((ff_X9_readsItem e2 hk10 hk11 hk13 hk14 hk15 hk16 hk20).trans ((ff_X9_goes e1 hk13 hk14 hk15 hk16).trans rfl))
    · cases h
      intro _ q
      cases q
      exact rfl
set_option maxHeartbeats 4000000 in
theorem ff_X9_readsText {I : JI} {m : Nat} {J : JI} {k : Nat} (h : s_X9_readsText I m = some J) (hk10 : k ≠ 10) (hk11 : k ≠ 11) (hk13 : k ≠ 13) (hk14 : k ≠ 14) (hk15 : k ≠ 15) (hk16 : k ≠ 16) (hk20 : k ≠ 20) : J m k = I m k := by
  unfold s_X9_readsText at h
  obtain ⟨I1, e1, h⟩ := bd_e h
  obtain ⟨o2, e2, h⟩ := bd_e h
  rcases if_e h with h | h
  · obtain ⟨I4, e3, h⟩ := bd_e h
    obtain ⟨v6, I5, e4, h⟩ := bd2_e h
    obtain ⟨g5, h⟩ := gd_e h
    have h := lx_e h
    obtain ⟨v10, I9, e6, h⟩ := bd2_e h
    obtain ⟨g7, h⟩ := gd_e h
    have h := lx_e h
    obtain ⟨I16, e8, h⟩ := bd_e h
    rcases if_e h with h | h
    · obtain ⟨g9, h⟩ := gd_e h
      rcases if_e h with h | h
      · have h := lx_e h
        cases h
        exact ((ff_X9_limits hk10 hk11).trans (((ffl_X9_readsText_L50 hk10 hk11 hk13 hk14 hk15 hk16 hk20 _  _ _ e8) _ rfl).trans ((congrFun (fr_stI (by omega)) k).trans ((ff_X9_readNumber e6 hk10 hk11 hk13 hk14 hk15 hk16).trans ((congrFun (fr_stI (by omega)) k).trans ((ff_X9_readNumber e4 hk10 hk11 hk13 hk14 hk15 hk16).trans ((ff_X9_goes e3 hk13 hk14 hk15 hk16).trans ((ff_X9_goes e1 hk13 hk14 hk15 hk16).trans rfl))))))))
      · have h := lx_e h
        cases h
        exact ((ff_X9_limits hk10 hk11).trans (((ffl_X9_readsText_L50 hk10 hk11 hk13 hk14 hk15 hk16 hk20 _  _ _ e8) _ rfl).trans ((congrFun (fr_stI (by omega)) k).trans ((ff_X9_readNumber e6 hk10 hk11 hk13 hk14 hk15 hk16).trans ((congrFun (fr_stI (by omega)) k).trans ((ff_X9_readNumber e4 hk10 hk11 hk13 hk14 hk15 hk16).trans ((ff_X9_goes e3 hk13 hk14 hk15 hk16).trans ((ff_X9_goes e1 hk13 hk14 hk15 hk16).trans rfl))))))))
    · have h := lx_e h
      obtain ⟨g10, h⟩ := gd_e h
      rcases if_e h with h | h
      · have h := lx_e h
        cases h
        exact ((ff_X9_limits hk10 hk11).trans ((ff_X9_faults hk10 hk11).trans (((ffl_X9_readsText_L50 hk10 hk11 hk13 hk14 hk15 hk16 hk20 _  _ _ e8) _ rfl).trans ((congrFun (fr_stI (by omega)) k).trans ((ff_X9_readNumber e6 hk10 hk11 hk13 hk14 hk15 hk16).trans ((congrFun (fr_stI (by omega)) k).trans ((ff_X9_readNumber e4 hk10 hk11 hk13 hk14 hk15 hk16).trans ((ff_X9_goes e3 hk13 hk14 hk15 hk16).trans ((ff_X9_goes e1 hk13 hk14 hk15 hk16).trans rfl)))))))))
      · have h := lx_e h
        cases h
        exact ((ff_X9_limits hk10 hk11).trans ((ff_X9_faults hk10 hk11).trans (((ffl_X9_readsText_L50 hk10 hk11 hk13 hk14 hk15 hk16 hk20 _  _ _ e8) _ rfl).trans ((congrFun (fr_stI (by omega)) k).trans ((ff_X9_readNumber e6 hk10 hk11 hk13 hk14 hk15 hk16).trans ((congrFun (fr_stI (by omega)) k).trans ((ff_X9_readNumber e4 hk10 hk11 hk13 hk14 hk15 hk16).trans ((ff_X9_goes e3 hk13 hk14 hk15 hk16).trans ((ff_X9_goes e1 hk13 hk14 hk15 hk16).trans rfl)))))))))
  · have h := lx_e h
    obtain ⟨I29, e11, h⟩ := bd_e h
    obtain ⟨v31, I30, e12, h⟩ := bd2_e h
    obtain ⟨g13, h⟩ := gd_e h
    have h := lx_e h
    obtain ⟨v35, I34, e14, h⟩ := bd2_e h
    obtain ⟨g15, h⟩ := gd_e h
    have h := lx_e h
    obtain ⟨I38, e16, h⟩ := bd_e h
    rcases if_e h with h | h
    · obtain ⟨g17, h⟩ := gd_e h
      rcases if_e h with h | h
      · have h := lx_e h
        cases h
        exact ((ff_X9_limits hk10 hk11).trans (((ffl_X9_readsText_L50 hk10 hk11 hk13 hk14 hk15 hk16 hk20 _  _ _ e16) _ rfl).trans ((congrFun (fr_stI (by omega)) k).trans ((ff_X9_readNumber e14 hk10 hk11 hk13 hk14 hk15 hk16).trans ((congrFun (fr_stI (by omega)) k).trans ((ff_X9_readNumber e12 hk10 hk11 hk13 hk14 hk15 hk16).trans ((ff_X9_goes e11 hk13 hk14 hk15 hk16).trans ((ff_X9_faults hk10 hk11).trans ((ff_X9_goes e1 hk13 hk14 hk15 hk16).trans rfl)))))))))
      · have h := lx_e h
        cases h
        exact ((ff_X9_limits hk10 hk11).trans (((ffl_X9_readsText_L50 hk10 hk11 hk13 hk14 hk15 hk16 hk20 _  _ _ e16) _ rfl).trans ((congrFun (fr_stI (by omega)) k).trans ((ff_X9_readNumber e14 hk10 hk11 hk13 hk14 hk15 hk16).trans ((congrFun (fr_stI (by omega)) k).trans ((ff_X9_readNumber e12 hk10 hk11 hk13 hk14 hk15 hk16).trans ((ff_X9_goes e11 hk13 hk14 hk15 hk16).trans ((ff_X9_faults hk10 hk11).trans ((ff_X9_goes e1 hk13 hk14 hk15 hk16).trans rfl)))))))))
    · have h := lx_e h
      obtain ⟨g18, h⟩ := gd_e h
      rcases if_e h with h | h
      · have h := lx_e h
        cases h
        exact ((ff_X9_limits hk10 hk11).trans ((ff_X9_faults hk10 hk11).trans (((ffl_X9_readsText_L50 hk10 hk11 hk13 hk14 hk15 hk16 hk20 _  _ _ e16) _ rfl).trans ((congrFun (fr_stI (by omega)) k).trans ((ff_X9_readNumber e14 hk10 hk11 hk13 hk14 hk15 hk16).trans ((congrFun (fr_stI (by omega)) k).trans ((ff_X9_readNumber e12 hk10 hk11 hk13 hk14 hk15 hk16).trans ((ff_X9_goes e11 hk13 hk14 hk15 hk16).trans ((ff_X9_faults hk10 hk11).trans ((ff_X9_goes e1 hk13 hk14 hk15 hk16).trans rfl))))))))))
      · have h := lx_e h
        cases h
        exact ((ff_X9_limits hk10 hk11).trans ((ff_X9_faults hk10 hk11).trans (((ffl_X9_readsText_L50 hk10 hk11 hk13 hk14 hk15 hk16 hk20 _  _ _ e16) _ rfl).trans ((congrFun (fr_stI (by omega)) k).trans ((ff_X9_readNumber e14 hk10 hk11 hk13 hk14 hk15 hk16).trans ((congrFun (fr_stI (by omega)) k).trans ((ff_X9_readNumber e12 hk10 hk11 hk13 hk14 hk15 hk16).trans ((ff_X9_goes e11 hk13 hk14 hk15 hk16).trans ((ff_X9_faults hk10 hk11).trans ((ff_X9_goes e1 hk13 hk14 hk15 hk16).trans rfl))))))))))
noncomputable def s_X9_parseSetup_L51 (m : Nat) (q1 : Int32) : Nat → Int32 → JI → Option (Int32 × JI)
  | 0, _, _ => none
  | f + 1, w2, I => if 2030 ≤ w2 then (some (w2, I)) else (gd (vp_in w2 2030) <| lx (stI I (m + 1) (Int32.toNatClampNeg w2) 0) fun I12 => s_X9_parseSetup_L51 m q1 f (w2 + 1) I12)
noncomputable def s_X9_parseSetup (I : JI) (m : Nat) (x1 : Int32) : Option (Int32 × JI) :=
  bd2 (s_X9_may I m (s_X9_in x1 0 (I m 9)) true true) fun z2 I1 => if z2 = true then (lx (stI I1 m 12 x1) fun I4 => lx (stI I4 m 13 0) fun I5 => lx (stI I5 m 9 0) fun I6 => lx (stI I6 m 10 0) fun I7 => lx (stI I7 m 11 (-1)) fun I8 => bd (s_X9_thinks I8 m) fun I9 => bd (s_X9_parseSetup_L51 m x1 lf 0 I9) fun (y13, I14) => gd (vp_in 12 2030) <| lx (stI I14 (m + 1) (Int32.toNatClampNeg 12) 24) fun I17 => bd (s_X9_readsText I17 m) fun I18 => if (I18 m 10) ≤ 0 then (lx (stI I18 m 6 1) fun I20 => lx (stI I20 m 7 0) fun I21 => gd (vp_in 0 2) <| lx (stI I21 (m + 5) (Int32.toNatClampNeg 0) (vp_nar .boolean 0)) fun I23 => gd (vp_in 1 2) <| lx (stI I23 (m + 5) (Int32.toNatClampNeg 1) (vp_nar .boolean 0)) fun I25 => gd (vp_in 4 2030) <| some ((I25 (m + 1) (Int32.toNatClampNeg 4)), I25)) else (lx (stI I18 m 0 2) fun I27 => bd2 (s_X9_back I27 m 0) fun v29 I28 => some (v29, I28))) else (some (0, I1))
set_option maxHeartbeats 4000000 in
theorem l_X9_parseSetup_L51 {Ω : JO} {S : JS} {Q : JQ} {m : Nat} {q1 : Int32} (hm : Is9 S m) : ∀ (f : Nat) (w2 : Int32) (I : JI) (o : (Int32 × JI)), s_X9_parseSetup_L51 m q1 f w2 I = some o → True → (∀ (y2 : Int32) (J : JI) , o = (y2, J) → AA Ω m_X9_parseSetup (FQ Ω m_X9_parseSetup Q) 0 0 71 [(2, .int y2), (0, .ref m), (1, .int q1)] [] J S) → AA Ω m_X9_parseSetup (FQ Ω m_X9_parseSetup Q) 0 0 51 [(2, .int w2), (0, .ref m), (1, .int q1)] [] I S := by
  intro f
  induction f with
  | zero =>
    intro w2 I o h hR hE
    rw [s_X9_parseSetup_L51] at h
    cases h
  | succ f ih =>
    intro w2 I o h hR hE
    rw [s_X9_parseSetup_L51] at h
    refine r_iload_n (pc' := 52) dX9_parseSetup_51 rfl 0 rfl rfl ?_
    refine r_sipush (pc' := 55) (v := 2030) dX9_parseSetup_52 (by decide) rfl ?_
    refine r_icmp_ge (tgt := 71) (pc' := 58) dX9_parseSetup_55 rfl rfl (fun h10 => ?_) (fun h10 => ?_)
    · have h := ifp h10 h
      cases h
      exact hE _ _ rfl
    · have h := ifn h10 h
      refine r_aload_n (pc' := 59) dX9_parseSetup_58 rfl 1 rfl rfl ?_
      refine r_getO (pc' := 62) dX9_parseSetup_59 fa_X9_9 hm.o rfl hm.r1 rfl ?_
      refine r_iload_n (pc' := 63) dX9_parseSetup_62 rfl 0 rfl rfl ?_
      refine r_iconst (pc' := 64) (v := 0) dX9_parseSetup_63 (by decide) rfl ?_
      obtain ⟨g11, h⟩ := gd_e h
      refine r_iastore (pc' := 65) dX9_parseSetup_64 hm.c1 g11 rfl ?_
      have h := lx_e h
      refine r_iinc (pc' := 68) (v := _ + 1) (lv' := [(2, _), (0, _), (1, _)]) dX9_parseSetup_65 0 rfl rfl (by decide) rfl rfl ?_
      refine r_goto (tgt := 51) dX9_parseSetup_68 rfl ?_
      exact ih _ _ _ h hR hE
set_option maxHeartbeats 4000000 in
theorem c_X9_parseSetup {Ω : JO} {I : JI} {S : JS} {Q : JQ} {m : Nat} {x1 : Int32} {r : Int32} {J : JI} (hm : Is9 S m) (h : s_X9_parseSetup I m x1 = some (r, J)) (hQ : Q (.inl (some (.int r))) J S) : Call Ω m_X9_parseSetup [.ref m, .int x1] I S Q := by
  refine call_of (by decide +kernel) rfl (Nat.le_of_ble_eq_true rfl) ?_
  change AA Ω m_X9_parseSetup (FQ Ω m_X9_parseSetup Q) 0 0 0 [(0, .ref m), (1, .int x1)] [] I S
  unfold s_X9_parseSetup at h
  refine r_aload_n (pc' := 1) dX9_parseSetup_0 rfl 0 rfl rfl ?_
  refine r_iload_n (pc' := 2) dX9_parseSetup_1 rfl 1 rfl rfl ?_
  refine r_iconst (pc' := 3) (v := 0) dX9_parseSetup_2 (by decide) rfl ?_
  refine r_aload_n (pc' := 4) dX9_parseSetup_3 rfl 0 rfl rfl ?_
  refine r_getI (pc' := 7) dX9_parseSetup_4 fa_X9_61 hm.o rfl rfl ?_
  refine r_callS3 (pc' := 10) (k' := 0) (n' := 0) dX9_parseSetup_7 mb_X9_in ms_X9_in lk_X9_78 rfl rfl rfl (Nat.le_of_ble_eq_true rfl) rfl (c_X9_in rfl (cpI ?_))
  refine r_iconst (pc' := 11) (v := 1) dX9_parseSetup_10 (by decide) rfl ?_
  refine r_iconst (pc' := 12) (v := 1) dX9_parseSetup_11 (by decide) rfl ?_
  obtain ⟨z2, I1, ez2, h⟩ := bd2_e h
  refine r_callV3 (pc' := 15) (k' := 0) (n' := 0) dX9_parseSetup_12 mb_X9_may mi_X9_may hm.o (by decide) rfl lk_X9_49 rfl rfl rfl (Nat.le_of_ble_eq_true rfl) rfl (c_X9_may (b2 := true) (b3 := true) hm ez2 (cpI ?_))
  refine r_if_ne (tgt := 20) (pc' := 18) dX9_parseSetup_15 rfl rfl (fun h3 => ?_) (fun h3 => ?_)
  · have h := ifp (zb_p0 h3) h
    refine r_aload_n (pc' := 21) dX9_parseSetup_20 rfl 0 rfl rfl ?_
    refine r_iload_n (pc' := 22) dX9_parseSetup_21 rfl 1 rfl rfl ?_
    refine r_putI (pc' := 25) dX9_parseSetup_22 fa_X9_75 hm.o rfl rfl ?_
    have h := lx_e h
    refine r_aload_n (pc' := 26) dX9_parseSetup_25 rfl 0 rfl rfl ?_
    refine r_iconst (pc' := 27) (v := 0) dX9_parseSetup_26 (by decide) rfl ?_
    refine r_putI (pc' := 30) dX9_parseSetup_27 fa_X9_82 hm.o rfl rfl ?_
    have h := lx_e h
    refine r_aload_n (pc' := 31) dX9_parseSetup_30 rfl 0 rfl rfl ?_
    refine r_iconst (pc' := 32) (v := 0) dX9_parseSetup_31 (by decide) rfl ?_
    refine r_putI (pc' := 35) dX9_parseSetup_32 fa_X9_61 hm.o rfl rfl ?_
    have h := lx_e h
    refine r_aload_n (pc' := 36) dX9_parseSetup_35 rfl 0 rfl rfl ?_
    refine r_iconst (pc' := 37) (v := 0) dX9_parseSetup_36 (by decide) rfl ?_
    refine r_putI (pc' := 40) dX9_parseSetup_37 fa_X9_68 hm.o rfl rfl ?_
    have h := lx_e h
    refine r_aload_n (pc' := 41) dX9_parseSetup_40 rfl 0 rfl rfl ?_
    refine r_iconst (pc' := 42) (v := -1) dX9_parseSetup_41 (by decide) rfl ?_
    refine r_putI (pc' := 45) dX9_parseSetup_42 fa_X9_30 hm.o rfl rfl ?_
    have h := lx_e h
    refine r_aload_n (pc' := 46) dX9_parseSetup_45 rfl 0 rfl rfl ?_
    obtain ⟨I9, eI9, h⟩ := bd_e h
    refine r_callV0 (pc' := 49) (k' := 0) (n' := 0) dX9_parseSetup_46 mb_X9_thinks mi_X9_thinks hm.o (by decide) rfl lk_X9_313 rfl rfl rfl (Nat.le_of_ble_eq_true rfl) rfl (c_X9_thinks hm eI9 (cpV ?_))
    refine r_iconst (pc' := 50) (v := 0) dX9_parseSetup_49 (by decide) rfl ?_
    refine r_istore_n (pc' := 51) (lv' := [(2, _), (0, _), (1, _)]) dX9_parseSetup_50 rfl (by decide) rfl rfl ?_
    obtain ⟨o15, eo15, h⟩ := bd_e h
    refine l_X9_parseSetup_L51 (Ω := Ω) hm _ _ _ _ eo15 trivial (fun y13 I14 q => ?_)
    subst q
    refine r_aload_n (pc' := 72) dX9_parseSetup_71 rfl 1 rfl rfl ?_
    refine r_getO (pc' := 75) dX9_parseSetup_72 fa_X9_9 hm.o rfl hm.r1 rfl ?_
    refine r_bipush (pc' := 77) (v := 12) dX9_parseSetup_75 (by decide) rfl ?_
    refine r_bipush (pc' := 79) (v := 24) dX9_parseSetup_77 (by decide) rfl ?_
    obtain ⟨g16, h⟩ := gd_e h
    refine r_iastore (pc' := 80) dX9_parseSetup_79 hm.c1 g16 rfl ?_
    have h := lx_e h
    refine r_aload_n (pc' := 81) dX9_parseSetup_80 rfl 1 rfl rfl ?_
    obtain ⟨I18, eI18, h⟩ := bd_e h
    refine r_callV0 (pc' := 84) (k' := 0) (n' := 0) dX9_parseSetup_81 mb_X9_readsText mi_X9_readsText hm.o (by decide) rfl lk_X9_316 rfl rfl rfl (Nat.le_of_ble_eq_true rfl) rfl (c_X9_readsText hm eI18 (cpV ?_))
    refine r_aload_n (pc' := 85) dX9_parseSetup_84 rfl 1 rfl rfl ?_
    refine r_getI (pc' := 88) dX9_parseSetup_85 fa_X9_68 hm.o rfl rfl ?_
    refine r_if_le (tgt := 102) (pc' := 91) dX9_parseSetup_88 rfl rfl (fun h19 => ?_) (fun h19 => ?_)
    · have h := ifp h19 h
      refine r_aload_n (pc' := 103) dX9_parseSetup_102 rfl 1 rfl rfl ?_
      refine r_iconst (pc' := 104) (v := 1) dX9_parseSetup_103 (by decide) rfl ?_
      refine r_putZ (pc' := 107) dX9_parseSetup_104 fa_X9_53 hm.o rfl (by decide) rfl ?_
      have h := lx_e h
      refine r_aload_n (pc' := 108) dX9_parseSetup_107 rfl 1 rfl rfl ?_
      refine r_iconst (pc' := 109) (v := 0) dX9_parseSetup_108 (by decide) rfl ?_
      refine r_putI (pc' := 112) dX9_parseSetup_109 fa_X9_321 hm.o rfl rfl ?_
      have h := lx_e h
      refine r_aload_n (pc' := 113) dX9_parseSetup_112 rfl 1 rfl rfl ?_
      refine r_getO (pc' := 116) dX9_parseSetup_113 fa_X9_22 hm.o rfl hm.r5 rfl ?_
      refine r_iconst (pc' := 117) (v := 0) dX9_parseSetup_116 (by decide) rfl ?_
      refine r_iconst (pc' := 118) (v := 0) dX9_parseSetup_117 (by decide) rfl ?_
      obtain ⟨g22, h⟩ := gd_e h
      refine r_zastore (pc' := 119) dX9_parseSetup_118 hm.c5 g22 rfl ?_
      have h := lx_e h
      refine r_aload_n (pc' := 120) dX9_parseSetup_119 rfl 1 rfl rfl ?_
      refine r_getO (pc' := 123) dX9_parseSetup_120 fa_X9_22 hm.o rfl hm.r5 rfl ?_
      refine r_iconst (pc' := 124) (v := 1) dX9_parseSetup_123 (by decide) rfl ?_
      refine r_iconst (pc' := 125) (v := 0) dX9_parseSetup_124 (by decide) rfl ?_
      obtain ⟨g24, h⟩ := gd_e h
      refine r_zastore (pc' := 126) dX9_parseSetup_125 hm.c5 g24 rfl ?_
      have h := lx_e h
      refine r_aload_n (pc' := 127) dX9_parseSetup_126 rfl 1 rfl rfl ?_
      refine r_getO (pc' := 130) dX9_parseSetup_127 fa_X9_9 hm.o rfl hm.r1 rfl ?_
      refine r_iconst (pc' := 131) (v := 4) dX9_parseSetup_130 (by decide) rfl ?_
      obtain ⟨g26, h⟩ := gd_e h
      refine r_iaload (pc' := 132) dX9_parseSetup_131 hm.c1 g26 rfl ?_
      cases h
      exact r_iret dX9_parseSetup_132 rfl (by decide) (by decide) hQ
    · have h := ifn h19 h
      refine r_aload_n (pc' := 92) dX9_parseSetup_91 rfl 1 rfl rfl ?_
      refine r_iconst (pc' := 93) (v := 2) dX9_parseSetup_92 (by decide) rfl ?_
      refine r_putI (pc' := 96) dX9_parseSetup_93 fa_X9_46 hm.o rfl rfl ?_
      have h := lx_e h
      refine r_aload_n (pc' := 97) dX9_parseSetup_96 rfl 1 rfl rfl ?_
      refine r_iconst (pc' := 98) (v := 0) dX9_parseSetup_97 (by decide) rfl ?_
      obtain ⟨v29, I28, ev29, h⟩ := bd2_e h
      refine r_callV1 (pc' := 101) (k' := 0) (n' := 0) dX9_parseSetup_98 mb_X9_back mi_X9_back hm.o (by decide) rfl lk_X9_319 rfl rfl rfl (Nat.le_of_ble_eq_true rfl) rfl (c_X9_back hm ev29 (cpI ?_))
      cases h
      exact r_iret dX9_parseSetup_101 rfl (by decide) (by decide) hQ
  · have h := ifn (zb_n0 h3) h
    refine r_iconst (pc' := 19) (v := 0) dX9_parseSetup_18 (by decide) rfl ?_
    cases h
    exact r_iret dX9_parseSetup_19 rfl (by decide) (by decide) hQ
theorem frl_X9_parseSetup_L51 {m : Nat} {q1 : Int32} {z : Nat} (hz_m1 : z ≠ (m + 1)) (hz_m2 : z ≠ (m + 2)) (hz_m5 : z ≠ (m + 5)) (hz_m7 : z ≠ (m + 7)) (hz_m8 : z ≠ (m + 8)) (hz_m9 : z ≠ (m + 9)) (hz_m : z ≠ m) : ∀ (f : Nat) (w2 : Int32) (I : JI) (o : (Int32 × JI)), s_X9_parseSetup_L51 m q1 f w2 I = some o → (∀ (y2 : Int32) (J : JI), o = (y2, J) → J z = I z) := by
  intro f
  induction f with
  | zero =>
    intro w2 I o h
    rw [s_X9_parseSetup_L51] at h
    cases h
  | succ f ih =>
    intro w2 I o h
    rw [s_X9_parseSetup_L51] at h
    rcases if_e h with h | h
    · cases h
      intro _ _ q
      cases q
      exact rfl
    · obtain ⟨g1, h⟩ := gd_e h
      have h := lx_e h
      intro _ _ q
      exact ((ih _ _ _ h) _ _ q).trans ((fr_stI (by omega)).trans rfl)
set_option maxHeartbeats 4000000 in
theorem fr_X9_parseSetup {I : JI} {m : Nat} {x1 : Int32} {r : Int32} {J : JI} {z : Nat} (h : s_X9_parseSetup I m x1 = some (r, J)) (hz_m1 : z ≠ (m + 1)) (hz_m2 : z ≠ (m + 2)) (hz_m5 : z ≠ (m + 5)) (hz_m7 : z ≠ (m + 7)) (hz_m8 : z ≠ (m + 8)) (hz_m9 : z ≠ (m + 9)) (hz_m : z ≠ m) : J z = I z := by
  unfold s_X9_parseSetup at h
  obtain ⟨z2, I1, e1, h⟩ := bd2_e h
  rcases if_e h with h | h
  · have h := lx_e h
    have h := lx_e h
    have h := lx_e h
    have h := lx_e h
    have h := lx_e h
    obtain ⟨I9, e2, h⟩ := bd_e h
    obtain ⟨o3, e3, h⟩ := bd_e h
    obtain ⟨y13, I14⟩ := o3
    obtain ⟨g4, h⟩ := gd_e h
    have h := lx_e h
    obtain ⟨I18, e5, h⟩ := bd_e h
    rcases if_e h with h | h
    · have h := lx_e h
      have h := lx_e h
      obtain ⟨g6, h⟩ := gd_e h
      have h := lx_e h
      obtain ⟨g7, h⟩ := gd_e h
      have h := lx_e h
      obtain ⟨g8, h⟩ := gd_e h
      cases h
      exact ((fr_stI (by omega)).trans ((fr_stI (by omega)).trans ((fr_stI (by omega)).trans ((fr_stI (by omega)).trans ((fr_X9_readsText e5 (by omega) (by omega) (by omega) (by omega) (by omega)).trans ((fr_stI (by omega)).trans (((frl_X9_parseSetup_L51 hz_m1 hz_m2 hz_m5 hz_m7 hz_m8 hz_m9 hz_m _ _ _ _ e3) _ _ rfl).trans ((fr_X9_thinks e2 (by omega)).trans ((fr_stI (by omega)).trans ((fr_stI (by omega)).trans ((fr_stI (by omega)).trans ((fr_stI (by omega)).trans ((fr_stI (by omega)).trans ((fr_X9_may e1 (by omega)).trans rfl))))))))))))))
    · have h := lx_e h
      obtain ⟨v29, I28, e9, h⟩ := bd2_e h
      cases h
      exact ((fr_X9_back e9 (by omega)).trans ((fr_stI (by omega)).trans ((fr_X9_readsText e5 (by omega) (by omega) (by omega) (by omega) (by omega)).trans ((fr_stI (by omega)).trans (((frl_X9_parseSetup_L51 hz_m1 hz_m2 hz_m5 hz_m7 hz_m8 hz_m9 hz_m _ _ _ _ e3) _ _ rfl).trans ((fr_X9_thinks e2 (by omega)).trans ((fr_stI (by omega)).trans ((fr_stI (by omega)).trans ((fr_stI (by omega)).trans ((fr_stI (by omega)).trans ((fr_stI (by omega)).trans ((fr_X9_may e1 (by omega)).trans rfl))))))))))))
  · cases h
    exact ((fr_X9_may e1 (by omega)).trans rfl)
theorem ffl_X9_parseSetup_L51 {m : Nat} {q1 : Int32} {k : Nat} (hk0 : k ≠ 0) (hk6 : k ≠ 6) (hk7 : k ≠ 7) (hk9 : k ≠ 9) (hk10 : k ≠ 10) (hk11 : k ≠ 11) (hk12 : k ≠ 12) (hk13 : k ≠ 13) (hk14 : k ≠ 14) (hk15 : k ≠ 15) (hk16 : k ≠ 16) (hk20 : k ≠ 20) : ∀ (f : Nat) (w2 : Int32) (I : JI) (o : (Int32 × JI)), s_X9_parseSetup_L51 m q1 f w2 I = some o → (∀ (y2 : Int32) (J : JI), o = (y2, J) → J m k = I m k) := by
  intro f
  induction f with
  | zero =>
    intro w2 I o h
    rw [s_X9_parseSetup_L51] at h
    cases h
  | succ f ih =>
    intro w2 I o h
    rw [s_X9_parseSetup_L51] at h
    rcases if_e h with h | h
    · cases h
      intro _ _ q
      cases q
      exact rfl
    · obtain ⟨g1, h⟩ := gd_e h
      have h := lx_e h
      intro _ _ q
      exact ((ih _ _ _ h) _ _ q).trans ((congrFun (fr_stI (by omega)) k).trans rfl)
set_option maxHeartbeats 4000000 in
theorem ff_X9_parseSetup {I : JI} {m : Nat} {x1 : Int32} {r : Int32} {J : JI} {k : Nat} (h : s_X9_parseSetup I m x1 = some (r, J)) (hk0 : k ≠ 0) (hk6 : k ≠ 6) (hk7 : k ≠ 7) (hk9 : k ≠ 9) (hk10 : k ≠ 10) (hk11 : k ≠ 11) (hk12 : k ≠ 12) (hk13 : k ≠ 13) (hk14 : k ≠ 14) (hk15 : k ≠ 15) (hk16 : k ≠ 16) (hk20 : k ≠ 20) : J m k = I m k := by
  unfold s_X9_parseSetup at h
  obtain ⟨z2, I1, e1, h⟩ := bd2_e h
  rcases if_e h with h | h
  · have h := lx_e h
    have h := lx_e h
    have h := lx_e h
    have h := lx_e h
    have h := lx_e h
    obtain ⟨I9, e2, h⟩ := bd_e h
    obtain ⟨o3, e3, h⟩ := bd_e h
    obtain ⟨y13, I14⟩ := o3
    obtain ⟨g4, h⟩ := gd_e h
    have h := lx_e h
    obtain ⟨I18, e5, h⟩ := bd_e h
    rcases if_e h with h | h
    · have h := lx_e h
      have h := lx_e h
      obtain ⟨g6, h⟩ := gd_e h
      have h := lx_e h
      obtain ⟨g7, h⟩ := gd_e h
      have h := lx_e h
      obtain ⟨g8, h⟩ := gd_e h
      cases h
      exact ((congrFun (fr_stI (by omega)) k).trans ((congrFun (fr_stI (by omega)) k).trans ((ff_stI hk7).trans ((ff_stI hk6).trans ((ff_X9_readsText e5 hk10 hk11 hk13 hk14 hk15 hk16 hk20).trans ((congrFun (fr_stI (by omega)) k).trans (((ffl_X9_parseSetup_L51 hk0 hk6 hk7 hk9 hk10 hk11 hk12 hk13 hk14 hk15 hk16 hk20 _ _ _ _ e3) _ _ rfl).trans ((congrFun (fr_X9_thinks e2 (by omega)) k).trans ((ff_stI hk11).trans ((ff_stI hk10).trans ((ff_stI hk9).trans ((ff_stI hk13).trans ((ff_stI hk12).trans ((ff_X9_may e1 hk0).trans rfl))))))))))))))
    · have h := lx_e h
      obtain ⟨v29, I28, e9, h⟩ := bd2_e h
      cases h
      exact ((congrFun (fr_X9_back e9 (by omega)) k).trans ((ff_stI hk0).trans ((ff_X9_readsText e5 hk10 hk11 hk13 hk14 hk15 hk16 hk20).trans ((congrFun (fr_stI (by omega)) k).trans (((ffl_X9_parseSetup_L51 hk0 hk6 hk7 hk9 hk10 hk11 hk12 hk13 hk14 hk15 hk16 hk20 _ _ _ _ e3) _ _ rfl).trans ((congrFun (fr_X9_thinks e2 (by omega)) k).trans ((ff_stI hk11).trans ((ff_stI hk10).trans ((ff_stI hk9).trans ((ff_stI hk13).trans ((ff_stI hk12).trans ((ff_X9_may e1 hk0).trans rfl))))))))))))
  · cases h
    exact ((ff_X9_may e1 hk0).trans rfl)
noncomputable def s_X9_brokenOnes_L4 (I : JI) (m : Nat) : Nat → Int32 → Int32 → Option (Int32 × Int32)
  | 0, _, _ => none
  | f + 1, w1, w2 => gd (vp_in 2 2030) <| if (I (m + 1) (Int32.toNatClampNeg 2)) ≤ w2 then (some (w1, w2)) else (bd (s_X9_breaks I m w2) fun z3 => lx (w1 + (s_X9_one z3)) fun v4 => s_X9_brokenOnes_L4 I m f v4 (w2 + 1))
noncomputable def s_X9_brokenOnes (I : JI) (m : Nat) : Option (Int32) :=
  bd (s_X9_brokenOnes_L4 I m lf 0 0) fun (y5, y6) => some y5
set_option maxHeartbeats 4000000 in
theorem l_X9_brokenOnes_L4 {Ω : JO} {S : JS} {Q : JQ} {I : JI} {m : Nat} (hm : Is9 S m) : ∀ (f : Nat) (w1 : Int32) (w2 : Int32) (o : (Int32 × Int32)), s_X9_brokenOnes_L4 I m f w1 w2 = some o → True → (∀ (y1 : Int32) (y2 : Int32) , o = (y1, y2) → AA Ω m_X9_brokenOnes (FQ Ω m_X9_brokenOnes Q) 0 0 31 [(1, .int y1), (2, .int y2), (0, .ref m)] [] I S) → AA Ω m_X9_brokenOnes (FQ Ω m_X9_brokenOnes Q) 0 0 4 [(1, .int w1), (2, .int w2), (0, .ref m)] [] I S := by
  intro f
  induction f with
  | zero =>
    intro w1 w2 o h hR hE
    rw [s_X9_brokenOnes_L4] at h
    cases h
  | succ f ih =>
    intro w1 w2 o h hR hE
    rw [s_X9_brokenOnes_L4] at h
    refine r_iload_n (pc' := 5) dX9_brokenOnes_4 rfl 1 rfl rfl ?_
    refine r_aload_n (pc' := 6) dX9_brokenOnes_5 rfl 2 rfl rfl ?_
    refine r_getO (pc' := 9) dX9_brokenOnes_6 fa_X9_9 hm.o rfl hm.r1 rfl ?_
    refine r_iconst (pc' := 10) (v := 2) dX9_brokenOnes_9 (by decide) rfl ?_
    obtain ⟨g1, h⟩ := gd_e h
    refine r_iaload (pc' := 11) dX9_brokenOnes_10 hm.c1 g1 rfl ?_
    refine r_icmp_ge (tgt := 31) (pc' := 14) dX9_brokenOnes_11 rfl rfl (fun h2 => ?_) (fun h2 => ?_)
    · have h := ifp h2 h
      cases h
      exact hE _ _ rfl
    · have h := ifn h2 h
      refine r_iload_n (pc' := 15) dX9_brokenOnes_14 rfl 0 rfl rfl ?_
      refine r_aload_n (pc' := 16) dX9_brokenOnes_15 rfl 2 rfl rfl ?_
      refine r_iload_n (pc' := 17) dX9_brokenOnes_16 rfl 1 rfl rfl ?_
      obtain ⟨z3, ez3, h⟩ := bd_e h
      refine r_callV1 (pc' := 20) (k' := 0) (n' := 0) dX9_brokenOnes_17 mb_X9_breaks mi_X9_breaks hm.o (by decide) rfl lk_X9_235 rfl rfl rfl (Nat.le_of_ble_eq_true rfl) rfl (c_X9_breaks hm ez3 (cpI ?_))
      refine r_callS1 (pc' := 23) (k' := 0) (n' := 0) dX9_brokenOnes_20 mb_X9_one ms_X9_one lk_X9_324 rfl rfl rfl (Nat.le_of_ble_eq_true rfl) rfl (c_X9_one rfl (cpI ?_))
      refine r_iadd (pc' := 24) dX9_brokenOnes_23 rfl ?_
      refine r_istore_n (pc' := 25) (lv' := [(1, _), (2, _), (0, _)]) dX9_brokenOnes_24 rfl (by decide) rfl rfl ?_
      have h := lx_e h
      refine r_iinc (pc' := 28) (v := _ + 1) (lv' := [(2, _), (1, _), (0, _)]) dX9_brokenOnes_25 1 rfl rfl (by decide) rfl rfl ?_
      refine r_goto (tgt := 4) dX9_brokenOnes_28 rfl ?_
      refine aa_locs (ks := [1, 0, 2]) (lv' := [(1, _), (2, _), (0, _)]) rfl ?_
      exact ih _ _ _ h hR hE
set_option maxHeartbeats 4000000 in
theorem c_X9_brokenOnes {Ω : JO} {I : JI} {S : JS} {Q : JQ} {m : Nat} {r : Int32} (hm : Is9 S m) (h : s_X9_brokenOnes I m = some r) (hQ : Q (.inl (some (.int r))) I S) : Call Ω m_X9_brokenOnes [.ref m] I S Q := by
  refine call_of (by decide +kernel) rfl (Nat.le_of_ble_eq_true rfl) ?_
  change AA Ω m_X9_brokenOnes (FQ Ω m_X9_brokenOnes Q) 0 0 0 [(0, .ref m)] [] I S
  unfold s_X9_brokenOnes at h
  refine r_iconst (pc' := 1) (v := 0) dX9_brokenOnes_0 (by decide) rfl ?_
  refine r_istore_n (pc' := 2) (lv' := [(1, _), (0, _)]) dX9_brokenOnes_1 rfl (by decide) rfl rfl ?_
  refine r_iconst (pc' := 3) (v := 0) dX9_brokenOnes_2 (by decide) rfl ?_
  refine r_istore_n (pc' := 4) (lv' := [(2, _), (1, _), (0, _)]) dX9_brokenOnes_3 rfl (by decide) rfl rfl ?_
  refine aa_locs (ks := [1, 0, 2]) (lv' := [(1, _), (2, _), (0, _)]) rfl ?_
  obtain ⟨o7, eo7, h⟩ := bd_e h
  refine l_X9_brokenOnes_L4 (Ω := Ω) hm _ _ _ _ eo7 trivial (fun y5 y6 q => ?_)
  subst q
  refine r_iload_n (pc' := 32) dX9_brokenOnes_31 rfl 0 rfl rfl ?_
  cases h
  exact r_iret dX9_brokenOnes_32 rfl (by decide) (by decide) hQ
noncomputable def s_X9_exchanged (x0 : Int32) (x1 : Int32) (x2 : Int32) : Int32 :=
  if x0 = x1 then x2 else (if x0 = x2 then x1 else x0)
set_option maxHeartbeats 4000000 in
theorem c_X9_exchanged {Ω : JO} {I : JI} {S : JS} {Q : JQ} {x0 : Int32} {x1 : Int32} {x2 : Int32} {r : Int32} (h : s_X9_exchanged x0 x1 x2 = r) (hQ : Q (.inl (some (.int r))) I S) : Call Ω m_X9_exchanged [.int x0, .int x1, .int x2] I S Q := by
  refine call_of (by decide +kernel) rfl (Nat.le_of_ble_eq_true rfl) ?_
  change AA Ω m_X9_exchanged (FQ Ω m_X9_exchanged Q) 0 0 0 [(0, .int x0), (1, .int x1), (2, .int x2)] [] I S
  unfold s_X9_exchanged at h
  refine r_iload_n (pc' := 1) dX9_exchanged_0 rfl 0 rfl rfl ?_
  refine r_iload_n (pc' := 2) dX9_exchanged_1 rfl 1 rfl rfl ?_
  refine r_icmp_ne (tgt := 9) (pc' := 5) dX9_exchanged_2 rfl rfl (fun h1 => ?_) (fun h1 => ?_)
  · have h := ifn h1 h
    refine r_iload_n (pc' := 10) dX9_exchanged_9 rfl 0 rfl rfl ?_
    refine r_iload_n (pc' := 11) dX9_exchanged_10 rfl 2 rfl rfl ?_
    refine r_icmp_ne (tgt := 18) (pc' := 14) dX9_exchanged_11 rfl rfl (fun h2 => ?_) (fun h2 => ?_)
    · have h := ifn h2 h
      refine r_iload_n (pc' := 19) dX9_exchanged_18 rfl 0 rfl rfl ?_
      subst h
      exact r_iret dX9_exchanged_19 rfl (by decide) (by decide) hQ
    · have h := ifp h2 h
      refine r_iload_n (pc' := 15) dX9_exchanged_14 rfl 1 rfl rfl ?_
      refine r_goto (tgt := 19) dX9_exchanged_15 rfl ?_
      subst h
      exact r_iret dX9_exchanged_19 rfl (by decide) (by decide) hQ
  · have h := ifp h1 h
    refine r_iload_n (pc' := 6) dX9_exchanged_5 rfl 2 rfl rfl ?_
    refine r_goto (tgt := 19) dX9_exchanged_6 rfl ?_
    subst h
    exact r_iret dX9_exchanged_19 rfl (by decide) (by decide) hQ
noncomputable def s_X9_isAsExpected_L27 (I : JI) (m : Nat) (q4 : Int32) (q1 : Int32) (q2 : Int32) (q3 : Int32) : Nat → Int32 → Option ((Bool) ⊕ (Int32))
  | 0, _ => none
  | f + 1, w5 => gd (vp_in 2 2030) <| if (I (m + 1) (Int32.toNatClampNeg 2)) ≤ w5 then (some (.inr (w5))) else (bd (s_X9_ofCard I m q4 2) fun v7 => bd (s_X9_harnessOf I m w5) fun v8 => bd (s_X9_cellOf I m q1 w5) fun v9 => if (s_X9_has v7 v8) = true then (bd (s_X9_colourOf I m w5) fun v13 => if v9 = (s_X9_cell v13 (s_X9_has v7 v8)) then (s_X9_isAsExpected_L27 I m q4 q1 q2 q3 f (w5 + 1)) else (some (.inl false))) else (bd (s_X9_ofCard I m q4 3) fun v11 => if v9 = (s_X9_cell v11 (s_X9_has v7 v8)) then (s_X9_isAsExpected_L27 I m q4 q1 q2 q3 f (w5 + 1)) else (some (.inl false))))
noncomputable def s_X9_isAsExpected (I : JI) (m : Nat) (x1 : Int32) (x2 : Int32) (x3 : Int32) : Option (Bool) :=
  gd (vp_in 4 2030) <| gd (¬ (I (m + 1) (Int32.toNatClampNeg 4)) = 0) <| gd (vp_in (164 + (x1 - x1 / (I (m + 1) (Int32.toNatClampNeg 4)) * (I (m + 1) (Int32.toNatClampNeg 4)))) 2030) <| lx (s_X9_exchanged (I (m + 1) (Int32.toNatClampNeg (164 + (x1 - x1 / (I (m + 1) (Int32.toNatClampNeg 4)) * (I (m + 1) (Int32.toNatClampNeg 4)))))) x2 x3) fun v4 => bl (s_X9_isAsExpected_L27 I m v4 x1 x2 x3 lf 0) fun y15 => some true
set_option maxHeartbeats 4000000 in
theorem l_X9_isAsExpected_L27 {Ω : JO} {S : JS} {Q : JQ} {I : JI} {m : Nat} {q4 : Int32} {q1 : Int32} {q2 : Int32} {q3 : Int32} (hm : Is9 S m) : ∀ (f : Nat) (w5 : Int32) (o : ((Bool) ⊕ (Int32))), s_X9_isAsExpected_L27 I m q4 q1 q2 q3 f w5 = some o → (∀ (r : Bool), o = .inl r → Q (.inl (some (.int (zb r)))) I S) → (∀ (y5 : Int32) , o = .inr (y5) → AA Ω m_X9_isAsExpected (FQ Ω m_X9_isAsExpected Q) 0 0 100 [(5, .int y5), (4, .int q4), (0, .ref m), (1, .int q1), (2, .int q2), (3, .int q3)] [] I S) → AA Ω m_X9_isAsExpected (FQ Ω m_X9_isAsExpected Q) 0 0 27 [(5, .int w5), (4, .int q4), (0, .ref m), (1, .int q1), (2, .int q2), (3, .int q3)] [] I S := by
  intro f
  induction f with
  | zero =>
    intro w5 o h hR hE
    rw [s_X9_isAsExpected_L27] at h
    cases h
  | succ f ih =>
    intro w5 o h hR hE
    rw [s_X9_isAsExpected_L27] at h
    refine r_iload (pc' := 29) dX9_isAsExpected_27 0 rfl rfl ?_
    refine r_aload_n (pc' := 30) dX9_isAsExpected_29 rfl 2 rfl rfl ?_
    refine r_getO (pc' := 33) dX9_isAsExpected_30 fa_X9_9 hm.o rfl hm.r1 rfl ?_
    refine r_iconst (pc' := 34) (v := 2) dX9_isAsExpected_33 (by decide) rfl ?_
    obtain ⟨g5, h⟩ := gd_e h
    refine r_iaload (pc' := 35) dX9_isAsExpected_34 hm.c1 g5 rfl ?_
    refine r_icmp_ge (tgt := 100) (pc' := 38) dX9_isAsExpected_35 rfl rfl (fun h6 => ?_) (fun h6 => ?_)
    · have h := ifp h6 h
      cases h
      exact hE _ rfl
    · have h := ifn h6 h
      refine r_aload_n (pc' := 39) dX9_isAsExpected_38 rfl 2 rfl rfl ?_
      refine r_iload (pc' := 41) dX9_isAsExpected_39 1 rfl rfl ?_
      refine r_iconst (pc' := 42) (v := 2) dX9_isAsExpected_41 (by decide) rfl ?_
      obtain ⟨v7, ev7, h⟩ := bd_e h
      refine r_callV2 (pc' := 45) (k' := 0) (n' := 0) dX9_isAsExpected_42 mb_X9_ofCard mi_X9_ofCard hm.o (by decide) rfl lk_X9_232 rfl rfl rfl (Nat.le_of_ble_eq_true rfl) rfl (c_X9_ofCard hm ev7 (cpI ?_))
      refine r_aload_n (pc' := 46) dX9_isAsExpected_45 rfl 2 rfl rfl ?_
      refine r_iload (pc' := 48) dX9_isAsExpected_46 0 rfl rfl ?_
      obtain ⟨v8, ev8, h⟩ := bd_e h
      refine r_callV1 (pc' := 51) (k' := 0) (n' := 0) dX9_isAsExpected_48 mb_X9_harnessOf mi_X9_harnessOf hm.o (by decide) rfl lk_X9_328 rfl rfl rfl (Nat.le_of_ble_eq_true rfl) rfl (c_X9_harnessOf hm ev8 (cpI ?_))
      refine r_callS2 (pc' := 54) (k' := 0) (n' := 0) dX9_isAsExpected_51 mb_X9_has ms_X9_has lk_X9_147 rfl rfl rfl (Nat.le_of_ble_eq_true rfl) rfl (c_X9_has rfl (cpI ?_))
      refine r_istore (pc' := 56) (lv' := [(6, _), (5, _), (4, _), (0, _), (1, _), (2, _), (3, _)]) dX9_isAsExpected_54 (by decide) rfl rfl ?_
      refine r_aload_n (pc' := 57) dX9_isAsExpected_56 rfl 3 rfl rfl ?_
      refine r_iload_n (pc' := 58) dX9_isAsExpected_57 rfl 4 rfl rfl ?_
      refine r_iload (pc' := 60) dX9_isAsExpected_58 1 rfl rfl ?_
      obtain ⟨v9, ev9, h⟩ := bd_e h
      refine r_callV2 (pc' := 63) (k' := 0) (n' := 0) dX9_isAsExpected_60 mb_X9_cellOf mi_X9_cellOf hm.o (by decide) rfl lk_X9_375 rfl rfl rfl (Nat.le_of_ble_eq_true rfl) rfl (c_X9_cellOf hm ev9 (cpI ?_))
      refine r_iload (pc' := 65) dX9_isAsExpected_63 0 rfl rfl ?_
      refine r_if_eq (tgt := 77) (pc' := 68) dX9_isAsExpected_65 rfl rfl (fun h10 => ?_) (fun h10 => ?_)
      · have h := ifn (zb_n0 h10) h
        refine r_aload_n (pc' := 78) dX9_isAsExpected_77 rfl 3 rfl rfl ?_
        refine r_iload (pc' := 80) dX9_isAsExpected_78 2 rfl rfl ?_
        refine r_iconst (pc' := 81) (v := 3) dX9_isAsExpected_80 (by decide) rfl ?_
        obtain ⟨v11, ev11, h⟩ := bd_e h
        refine r_callV2 (pc' := 84) (k' := 0) (n' := 0) dX9_isAsExpected_81 mb_X9_ofCard mi_X9_ofCard hm.o (by decide) rfl lk_X9_232 rfl rfl rfl (Nat.le_of_ble_eq_true rfl) rfl (c_X9_ofCard hm ev11 (cpI ?_))
        refine r_iload (pc' := 86) dX9_isAsExpected_84 0 rfl rfl ?_
        refine r_callS2 (pc' := 89) (k' := 0) (n' := 0) dX9_isAsExpected_86 mb_X9_cell ms_X9_cell lk_X9_356 rfl rfl rfl (Nat.le_of_ble_eq_true rfl) rfl (c_X9_cell rfl (cpI ?_))
        refine r_icmp_eq (tgt := 94) (pc' := 92) dX9_isAsExpected_89 rfl rfl (fun h12 => ?_) (fun h12 => ?_)
        · have h := ifp h12 h
          refine r_iinc (pc' := 97) (v := _ + 1) (lv' := [(5, _), (6, _), (4, _), (0, _), (1, _), (2, _), (3, _)]) dX9_isAsExpected_94 1 rfl rfl (by decide) rfl rfl ?_
          refine r_goto (tgt := 27) dX9_isAsExpected_97 rfl ?_
          refine aa_locs (ks := [0, 2, 3, 4, 5, 6]) (lv' := [(5, _), (4, _), (0, _), (1, _), (2, _), (3, _)]) rfl ?_
          exact ih _ _ h hR hE
        · have h := ifn h12 h
          refine r_iconst (pc' := 93) (v := 0) dX9_isAsExpected_92 (by decide) rfl ?_
          cases h
          exact r_zret dX9_isAsExpected_93 rfl (by decide) (by decide) (by decide) (hR _ rfl)
      · have h := ifp (zb_p0 h10) h
        refine r_aload_n (pc' := 69) dX9_isAsExpected_68 rfl 3 rfl rfl ?_
        refine r_iload (pc' := 71) dX9_isAsExpected_69 1 rfl rfl ?_
        obtain ⟨v13, ev13, h⟩ := bd_e h
        refine r_callV1 (pc' := 74) (k' := 0) (n' := 0) dX9_isAsExpected_71 mb_X9_colourOf mi_X9_colourOf hm.o (by decide) rfl lk_X9_353 rfl rfl rfl (Nat.le_of_ble_eq_true rfl) rfl (c_X9_colourOf hm ev13 (cpI ?_))
        refine r_goto (tgt := 84) dX9_isAsExpected_74 rfl ?_
        refine r_iload (pc' := 86) dX9_isAsExpected_84 0 rfl rfl ?_
        refine r_callS2 (pc' := 89) (k' := 0) (n' := 0) dX9_isAsExpected_86 mb_X9_cell ms_X9_cell lk_X9_356 rfl rfl rfl (Nat.le_of_ble_eq_true rfl) rfl (c_X9_cell rfl (cpI ?_))
        refine r_icmp_eq (tgt := 94) (pc' := 92) dX9_isAsExpected_89 rfl rfl (fun h14 => ?_) (fun h14 => ?_)
        · have h := ifp h14 h
          refine r_iinc (pc' := 97) (v := _ + 1) (lv' := [(5, _), (6, _), (4, _), (0, _), (1, _), (2, _), (3, _)]) dX9_isAsExpected_94 1 rfl rfl (by decide) rfl rfl ?_
          refine r_goto (tgt := 27) dX9_isAsExpected_97 rfl ?_
          refine aa_locs (ks := [0, 2, 3, 4, 5, 6]) (lv' := [(5, _), (4, _), (0, _), (1, _), (2, _), (3, _)]) rfl ?_
          exact ih _ _ h hR hE
        · have h := ifn h14 h
          refine r_iconst (pc' := 93) (v := 0) dX9_isAsExpected_92 (by decide) rfl ?_
          cases h
          exact r_zret dX9_isAsExpected_93 rfl (by decide) (by decide) (by decide) (hR _ rfl)
set_option maxHeartbeats 4000000 in
theorem c_X9_isAsExpected {Ω : JO} {I : JI} {S : JS} {Q : JQ} {m : Nat} {x1 : Int32} {x2 : Int32} {x3 : Int32} {r : Bool} (hm : Is9 S m) (h : s_X9_isAsExpected I m x1 x2 x3 = some r) (hQ : Q (.inl (some (.int (zb r)))) I S) : Call Ω m_X9_isAsExpected [.ref m, .int x1, .int x2, .int x3] I S Q := by
  refine call_of (by decide +kernel) rfl (Nat.le_of_ble_eq_true rfl) ?_
  change AA Ω m_X9_isAsExpected (FQ Ω m_X9_isAsExpected Q) 0 0 0 [(0, .ref m), (1, .int x1), (2, .int x2), (3, .int x3)] [] I S
  unfold s_X9_isAsExpected at h
  refine r_aload_n (pc' := 1) dX9_isAsExpected_0 rfl 0 rfl rfl ?_
  refine r_getO (pc' := 4) dX9_isAsExpected_1 fa_X9_9 hm.o rfl hm.r1 rfl ?_
  refine r_sipush (pc' := 7) (v := 164) dX9_isAsExpected_4 (by decide) rfl ?_
  refine r_iload_n (pc' := 8) dX9_isAsExpected_7 rfl 1 rfl rfl ?_
  refine r_aload_n (pc' := 9) dX9_isAsExpected_8 rfl 0 rfl rfl ?_
  refine r_getO (pc' := 12) dX9_isAsExpected_9 fa_X9_9 hm.o rfl hm.r1 rfl ?_
  refine r_iconst (pc' := 13) (v := 4) dX9_isAsExpected_12 (by decide) rfl ?_
  obtain ⟨g1, h⟩ := gd_e h
  refine r_iaload (pc' := 14) dX9_isAsExpected_13 hm.c1 g1 rfl ?_
  obtain ⟨g2, h⟩ := gd_e h
  refine r_irem (pc' := 15) dX9_isAsExpected_14 g2 rfl ?_
  refine r_iadd (pc' := 16) dX9_isAsExpected_15 rfl ?_
  obtain ⟨g3, h⟩ := gd_e h
  refine r_iaload (pc' := 17) dX9_isAsExpected_16 hm.c1 g3 rfl ?_
  refine r_iload_n (pc' := 18) dX9_isAsExpected_17 rfl 2 rfl rfl ?_
  refine r_iload_n (pc' := 19) dX9_isAsExpected_18 rfl 3 rfl rfl ?_
  refine r_callS3 (pc' := 22) (k' := 0) (n' := 0) dX9_isAsExpected_19 mb_X9_exchanged ms_X9_exchanged lk_X9_372 rfl rfl rfl (Nat.le_of_ble_eq_true rfl) rfl (c_X9_exchanged rfl (cpI ?_))
  refine r_istore (pc' := 24) (lv' := [(4, _), (0, _), (1, _), (2, _), (3, _)]) dX9_isAsExpected_22 (by decide) rfl rfl ?_
  have h := lx_e h
  refine r_iconst (pc' := 25) (v := 0) dX9_isAsExpected_24 (by decide) rfl ?_
  refine r_istore (pc' := 27) (lv' := [(5, _), (4, _), (0, _), (1, _), (2, _), (3, _)]) dX9_isAsExpected_25 (by decide) rfl rfl ?_
  obtain ⟨o16, eo16, h1, h⟩ := bl_e h
  refine l_X9_isAsExpected_L27 (Ω := Ω) hm _ _ _ eo16 (fun r q => ?_) (fun y15 q => ?_)
  · have h1 := h1 _ q
    cases h1
    exact hQ
  have h := h _ q
  refine r_iconst (pc' := 101) (v := 1) dX9_isAsExpected_100 (by decide) rfl ?_
  cases h
  exact r_zret dX9_isAsExpected_101 rfl (by decide) (by decide) (by decide) hQ
noncomputable def s_X9_isWrongRow (I : JI) (m : Nat) (x1 : Int32) : Option (Bool) :=
  bd (s_X9_isAsExpected I m x1 (-1) (-1)) fun z1 => if z1 = true then (some false) else (some true)
set_option maxHeartbeats 4000000 in
theorem c_X9_isWrongRow {Ω : JO} {I : JI} {S : JS} {Q : JQ} {m : Nat} {x1 : Int32} {r : Bool} (hm : Is9 S m) (h : s_X9_isWrongRow I m x1 = some r) (hQ : Q (.inl (some (.int (zb r)))) I S) : Call Ω m_X9_isWrongRow [.ref m, .int x1] I S Q := by
  refine call_of (by decide +kernel) rfl (Nat.le_of_ble_eq_true rfl) ?_
  change AA Ω m_X9_isWrongRow (FQ Ω m_X9_isWrongRow Q) 0 0 0 [(0, .ref m), (1, .int x1)] [] I S
  unfold s_X9_isWrongRow at h
  refine r_aload_n (pc' := 1) dX9_isWrongRow_0 rfl 0 rfl rfl ?_
  refine r_iload_n (pc' := 2) dX9_isWrongRow_1 rfl 1 rfl rfl ?_
  refine r_iconst (pc' := 3) (v := -1) dX9_isWrongRow_2 (by decide) rfl ?_
  refine r_iconst (pc' := 4) (v := -1) dX9_isWrongRow_3 (by decide) rfl ?_
  obtain ⟨z1, ez1, h⟩ := bd_e h
  refine r_callV3 (pc' := 7) (k' := 0) (n' := 0) dX9_isWrongRow_4 mb_X9_isAsExpected mi_X9_isAsExpected hm.o (by decide) rfl lk_X9_378 rfl rfl rfl (Nat.le_of_ble_eq_true rfl) rfl (c_X9_isAsExpected hm ez1 (cpI ?_))
  refine r_if_ne (tgt := 14) (pc' := 10) dX9_isWrongRow_7 rfl rfl (fun h2 => ?_) (fun h2 => ?_)
  · have h := ifp (zb_p0 h2) h
    refine r_iconst (pc' := 15) (v := 0) dX9_isWrongRow_14 (by decide) rfl ?_
    cases h
    exact r_zret dX9_isWrongRow_15 rfl (by decide) (by decide) (by decide) hQ
  · have h := ifn (zb_n0 h2) h
    refine r_iconst (pc' := 11) (v := 1) dX9_isWrongRow_10 (by decide) rfl ?_
    refine r_goto (tgt := 15) dX9_isWrongRow_11 rfl ?_
    cases h
    exact r_zret dX9_isWrongRow_15 rfl (by decide) (by decide) (by decide) hQ
noncomputable def s_X9_wrongs_L4 (I : JI) (m : Nat) : Nat → Int32 → Int32 → Option (Int32 × Int32)
  | 0, _, _ => none
  | f + 1, w1, w2 => gd (vp_in 5 2030) <| if (I (m + 1) (Int32.toNatClampNeg 5)) ≤ w2 then (some (w1, w2)) else (bd (s_X9_isWrongRow I m w2) fun z3 => lx (w1 + (s_X9_one z3)) fun v4 => s_X9_wrongs_L4 I m f v4 (w2 + 1))
noncomputable def s_X9_wrongs (I : JI) (m : Nat) : Option (Int32) :=
  bd (s_X9_wrongs_L4 I m lf 0 0) fun (y5, y6) => some y5
set_option maxHeartbeats 4000000 in
theorem l_X9_wrongs_L4 {Ω : JO} {S : JS} {Q : JQ} {I : JI} {m : Nat} (hm : Is9 S m) : ∀ (f : Nat) (w1 : Int32) (w2 : Int32) (o : (Int32 × Int32)), s_X9_wrongs_L4 I m f w1 w2 = some o → True → (∀ (y1 : Int32) (y2 : Int32) , o = (y1, y2) → AA Ω m_X9_wrongs (FQ Ω m_X9_wrongs Q) 0 0 31 [(1, .int y1), (2, .int y2), (0, .ref m)] [] I S) → AA Ω m_X9_wrongs (FQ Ω m_X9_wrongs Q) 0 0 4 [(1, .int w1), (2, .int w2), (0, .ref m)] [] I S := by
  intro f
  induction f with
  | zero =>
    intro w1 w2 o h hR hE
    rw [s_X9_wrongs_L4] at h
    cases h
  | succ f ih =>
    intro w1 w2 o h hR hE
    rw [s_X9_wrongs_L4] at h
    refine r_iload_n (pc' := 5) dX9_wrongs_4 rfl 1 rfl rfl ?_
    refine r_aload_n (pc' := 6) dX9_wrongs_5 rfl 2 rfl rfl ?_
    refine r_getO (pc' := 9) dX9_wrongs_6 fa_X9_9 hm.o rfl hm.r1 rfl ?_
    refine r_iconst (pc' := 10) (v := 5) dX9_wrongs_9 (by decide) rfl ?_
    obtain ⟨g1, h⟩ := gd_e h
    refine r_iaload (pc' := 11) dX9_wrongs_10 hm.c1 g1 rfl ?_
    refine r_icmp_ge (tgt := 31) (pc' := 14) dX9_wrongs_11 rfl rfl (fun h2 => ?_) (fun h2 => ?_)
    · have h := ifp h2 h
      cases h
      exact hE _ _ rfl
    · have h := ifn h2 h
      refine r_iload_n (pc' := 15) dX9_wrongs_14 rfl 0 rfl rfl ?_
      refine r_aload_n (pc' := 16) dX9_wrongs_15 rfl 2 rfl rfl ?_
      refine r_iload_n (pc' := 17) dX9_wrongs_16 rfl 1 rfl rfl ?_
      obtain ⟨z3, ez3, h⟩ := bd_e h
      refine r_callV1 (pc' := 20) (k' := 0) (n' := 0) dX9_wrongs_17 mb_X9_isWrongRow mi_X9_isWrongRow hm.o (by decide) rfl lk_X9_381 rfl rfl rfl (Nat.le_of_ble_eq_true rfl) rfl (c_X9_isWrongRow hm ez3 (cpI ?_))
      refine r_callS1 (pc' := 23) (k' := 0) (n' := 0) dX9_wrongs_20 mb_X9_one ms_X9_one lk_X9_324 rfl rfl rfl (Nat.le_of_ble_eq_true rfl) rfl (c_X9_one rfl (cpI ?_))
      refine r_iadd (pc' := 24) dX9_wrongs_23 rfl ?_
      refine r_istore_n (pc' := 25) (lv' := [(1, _), (2, _), (0, _)]) dX9_wrongs_24 rfl (by decide) rfl rfl ?_
      have h := lx_e h
      refine r_iinc (pc' := 28) (v := _ + 1) (lv' := [(2, _), (1, _), (0, _)]) dX9_wrongs_25 1 rfl rfl (by decide) rfl rfl ?_
      refine r_goto (tgt := 4) dX9_wrongs_28 rfl ?_
      refine aa_locs (ks := [1, 0, 2]) (lv' := [(1, _), (2, _), (0, _)]) rfl ?_
      exact ih _ _ _ h hR hE
set_option maxHeartbeats 4000000 in
theorem c_X9_wrongs {Ω : JO} {I : JI} {S : JS} {Q : JQ} {m : Nat} {r : Int32} (hm : Is9 S m) (h : s_X9_wrongs I m = some r) (hQ : Q (.inl (some (.int r))) I S) : Call Ω m_X9_wrongs [.ref m] I S Q := by
  refine call_of (by decide +kernel) rfl (Nat.le_of_ble_eq_true rfl) ?_
  change AA Ω m_X9_wrongs (FQ Ω m_X9_wrongs Q) 0 0 0 [(0, .ref m)] [] I S
  unfold s_X9_wrongs at h
  refine r_iconst (pc' := 1) (v := 0) dX9_wrongs_0 (by decide) rfl ?_
  refine r_istore_n (pc' := 2) (lv' := [(1, _), (0, _)]) dX9_wrongs_1 rfl (by decide) rfl rfl ?_
  refine r_iconst (pc' := 3) (v := 0) dX9_wrongs_2 (by decide) rfl ?_
  refine r_istore_n (pc' := 4) (lv' := [(2, _), (1, _), (0, _)]) dX9_wrongs_3 rfl (by decide) rfl rfl ?_
  refine aa_locs (ks := [1, 0, 2]) (lv' := [(1, _), (2, _), (0, _)]) rfl ?_
  obtain ⟨o7, eo7, h⟩ := bd_e h
  refine l_X9_wrongs_L4 (Ω := Ω) hm _ _ _ _ eo7 trivial (fun y5 y6 q => ?_)
  subst q
  refine r_iload_n (pc' := 32) dX9_wrongs_31 rfl 0 rfl rfl ?_
  cases h
  exact r_iret dX9_wrongs_32 rfl (by decide) (by decide) hQ
noncomputable def s_X9_explains_L2 (I : JI) (m : Nat) (q1 : Int32) (q2 : Int32) : Nat → Int32 → Option ((Bool) ⊕ (Int32))
  | 0, _ => none
  | f + 1, w3 => gd (vp_in 5 2030) <| if (I (m + 1) (Int32.toNatClampNeg 5)) ≤ w3 then (some (.inr (w3))) else (bd (s_X9_isAsExpected I m w3 q1 q2) fun z3 => if z3 = true then (s_X9_explains_L2 I m q1 q2 f (w3 + 1)) else (some (.inl false)))
noncomputable def s_X9_explains (I : JI) (m : Nat) (x1 : Int32) (x2 : Int32) : Option (Bool) :=
  bl (s_X9_explains_L2 I m x1 x2 lf 0) fun y5 => some true
set_option maxHeartbeats 4000000 in
theorem l_X9_explains_L2 {Ω : JO} {S : JS} {Q : JQ} {I : JI} {m : Nat} {q1 : Int32} {q2 : Int32} (hm : Is9 S m) : ∀ (f : Nat) (w3 : Int32) (o : ((Bool) ⊕ (Int32))), s_X9_explains_L2 I m q1 q2 f w3 = some o → (∀ (r : Bool), o = .inl r → Q (.inl (some (.int (zb r)))) I S) → (∀ (y3 : Int32) , o = .inr (y3) → AA Ω m_X9_explains (FQ Ω m_X9_explains Q) 0 0 30 [(3, .int y3), (0, .ref m), (1, .int q1), (2, .int q2)] [] I S) → AA Ω m_X9_explains (FQ Ω m_X9_explains Q) 0 0 2 [(3, .int w3), (0, .ref m), (1, .int q1), (2, .int q2)] [] I S := by
  intro f
  induction f with
  | zero =>
    intro w3 o h hR hE
    rw [s_X9_explains_L2] at h
    cases h
  | succ f ih =>
    intro w3 o h hR hE
    rw [s_X9_explains_L2] at h
    refine r_iload_n (pc' := 3) dX9_explains_2 rfl 0 rfl rfl ?_
    refine r_aload_n (pc' := 4) dX9_explains_3 rfl 1 rfl rfl ?_
    refine r_getO (pc' := 7) dX9_explains_4 fa_X9_9 hm.o rfl hm.r1 rfl ?_
    refine r_iconst (pc' := 8) (v := 5) dX9_explains_7 (by decide) rfl ?_
    obtain ⟨g1, h⟩ := gd_e h
    refine r_iaload (pc' := 9) dX9_explains_8 hm.c1 g1 rfl ?_
    refine r_icmp_ge (tgt := 30) (pc' := 12) dX9_explains_9 rfl rfl (fun h2 => ?_) (fun h2 => ?_)
    · have h := ifp h2 h
      cases h
      exact hE _ rfl
    · have h := ifn h2 h
      refine r_aload_n (pc' := 13) dX9_explains_12 rfl 1 rfl rfl ?_
      refine r_iload_n (pc' := 14) dX9_explains_13 rfl 0 rfl rfl ?_
      refine r_iload_n (pc' := 15) dX9_explains_14 rfl 2 rfl rfl ?_
      refine r_iload_n (pc' := 16) dX9_explains_15 rfl 3 rfl rfl ?_
      obtain ⟨z3, ez3, h⟩ := bd_e h
      refine r_callV3 (pc' := 19) (k' := 0) (n' := 0) dX9_explains_16 mb_X9_isAsExpected mi_X9_isAsExpected hm.o (by decide) rfl lk_X9_378 rfl rfl rfl (Nat.le_of_ble_eq_true rfl) rfl (c_X9_isAsExpected hm ez3 (cpI ?_))
      refine r_if_ne (tgt := 24) (pc' := 22) dX9_explains_19 rfl rfl (fun h4 => ?_) (fun h4 => ?_)
      · have h := ifp (zb_p0 h4) h
        refine r_iinc (pc' := 27) (v := _ + 1) (lv' := [(3, _), (0, _), (1, _), (2, _)]) dX9_explains_24 0 rfl rfl (by decide) rfl rfl ?_
        refine r_goto (tgt := 2) dX9_explains_27 rfl ?_
        exact ih _ _ h hR hE
      · have h := ifn (zb_n0 h4) h
        refine r_iconst (pc' := 23) (v := 0) dX9_explains_22 (by decide) rfl ?_
        cases h
        exact r_zret dX9_explains_23 rfl (by decide) (by decide) (by decide) (hR _ rfl)
set_option maxHeartbeats 4000000 in
theorem c_X9_explains {Ω : JO} {I : JI} {S : JS} {Q : JQ} {m : Nat} {x1 : Int32} {x2 : Int32} {r : Bool} (hm : Is9 S m) (h : s_X9_explains I m x1 x2 = some r) (hQ : Q (.inl (some (.int (zb r)))) I S) : Call Ω m_X9_explains [.ref m, .int x1, .int x2] I S Q := by
  refine call_of (by decide +kernel) rfl (Nat.le_of_ble_eq_true rfl) ?_
  change AA Ω m_X9_explains (FQ Ω m_X9_explains Q) 0 0 0 [(0, .ref m), (1, .int x1), (2, .int x2)] [] I S
  unfold s_X9_explains at h
  refine r_iconst (pc' := 1) (v := 0) dX9_explains_0 (by decide) rfl ?_
  refine r_istore_n (pc' := 2) (lv' := [(3, _), (0, _), (1, _), (2, _)]) dX9_explains_1 rfl (by decide) rfl rfl ?_
  obtain ⟨o6, eo6, h1, h⟩ := bl_e h
  refine l_X9_explains_L2 (Ω := Ω) hm _ _ _ eo6 (fun r q => ?_) (fun y5 q => ?_)
  · have h1 := h1 _ q
    cases h1
    exact hQ
  have h := h _ q
  refine r_iconst (pc' := 31) (v := 1) dX9_explains_30 (by decide) rfl ?_
  cases h
  exact r_zret dX9_explains_31 rfl (by decide) (by decide) (by decide) hQ
noncomputable def s_X9_suspicion_L25 (I : JI) (m : Nat) (q1 : Int32) : Nat → Int32 → Option ((Int32) ⊕ (Int32))
  | 0, _ => none
  | f + 1, w2 => gd (vp_in 3 2030) <| if (I (m + 1) (Int32.toNatClampNeg 3)) ≤ w2 then (some (.inr (w2))) else (bd (s_X9_explains I m q1 w2) fun z7 => if z7 = true then (some (.inl ((q1 * 12) + w2))) else (s_X9_suspicion_L25 I m q1 f (w2 + 1)))
noncomputable def s_X9_suspicion_L11 (I : JI) (m : Nat) : Nat → Int32 → Option ((Int32) ⊕ (Int32))
  | 0, _ => none
  | f + 1, w1 => gd (vp_in 3 2030) <| if (I (m + 1) (Int32.toNatClampNeg 3)) ≤ w1 then (some (.inr (w1))) else (bll (s_X9_suspicion_L25 I m w1 lf (w1 + 1)) fun y9 => s_X9_suspicion_L11 I m f (w1 + 1))
noncomputable def s_X9_suspicion (I : JI) (m : Nat) : Option (Int32) :=
  bd (s_X9_wrongs I m) fun v1 => if v1 = 0 then (some (-1)) else (bl (s_X9_suspicion_L11 I m lf 0) fun y11 => some (-1))
set_option maxHeartbeats 4000000 in
theorem l_X9_suspicion_L25 {Ω : JO} {S : JS} {Q : JQ} {I : JI} {m : Nat} {q1 : Int32} (hm : Is9 S m) : ∀ (f : Nat) (w2 : Int32) (o : ((Int32) ⊕ (Int32))), s_X9_suspicion_L25 I m q1 f w2 = some o → (∀ (r : Int32), o = .inl r → Q (.inl (some (.int r))) I S) → (∀ (y2 : Int32) , o = .inr (y2) → AA Ω m_X9_suspicion (FQ Ω m_X9_suspicion Q) 0 0 57 [(2, .int y2), (1, .int q1), (0, .ref m)] [] I S) → AA Ω m_X9_suspicion (FQ Ω m_X9_suspicion Q) 0 0 25 [(2, .int w2), (1, .int q1), (0, .ref m)] [] I S := by
  intro f
  induction f with
  | zero =>
    intro w2 o h hR hE
    rw [s_X9_suspicion_L25] at h
    cases h
  | succ f ih =>
    intro w2 o h hR hE
    rw [s_X9_suspicion_L25] at h
    refine r_iload_n (pc' := 26) dX9_suspicion_25 rfl 0 rfl rfl ?_
    refine r_aload_n (pc' := 27) dX9_suspicion_26 rfl 2 rfl rfl ?_
    refine r_getO (pc' := 30) dX9_suspicion_27 fa_X9_9 hm.o rfl hm.r1 rfl ?_
    refine r_iconst (pc' := 31) (v := 3) dX9_suspicion_30 (by decide) rfl ?_
    obtain ⟨g5, h⟩ := gd_e h
    refine r_iaload (pc' := 32) dX9_suspicion_31 hm.c1 g5 rfl ?_
    refine r_icmp_ge (tgt := 57) (pc' := 35) dX9_suspicion_32 rfl rfl (fun h6 => ?_) (fun h6 => ?_)
    · have h := ifp h6 h
      cases h
      exact hE _ rfl
    · have h := ifn h6 h
      refine r_aload_n (pc' := 36) dX9_suspicion_35 rfl 2 rfl rfl ?_
      refine r_iload_n (pc' := 37) dX9_suspicion_36 rfl 1 rfl rfl ?_
      refine r_iload_n (pc' := 38) dX9_suspicion_37 rfl 0 rfl rfl ?_
      obtain ⟨z7, ez7, h⟩ := bd_e h
      refine r_callV2 (pc' := 41) (k' := 0) (n' := 0) dX9_suspicion_38 mb_X9_explains mi_X9_explains hm.o (by decide) rfl lk_X9_387 rfl rfl rfl (Nat.le_of_ble_eq_true rfl) rfl (c_X9_explains hm ez7 (cpI ?_))
      refine r_if_eq (tgt := 51) (pc' := 44) dX9_suspicion_41 rfl rfl (fun h8 => ?_) (fun h8 => ?_)
      · have h := ifn (zb_n0 h8) h
        refine r_iinc (pc' := 54) (v := _ + 1) (lv' := [(2, _), (1, _), (0, _)]) dX9_suspicion_51 0 rfl rfl (by decide) rfl rfl ?_
        refine r_goto (tgt := 25) dX9_suspicion_54 rfl ?_
        exact ih _ _ h hR hE
      · have h := ifp (zb_p0 h8) h
        refine r_iload_n (pc' := 45) dX9_suspicion_44 rfl 1 rfl rfl ?_
        refine r_bipush (pc' := 47) (v := 12) dX9_suspicion_45 (by decide) rfl ?_
        refine r_imul (pc' := 48) dX9_suspicion_47 rfl ?_
        refine r_iload_n (pc' := 49) dX9_suspicion_48 rfl 0 rfl rfl ?_
        refine r_iadd (pc' := 50) dX9_suspicion_49 rfl ?_
        cases h
        exact r_iret dX9_suspicion_50 rfl (by decide) (by decide) (hR _ rfl)
set_option maxHeartbeats 4000000 in
theorem l_X9_suspicion_L11 {Ω : JO} {S : JS} {Q : JQ} {I : JI} {m : Nat} (hm : Is9 S m) : ∀ (f : Nat) (w1 : Int32) (o : ((Int32) ⊕ (Int32))), s_X9_suspicion_L11 I m f w1 = some o → (∀ (r : Int32), o = .inl r → Q (.inl (some (.int r))) I S) → (∀ (y1 : Int32) , o = .inr (y1) → AA Ω m_X9_suspicion (FQ Ω m_X9_suspicion Q) 0 0 63 [(1, .int y1), (0, .ref m)] [] I S) → AA Ω m_X9_suspicion (FQ Ω m_X9_suspicion Q) 0 0 11 [(1, .int w1), (0, .ref m)] [] I S := by
  intro f
  induction f with
  | zero =>
    intro w1 o h hR hE
    rw [s_X9_suspicion_L11] at h
    cases h
  | succ f ih =>
    intro w1 o h hR hE
    rw [s_X9_suspicion_L11] at h
    refine r_iload_n (pc' := 12) dX9_suspicion_11 rfl 0 rfl rfl ?_
    refine r_aload_n (pc' := 13) dX9_suspicion_12 rfl 1 rfl rfl ?_
    refine r_getO (pc' := 16) dX9_suspicion_13 fa_X9_9 hm.o rfl hm.r1 rfl ?_
    refine r_iconst (pc' := 17) (v := 3) dX9_suspicion_16 (by decide) rfl ?_
    obtain ⟨g3, h⟩ := gd_e h
    refine r_iaload (pc' := 18) dX9_suspicion_17 hm.c1 g3 rfl ?_
    refine r_icmp_ge (tgt := 63) (pc' := 21) dX9_suspicion_18 rfl rfl (fun h4 => ?_) (fun h4 => ?_)
    · have h := ifp h4 h
      cases h
      exact hE _ rfl
    · have h := ifn h4 h
      refine r_iload_n (pc' := 22) dX9_suspicion_21 rfl 0 rfl rfl ?_
      refine r_iconst (pc' := 23) (v := 1) dX9_suspicion_22 (by decide) rfl ?_
      refine r_iadd (pc' := 24) dX9_suspicion_23 rfl ?_
      refine r_istore_n (pc' := 25) (lv' := [(2, _), (1, _), (0, _)]) dX9_suspicion_24 rfl (by decide) rfl rfl ?_
      obtain ⟨o10, eo10, h1, h⟩ := bll_e h
      refine l_X9_suspicion_L25 (Ω := Ω) hm _ _ _ eo10 (fun r q => ?_) (fun y9 q => ?_)
      · have h1 := h1 _ q
        cases h1
        exact hR _ rfl
      have h := h _ q
      refine r_iinc (pc' := 60) (v := _ + 1) (lv' := [(1, _), (2, _), (0, _)]) dX9_suspicion_57 1 rfl rfl (by decide) rfl rfl ?_
      refine r_goto (tgt := 11) dX9_suspicion_60 rfl ?_
      refine aa_locs (ks := [0, 2]) (lv' := [(1, _), (0, _)]) rfl ?_
      exact ih _ _ h hR hE
set_option maxHeartbeats 4000000 in
theorem c_X9_suspicion {Ω : JO} {I : JI} {S : JS} {Q : JQ} {m : Nat} {r : Int32} (hm : Is9 S m) (h : s_X9_suspicion I m = some r) (hQ : Q (.inl (some (.int r))) I S) : Call Ω m_X9_suspicion [.ref m] I S Q := by
  refine call_of (by decide +kernel) rfl (Nat.le_of_ble_eq_true rfl) ?_
  change AA Ω m_X9_suspicion (FQ Ω m_X9_suspicion Q) 0 0 0 [(0, .ref m)] [] I S
  unfold s_X9_suspicion at h
  refine r_aload_n (pc' := 1) dX9_suspicion_0 rfl 0 rfl rfl ?_
  obtain ⟨v1, ev1, h⟩ := bd_e h
  refine r_callV0 (pc' := 4) (k' := 0) (n' := 0) dX9_suspicion_1 mb_X9_wrongs mi_X9_wrongs hm.o (by decide) rfl lk_X9_384 rfl rfl rfl (Nat.le_of_ble_eq_true rfl) rfl (c_X9_wrongs hm ev1 (cpI ?_))
  refine r_if_ne (tgt := 9) (pc' := 7) dX9_suspicion_4 rfl rfl (fun h2 => ?_) (fun h2 => ?_)
  · have h := ifn h2 h
    refine r_iconst (pc' := 10) (v := 0) dX9_suspicion_9 (by decide) rfl ?_
    refine r_istore_n (pc' := 11) (lv' := [(1, _), (0, _)]) dX9_suspicion_10 rfl (by decide) rfl rfl ?_
    obtain ⟨o12, eo12, h1, h⟩ := bl_e h
    refine l_X9_suspicion_L11 (Ω := Ω) hm _ _ _ eo12 (fun r q => ?_) (fun y11 q => ?_)
    · have h1 := h1 _ q
      cases h1
      exact hQ
    have h := h _ q
    refine r_iconst (pc' := 64) (v := -1) dX9_suspicion_63 (by decide) rfl ?_
    cases h
    exact r_iret dX9_suspicion_64 rfl (by decide) (by decide) hQ
  · have h := ifp h2 h
    refine r_iconst (pc' := 8) (v := -1) dX9_suspicion_7 (by decide) rfl ?_
    cases h
    exact r_iret dX9_suspicion_8 rfl (by decide) (by decide) hQ
noncomputable def s_X9_isHarness (I : JI) (m : Nat) (x1 : Int32) : Option (Bool) :=
  gd ((I m 6) = 0 ∨ (I m 6) = 1) <| if (nz (I m 6)) = true then (gd (vp_in 0 2030) <| if (s_X9_in x1 0 ((I (m + 1) (Int32.toNatClampNeg 0)) - 1)) = true then (some true) else (some false)) else (some false)
set_option maxHeartbeats 4000000 in
theorem c_X9_isHarness {Ω : JO} {I : JI} {S : JS} {Q : JQ} {m : Nat} {x1 : Int32} {r : Bool} (hm : Is9 S m) (h : s_X9_isHarness I m x1 = some r) (hQ : Q (.inl (some (.int (zb r)))) I S) : Call Ω m_X9_isHarness [.ref m, .int x1] I S Q := by
  refine call_of (by decide +kernel) rfl (Nat.le_of_ble_eq_true rfl) ?_
  change AA Ω m_X9_isHarness (FQ Ω m_X9_isHarness Q) 0 0 0 [(0, .ref m), (1, .int x1)] [] I S
  unfold s_X9_isHarness at h
  refine r_aload_n (pc' := 1) dX9_isHarness_0 rfl 0 rfl rfl ?_
  obtain ⟨g1, h⟩ := gd_e h
  refine r_getZ (pc' := 4) dX9_isHarness_1 fa_X9_53 hm.o rfl g1 rfl ?_
  refine r_if_eq (tgt := 27) (pc' := 7) dX9_isHarness_4 rfl rfl (fun h2 => ?_) (fun h2 => ?_)
  · have h := ifn (zb_n0 h2) h
    refine r_iconst (pc' := 28) (v := 0) dX9_isHarness_27 (by decide) rfl ?_
    cases h
    exact r_zret dX9_isHarness_28 rfl (by decide) (by decide) (by decide) hQ
  · have h := ifp (zb_p0 h2) h
    refine r_iload_n (pc' := 8) dX9_isHarness_7 rfl 1 rfl rfl ?_
    refine r_iconst (pc' := 9) (v := 0) dX9_isHarness_8 (by decide) rfl ?_
    refine r_aload_n (pc' := 10) dX9_isHarness_9 rfl 0 rfl rfl ?_
    refine r_getO (pc' := 13) dX9_isHarness_10 fa_X9_9 hm.o rfl hm.r1 rfl ?_
    refine r_iconst (pc' := 14) (v := 0) dX9_isHarness_13 (by decide) rfl ?_
    obtain ⟨g3, h⟩ := gd_e h
    refine r_iaload (pc' := 15) dX9_isHarness_14 hm.c1 g3 rfl ?_
    refine r_iconst (pc' := 16) (v := 1) dX9_isHarness_15 (by decide) rfl ?_
    refine r_isub (pc' := 17) dX9_isHarness_16 rfl ?_
    refine r_callS3 (pc' := 20) (k' := 0) (n' := 0) dX9_isHarness_17 mb_X9_in ms_X9_in lk_X9_78 rfl rfl rfl (Nat.le_of_ble_eq_true rfl) rfl (c_X9_in rfl (cpI ?_))
    refine r_if_eq (tgt := 27) (pc' := 23) dX9_isHarness_20 rfl rfl (fun h4 => ?_) (fun h4 => ?_)
    · have h := ifn (zb_n0 h4) h
      refine r_iconst (pc' := 28) (v := 0) dX9_isHarness_27 (by decide) rfl ?_
      cases h
      exact r_zret dX9_isHarness_28 rfl (by decide) (by decide) (by decide) hQ
    · have h := ifp (zb_p0 h4) h
      refine r_iconst (pc' := 24) (v := 1) dX9_isHarness_23 (by decide) rfl ?_
      refine r_goto (tgt := 28) dX9_isHarness_24 rfl ?_
      cases h
      exact r_zret dX9_isHarness_28 rfl (by decide) (by decide) (by decide) hQ
noncomputable def s_X9_isWarp (I : JI) (m : Nat) (x1 : Int32) : Option (Bool) :=
  gd ((I m 6) = 0 ∨ (I m 6) = 1) <| if (nz (I m 6)) = true then (gd (vp_in 2 2030) <| if (s_X9_in x1 0 ((I (m + 1) (Int32.toNatClampNeg 2)) - 1)) = true then (some true) else (some false)) else (some false)
set_option maxHeartbeats 4000000 in
theorem c_X9_isWarp {Ω : JO} {I : JI} {S : JS} {Q : JQ} {m : Nat} {x1 : Int32} {r : Bool} (hm : Is9 S m) (h : s_X9_isWarp I m x1 = some r) (hQ : Q (.inl (some (.int (zb r)))) I S) : Call Ω m_X9_isWarp [.ref m, .int x1] I S Q := by
  refine call_of (by decide +kernel) rfl (Nat.le_of_ble_eq_true rfl) ?_
  change AA Ω m_X9_isWarp (FQ Ω m_X9_isWarp Q) 0 0 0 [(0, .ref m), (1, .int x1)] [] I S
  unfold s_X9_isWarp at h
  refine r_aload_n (pc' := 1) dX9_isWarp_0 rfl 0 rfl rfl ?_
  obtain ⟨g1, h⟩ := gd_e h
  refine r_getZ (pc' := 4) dX9_isWarp_1 fa_X9_53 hm.o rfl g1 rfl ?_
  refine r_if_eq (tgt := 27) (pc' := 7) dX9_isWarp_4 rfl rfl (fun h2 => ?_) (fun h2 => ?_)
  · have h := ifn (zb_n0 h2) h
    refine r_iconst (pc' := 28) (v := 0) dX9_isWarp_27 (by decide) rfl ?_
    cases h
    exact r_zret dX9_isWarp_28 rfl (by decide) (by decide) (by decide) hQ
  · have h := ifp (zb_p0 h2) h
    refine r_iload_n (pc' := 8) dX9_isWarp_7 rfl 1 rfl rfl ?_
    refine r_iconst (pc' := 9) (v := 0) dX9_isWarp_8 (by decide) rfl ?_
    refine r_aload_n (pc' := 10) dX9_isWarp_9 rfl 0 rfl rfl ?_
    refine r_getO (pc' := 13) dX9_isWarp_10 fa_X9_9 hm.o rfl hm.r1 rfl ?_
    refine r_iconst (pc' := 14) (v := 2) dX9_isWarp_13 (by decide) rfl ?_
    obtain ⟨g3, h⟩ := gd_e h
    refine r_iaload (pc' := 15) dX9_isWarp_14 hm.c1 g3 rfl ?_
    refine r_iconst (pc' := 16) (v := 1) dX9_isWarp_15 (by decide) rfl ?_
    refine r_isub (pc' := 17) dX9_isWarp_16 rfl ?_
    refine r_callS3 (pc' := 20) (k' := 0) (n' := 0) dX9_isWarp_17 mb_X9_in ms_X9_in lk_X9_78 rfl rfl rfl (Nat.le_of_ble_eq_true rfl) rfl (c_X9_in rfl (cpI ?_))
    refine r_if_eq (tgt := 27) (pc' := 23) dX9_isWarp_20 rfl rfl (fun h4 => ?_) (fun h4 => ?_)
    · have h := ifn (zb_n0 h4) h
      refine r_iconst (pc' := 28) (v := 0) dX9_isWarp_27 (by decide) rfl ?_
      cases h
      exact r_zret dX9_isWarp_28 rfl (by decide) (by decide) (by decide) hQ
    · have h := ifp (zb_p0 h4) h
      refine r_iconst (pc' := 24) (v := 1) dX9_isWarp_23 (by decide) rfl ?_
      refine r_goto (tgt := 28) dX9_isWarp_24 rfl ?_
      cases h
      exact r_zret dX9_isWarp_28 rfl (by decide) (by decide) (by decide) hQ
noncomputable def s_X9_isCard (I : JI) (m : Nat) (x1 : Int32) : Option (Bool) :=
  gd ((I m 6) = 0 ∨ (I m 6) = 1) <| if (nz (I m 6)) = true then (gd (vp_in 3 2030) <| if (s_X9_in x1 0 ((I (m + 1) (Int32.toNatClampNeg 3)) - 1)) = true then (some true) else (some false)) else (some false)
set_option maxHeartbeats 4000000 in
theorem c_X9_isCard {Ω : JO} {I : JI} {S : JS} {Q : JQ} {m : Nat} {x1 : Int32} {r : Bool} (hm : Is9 S m) (h : s_X9_isCard I m x1 = some r) (hQ : Q (.inl (some (.int (zb r)))) I S) : Call Ω m_X9_isCard [.ref m, .int x1] I S Q := by
  refine call_of (by decide +kernel) rfl (Nat.le_of_ble_eq_true rfl) ?_
  change AA Ω m_X9_isCard (FQ Ω m_X9_isCard Q) 0 0 0 [(0, .ref m), (1, .int x1)] [] I S
  unfold s_X9_isCard at h
  refine r_aload_n (pc' := 1) dX9_isCard_0 rfl 0 rfl rfl ?_
  obtain ⟨g1, h⟩ := gd_e h
  refine r_getZ (pc' := 4) dX9_isCard_1 fa_X9_53 hm.o rfl g1 rfl ?_
  refine r_if_eq (tgt := 27) (pc' := 7) dX9_isCard_4 rfl rfl (fun h2 => ?_) (fun h2 => ?_)
  · have h := ifn (zb_n0 h2) h
    refine r_iconst (pc' := 28) (v := 0) dX9_isCard_27 (by decide) rfl ?_
    cases h
    exact r_zret dX9_isCard_28 rfl (by decide) (by decide) (by decide) hQ
  · have h := ifp (zb_p0 h2) h
    refine r_iload_n (pc' := 8) dX9_isCard_7 rfl 1 rfl rfl ?_
    refine r_iconst (pc' := 9) (v := 0) dX9_isCard_8 (by decide) rfl ?_
    refine r_aload_n (pc' := 10) dX9_isCard_9 rfl 0 rfl rfl ?_
    refine r_getO (pc' := 13) dX9_isCard_10 fa_X9_9 hm.o rfl hm.r1 rfl ?_
    refine r_iconst (pc' := 14) (v := 3) dX9_isCard_13 (by decide) rfl ?_
    obtain ⟨g3, h⟩ := gd_e h
    refine r_iaload (pc' := 15) dX9_isCard_14 hm.c1 g3 rfl ?_
    refine r_iconst (pc' := 16) (v := 1) dX9_isCard_15 (by decide) rfl ?_
    refine r_isub (pc' := 17) dX9_isCard_16 rfl ?_
    refine r_callS3 (pc' := 20) (k' := 0) (n' := 0) dX9_isCard_17 mb_X9_in ms_X9_in lk_X9_78 rfl rfl rfl (Nat.le_of_ble_eq_true rfl) rfl (c_X9_in rfl (cpI ?_))
    refine r_if_eq (tgt := 27) (pc' := 23) dX9_isCard_20 rfl rfl (fun h4 => ?_) (fun h4 => ?_)
    · have h := ifn (zb_n0 h4) h
      refine r_iconst (pc' := 28) (v := 0) dX9_isCard_27 (by decide) rfl ?_
      cases h
      exact r_zret dX9_isCard_28 rfl (by decide) (by decide) (by decide) hQ
    · have h := ifp (zb_p0 h4) h
      refine r_iconst (pc' := 24) (v := 1) dX9_isCard_23 (by decide) rfl ?_
      refine r_goto (tgt := 28) dX9_isCard_24 rfl ?_
      cases h
      exact r_zret dX9_isCard_28 rfl (by decide) (by decide) (by decide) hQ
noncomputable def s_X9_isRow (I : JI) (m : Nat) (x1 : Int32) : Option (Bool) :=
  gd ((I m 6) = 0 ∨ (I m 6) = 1) <| if (nz (I m 6)) = true then (gd (vp_in 5 2030) <| if (s_X9_in x1 0 ((I (m + 1) (Int32.toNatClampNeg 5)) - 1)) = true then (some true) else (some false)) else (some false)
set_option maxHeartbeats 4000000 in
theorem c_X9_isRow {Ω : JO} {I : JI} {S : JS} {Q : JQ} {m : Nat} {x1 : Int32} {r : Bool} (hm : Is9 S m) (h : s_X9_isRow I m x1 = some r) (hQ : Q (.inl (some (.int (zb r)))) I S) : Call Ω m_X9_isRow [.ref m, .int x1] I S Q := by
  refine call_of (by decide +kernel) rfl (Nat.le_of_ble_eq_true rfl) ?_
  change AA Ω m_X9_isRow (FQ Ω m_X9_isRow Q) 0 0 0 [(0, .ref m), (1, .int x1)] [] I S
  unfold s_X9_isRow at h
  refine r_aload_n (pc' := 1) dX9_isRow_0 rfl 0 rfl rfl ?_
  obtain ⟨g1, h⟩ := gd_e h
  refine r_getZ (pc' := 4) dX9_isRow_1 fa_X9_53 hm.o rfl g1 rfl ?_
  refine r_if_eq (tgt := 27) (pc' := 7) dX9_isRow_4 rfl rfl (fun h2 => ?_) (fun h2 => ?_)
  · have h := ifn (zb_n0 h2) h
    refine r_iconst (pc' := 28) (v := 0) dX9_isRow_27 (by decide) rfl ?_
    cases h
    exact r_zret dX9_isRow_28 rfl (by decide) (by decide) (by decide) hQ
  · have h := ifp (zb_p0 h2) h
    refine r_iload_n (pc' := 8) dX9_isRow_7 rfl 1 rfl rfl ?_
    refine r_iconst (pc' := 9) (v := 0) dX9_isRow_8 (by decide) rfl ?_
    refine r_aload_n (pc' := 10) dX9_isRow_9 rfl 0 rfl rfl ?_
    refine r_getO (pc' := 13) dX9_isRow_10 fa_X9_9 hm.o rfl hm.r1 rfl ?_
    refine r_iconst (pc' := 14) (v := 5) dX9_isRow_13 (by decide) rfl ?_
    obtain ⟨g3, h⟩ := gd_e h
    refine r_iaload (pc' := 15) dX9_isRow_14 hm.c1 g3 rfl ?_
    refine r_iconst (pc' := 16) (v := 1) dX9_isRow_15 (by decide) rfl ?_
    refine r_isub (pc' := 17) dX9_isRow_16 rfl ?_
    refine r_callS3 (pc' := 20) (k' := 0) (n' := 0) dX9_isRow_17 mb_X9_in ms_X9_in lk_X9_78 rfl rfl rfl (Nat.le_of_ble_eq_true rfl) rfl (c_X9_in rfl (cpI ?_))
    refine r_if_eq (tgt := 27) (pc' := 23) dX9_isRow_20 rfl rfl (fun h4 => ?_) (fun h4 => ?_)
    · have h := ifn (zb_n0 h4) h
      refine r_iconst (pc' := 28) (v := 0) dX9_isRow_27 (by decide) rfl ?_
      cases h
      exact r_zret dX9_isRow_28 rfl (by decide) (by decide) (by decide) hQ
    · have h := ifp (zb_p0 h4) h
      refine r_iconst (pc' := 24) (v := 1) dX9_isRow_23 (by decide) rfl ?_
      refine r_goto (tgt := 28) dX9_isRow_24 rfl ?_
      cases h
      exact r_zret dX9_isRow_28 rfl (by decide) (by decide) (by decide) hQ
noncomputable def s_X9_isColour (x0 : Int32) : Bool :=
  (s_X9_in x0 0 5)
set_option maxHeartbeats 4000000 in
theorem c_X9_isColour {Ω : JO} {I : JI} {S : JS} {Q : JQ} {x0 : Int32} {r : Bool} (h : s_X9_isColour x0 = r) (hQ : Q (.inl (some (.int (zb r)))) I S) : Call Ω m_X9_isColour [.int x0] I S Q := by
  refine call_of (by decide +kernel) rfl (Nat.le_of_ble_eq_true rfl) ?_
  change AA Ω m_X9_isColour (FQ Ω m_X9_isColour Q) 0 0 0 [(0, .int x0)] [] I S
  unfold s_X9_isColour at h
  refine r_iload_n (pc' := 1) dX9_isColour_0 rfl 0 rfl rfl ?_
  refine r_iconst (pc' := 2) (v := 0) dX9_isColour_1 (by decide) rfl ?_
  refine r_iconst (pc' := 3) (v := 5) dX9_isColour_2 (by decide) rfl ?_
  refine r_callS3 (pc' := 6) (k' := 0) (n' := 0) dX9_isColour_3 mb_X9_in ms_X9_in lk_X9_78 rfl rfl rfl (Nat.le_of_ble_eq_true rfl) rfl (c_X9_in rfl (cpI ?_))
  subst h
  exact r_zret dX9_isColour_6 rfl (zb01 _) (by decide) (by decide) hQ
noncomputable def s_X9_mayHarness (I : JI) (m : Nat) (x1 : Int32) : Option (Bool × JI) :=
  gd ((I m 6) = 0 ∨ (I m 6) = 1) <| bd (s_X9_isHarness I m x1) fun z2 => bd2 (s_X9_mayTwo I m (nz (I m 6)) z2) fun z4 I3 => some (z4, I3)
set_option maxHeartbeats 4000000 in
theorem c_X9_mayHarness {Ω : JO} {I : JI} {S : JS} {Q : JQ} {m : Nat} {x1 : Int32} {r : Bool} {J : JI} (hm : Is9 S m) (h : s_X9_mayHarness I m x1 = some (r, J)) (hQ : Q (.inl (some (.int (zb r)))) J S) : Call Ω m_X9_mayHarness [.ref m, .int x1] I S Q := by
  refine call_of (by decide +kernel) rfl (Nat.le_of_ble_eq_true rfl) ?_
  change AA Ω m_X9_mayHarness (FQ Ω m_X9_mayHarness Q) 0 0 0 [(0, .ref m), (1, .int x1)] [] I S
  unfold s_X9_mayHarness at h
  refine r_aload_n (pc' := 1) dX9_mayHarness_0 rfl 0 rfl rfl ?_
  refine r_aload_n (pc' := 2) dX9_mayHarness_1 rfl 0 rfl rfl ?_
  obtain ⟨g1, h⟩ := gd_e h
  refine r_getZ (pc' := 5) dX9_mayHarness_2 fa_X9_53 hm.o rfl g1 rfl ?_
  refine r_aload_n (pc' := 6) dX9_mayHarness_5 rfl 0 rfl rfl ?_
  refine r_iload_n (pc' := 7) dX9_mayHarness_6 rfl 1 rfl rfl ?_
  obtain ⟨z2, ez2, h⟩ := bd_e h
  refine r_callV1 (pc' := 10) (k' := 0) (n' := 0) dX9_mayHarness_7 mb_X9_isHarness mi_X9_isHarness hm.o (by decide) rfl lk_X9_390 rfl rfl rfl (Nat.le_of_ble_eq_true rfl) rfl (c_X9_isHarness hm ez2 (cpI ?_))
  obtain ⟨z4, I3, ez4, h⟩ := bd2_e h
  refine r_callV2 (pc' := 13) (k' := 0) (n' := 0) dX9_mayHarness_10 mb_X9_mayTwo mi_X9_mayTwo hm.o (by decide) rfl lk_X9_393 rfl rfl rfl (Nat.le_of_ble_eq_true rfl) rfl (c_X9_mayTwo hm ez4 (cpI ?_))
  cases h
  exact r_zret dX9_mayHarness_13 rfl (zb01 _) (by decide) (by decide) hQ
set_option maxHeartbeats 4000000 in
theorem fr_X9_mayHarness {I : JI} {m : Nat} {x1 : Int32} {r : Bool} {J : JI} {z : Nat} (h : s_X9_mayHarness I m x1 = some (r, J)) (hz_m : z ≠ m) : J z = I z := by
  unfold s_X9_mayHarness at h
  obtain ⟨g1, h⟩ := gd_e h
  obtain ⟨o2, e2, h⟩ := bd_e h
  obtain ⟨z4, I3, e3, h⟩ := bd2_e h
  cases h
  exact ((fr_X9_mayTwo e3 (by omega)).trans rfl)
set_option maxHeartbeats 4000000 in
theorem ff_X9_mayHarness {I : JI} {m : Nat} {x1 : Int32} {r : Bool} {J : JI} {k : Nat} (h : s_X9_mayHarness I m x1 = some (r, J)) (hk0 : k ≠ 0) : J m k = I m k := by
  unfold s_X9_mayHarness at h
  obtain ⟨g1, h⟩ := gd_e h
  obtain ⟨o2, e2, h⟩ := bd_e h
  obtain ⟨z4, I3, e3, h⟩ := bd2_e h
  cases h
  exact ((ff_X9_mayTwo e3 hk0).trans rfl)
noncomputable def s_X9_mayWarp (I : JI) (m : Nat) (x1 : Int32) : Option (Bool × JI) :=
  gd ((I m 6) = 0 ∨ (I m 6) = 1) <| bd (s_X9_isWarp I m x1) fun z2 => bd2 (s_X9_mayTwo I m (nz (I m 6)) z2) fun z4 I3 => some (z4, I3)
set_option maxHeartbeats 4000000 in
theorem c_X9_mayWarp {Ω : JO} {I : JI} {S : JS} {Q : JQ} {m : Nat} {x1 : Int32} {r : Bool} {J : JI} (hm : Is9 S m) (h : s_X9_mayWarp I m x1 = some (r, J)) (hQ : Q (.inl (some (.int (zb r)))) J S) : Call Ω m_X9_mayWarp [.ref m, .int x1] I S Q := by
  refine call_of (by decide +kernel) rfl (Nat.le_of_ble_eq_true rfl) ?_
  change AA Ω m_X9_mayWarp (FQ Ω m_X9_mayWarp Q) 0 0 0 [(0, .ref m), (1, .int x1)] [] I S
  unfold s_X9_mayWarp at h
  refine r_aload_n (pc' := 1) dX9_mayWarp_0 rfl 0 rfl rfl ?_
  refine r_aload_n (pc' := 2) dX9_mayWarp_1 rfl 0 rfl rfl ?_
  obtain ⟨g1, h⟩ := gd_e h
  refine r_getZ (pc' := 5) dX9_mayWarp_2 fa_X9_53 hm.o rfl g1 rfl ?_
  refine r_aload_n (pc' := 6) dX9_mayWarp_5 rfl 0 rfl rfl ?_
  refine r_iload_n (pc' := 7) dX9_mayWarp_6 rfl 1 rfl rfl ?_
  obtain ⟨z2, ez2, h⟩ := bd_e h
  refine r_callV1 (pc' := 10) (k' := 0) (n' := 0) dX9_mayWarp_7 mb_X9_isWarp mi_X9_isWarp hm.o (by decide) rfl lk_X9_397 rfl rfl rfl (Nat.le_of_ble_eq_true rfl) rfl (c_X9_isWarp hm ez2 (cpI ?_))
  obtain ⟨z4, I3, ez4, h⟩ := bd2_e h
  refine r_callV2 (pc' := 13) (k' := 0) (n' := 0) dX9_mayWarp_10 mb_X9_mayTwo mi_X9_mayTwo hm.o (by decide) rfl lk_X9_393 rfl rfl rfl (Nat.le_of_ble_eq_true rfl) rfl (c_X9_mayTwo hm ez4 (cpI ?_))
  cases h
  exact r_zret dX9_mayWarp_13 rfl (zb01 _) (by decide) (by decide) hQ
set_option maxHeartbeats 4000000 in
theorem fr_X9_mayWarp {I : JI} {m : Nat} {x1 : Int32} {r : Bool} {J : JI} {z : Nat} (h : s_X9_mayWarp I m x1 = some (r, J)) (hz_m : z ≠ m) : J z = I z := by
  unfold s_X9_mayWarp at h
  obtain ⟨g1, h⟩ := gd_e h
  obtain ⟨o2, e2, h⟩ := bd_e h
  obtain ⟨z4, I3, e3, h⟩ := bd2_e h
  cases h
  exact ((fr_X9_mayTwo e3 (by omega)).trans rfl)
set_option maxHeartbeats 4000000 in
theorem ff_X9_mayWarp {I : JI} {m : Nat} {x1 : Int32} {r : Bool} {J : JI} {k : Nat} (h : s_X9_mayWarp I m x1 = some (r, J)) (hk0 : k ≠ 0) : J m k = I m k := by
  unfold s_X9_mayWarp at h
  obtain ⟨g1, h⟩ := gd_e h
  obtain ⟨o2, e2, h⟩ := bd_e h
  obtain ⟨z4, I3, e3, h⟩ := bd2_e h
  cases h
  exact ((ff_X9_mayTwo e3 hk0).trans rfl)
noncomputable def s_X9_mayCard (I : JI) (m : Nat) (x1 : Int32) : Option (Bool × JI) :=
  gd ((I m 6) = 0 ∨ (I m 6) = 1) <| bd (s_X9_isCard I m x1) fun z2 => bd2 (s_X9_mayTwo I m (nz (I m 6)) z2) fun z4 I3 => some (z4, I3)
set_option maxHeartbeats 4000000 in
theorem c_X9_mayCard {Ω : JO} {I : JI} {S : JS} {Q : JQ} {m : Nat} {x1 : Int32} {r : Bool} {J : JI} (hm : Is9 S m) (h : s_X9_mayCard I m x1 = some (r, J)) (hQ : Q (.inl (some (.int (zb r)))) J S) : Call Ω m_X9_mayCard [.ref m, .int x1] I S Q := by
  refine call_of (by decide +kernel) rfl (Nat.le_of_ble_eq_true rfl) ?_
  change AA Ω m_X9_mayCard (FQ Ω m_X9_mayCard Q) 0 0 0 [(0, .ref m), (1, .int x1)] [] I S
  unfold s_X9_mayCard at h
  refine r_aload_n (pc' := 1) dX9_mayCard_0 rfl 0 rfl rfl ?_
  refine r_aload_n (pc' := 2) dX9_mayCard_1 rfl 0 rfl rfl ?_
  obtain ⟨g1, h⟩ := gd_e h
  refine r_getZ (pc' := 5) dX9_mayCard_2 fa_X9_53 hm.o rfl g1 rfl ?_
  refine r_aload_n (pc' := 6) dX9_mayCard_5 rfl 0 rfl rfl ?_
  refine r_iload_n (pc' := 7) dX9_mayCard_6 rfl 1 rfl rfl ?_
  obtain ⟨z2, ez2, h⟩ := bd_e h
  refine r_callV1 (pc' := 10) (k' := 0) (n' := 0) dX9_mayCard_7 mb_X9_isCard mi_X9_isCard hm.o (by decide) rfl lk_X9_400 rfl rfl rfl (Nat.le_of_ble_eq_true rfl) rfl (c_X9_isCard hm ez2 (cpI ?_))
  obtain ⟨z4, I3, ez4, h⟩ := bd2_e h
  refine r_callV2 (pc' := 13) (k' := 0) (n' := 0) dX9_mayCard_10 mb_X9_mayTwo mi_X9_mayTwo hm.o (by decide) rfl lk_X9_393 rfl rfl rfl (Nat.le_of_ble_eq_true rfl) rfl (c_X9_mayTwo hm ez4 (cpI ?_))
  cases h
  exact r_zret dX9_mayCard_13 rfl (zb01 _) (by decide) (by decide) hQ
set_option maxHeartbeats 4000000 in
theorem fr_X9_mayCard {I : JI} {m : Nat} {x1 : Int32} {r : Bool} {J : JI} {z : Nat} (h : s_X9_mayCard I m x1 = some (r, J)) (hz_m : z ≠ m) : J z = I z := by
  unfold s_X9_mayCard at h
  obtain ⟨g1, h⟩ := gd_e h
  obtain ⟨o2, e2, h⟩ := bd_e h
  obtain ⟨z4, I3, e3, h⟩ := bd2_e h
  cases h
  exact ((fr_X9_mayTwo e3 (by omega)).trans rfl)
set_option maxHeartbeats 4000000 in
theorem ff_X9_mayCard {I : JI} {m : Nat} {x1 : Int32} {r : Bool} {J : JI} {k : Nat} (h : s_X9_mayCard I m x1 = some (r, J)) (hk0 : k ≠ 0) : J m k = I m k := by
  unfold s_X9_mayCard at h
  obtain ⟨g1, h⟩ := gd_e h
  obtain ⟨o2, e2, h⟩ := bd_e h
  obtain ⟨z4, I3, e3, h⟩ := bd2_e h
  cases h
  exact ((ff_X9_mayTwo e3 hk0).trans rfl)
