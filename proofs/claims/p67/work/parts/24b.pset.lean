/-! parseSetup's contract: the two looms change places -/
section SWP
variable {S S' : JS} {a x k ty n lo hi P L c : Nat} {r : Option Nat}
theorem ArE_st (h : ArE ty S a n) : ArE ty (stR S x k r) a n := h
theorem o_st {ci : Nat} (h : a ∈ sL S ∧ sK S a = ci) : a ∈ sL (stR S x k r) ∧ sK (stR S x k r) a = ci := h
theorem Is0_st (h : Is0 S a) (hx : x < a ∨ a + 5 ≤ x) : Is0 (stR S x k r) a := by
  obtain ⟨h0, ⟨r0, c0⟩, ⟨r1, c1⟩, ⟨r2, c2⟩, ⟨r3, c3⟩⟩ := h
  exact ⟨h0, ⟨by rw [stR_R3 (by omega)]; exact r0, c0⟩, ⟨by rw [stR_R3 (by omega)]; exact r1, c1⟩, ⟨by rw [stR_R3 (by omega)]; exact r2, c2⟩, ⟨by rw [stR_R3 (by omega)]; exact r3, c3⟩⟩
theorem Is2_st (h : Is2 S a) (hx : x < a ∨ a + 2 ≤ x) : Is2 (stR S x k r) a := by
  obtain ⟨h0, ⟨r0, c0⟩⟩ := h
  exact ⟨h0, ⟨by rw [stR_R3 (by omega)]; exact r0, c0⟩⟩
theorem Is4_st (h : Is4 S a) (hx : x < a ∨ a + 2 ≤ x) : Is4 (stR S x k r) a := by
  obtain ⟨h0, ⟨r0, c0⟩⟩ := h
  exact ⟨h0, ⟨by rw [stR_R3 (by omega)]; exact r0, c0⟩⟩
theorem Is7_st (h : Is7 S a) (hx : x < a ∨ a + 7 ≤ x) : Is7 (stR S x k r) a := by
  obtain ⟨h0, ⟨r0, c0⟩, ⟨r1, c1⟩, ⟨r2, c2⟩, ⟨r3, c3⟩, ⟨r4, c4⟩, ⟨r5, c5⟩⟩ := h
  exact ⟨h0, ⟨by rw [stR_R3 (by omega)]; exact r0, c0⟩, ⟨by rw [stR_R3 (by omega)]; exact r1, c1⟩, ⟨by rw [stR_R3 (by omega)]; exact r2, c2⟩, ⟨by rw [stR_R3 (by omega)]; exact r3, c3⟩, ⟨by rw [stR_R3 (by omega)]; exact r4, c4⟩, ⟨by rw [stR_R3 (by omega)]; exact r5, c5⟩⟩
theorem Is6_st (h : Is6 S a) (hx : x < a ∨ a + 8 ≤ x) : Is6 (stR S x k r) a := by
  obtain ⟨h0, ⟨r0, c0⟩⟩ := h
  exact ⟨h0, ⟨by rw [stR_R3 (by omega)]; exact r0, Is7_st c0 (by omega)⟩⟩
theorem Is3_st (h : Is3 S a) (hx : x < a ∨ a + 24 ≤ x) : Is3 (stR S x k r) a := by
  obtain ⟨h0, ⟨r0, c0⟩, ⟨r1, c1⟩, ⟨r2, c2⟩, ⟨r3, c3⟩, ⟨r4, c4⟩, ⟨r5, c5⟩, ⟨r6, c6⟩⟩ := h
  exact ⟨h0, ⟨by rw [stR_R3 (by omega)]; exact r0, c0⟩, ⟨by rw [stR_R3 (by omega)]; exact r1, c1⟩, ⟨by rw [stR_R3 (by omega)]; exact r2, c2⟩, ⟨by rw [stR_R3 (by omega)]; exact r3, c3⟩, ⟨by rw [stR_R3 (by omega)]; exact r4, Is0_st c4 (by omega)⟩, ⟨by rw [stR_R3 (by omega)]; exact r5, Is7_st c5 (by omega)⟩, ⟨by rw [stR_R3 (by omega)]; exact r6, Is7_st c6 (by omega)⟩⟩
theorem Is1_st (h : Is1 S a) (hx : x < a ∨ a + 58 ≤ x) : Is1 (stR S x k r) a := by
  obtain ⟨h0, ⟨r0, c0⟩, hs⟩ := h
  exact ⟨h0, ⟨by rw [stR_R3 (by omega)]; exact r0, c0⟩, fun i hi => ⟨by rw [stR_R3 (by omega)]; exact (hs i hi).1, Is7_st (hs i hi).2 (by omega)⟩⟩
theorem Is8_swap (h : Is8 S c L P) : Is8 (stR (stR S (c + 1) 1 (some L)) c 5 (some P)) c P L := by
  obtain ⟨h0, ⟨r0, ⟨p0, ⟨pr0, pc0⟩, ⟨pr1, pc1⟩⟩⟩, ⟨r1, c1⟩, ⟨r2, c2⟩, ⟨r3, c3⟩, ⟨r4, c4⟩, ⟨r5, c5⟩, he, ht⟩ := h
  refine ⟨h0, ⟨?_, ⟨p0, ⟨?_, Is2_st (Is2_st pc0 (by omega)) (by omega)⟩, ⟨?_, Is3_st (Is3_st c5 (by omega)) (by omega)⟩⟩⟩, ⟨?_, Is4_st (Is4_st c1 (by omega)) (by omega)⟩, ⟨?_, Is1_st (Is1_st c2 (by omega)) (by omega)⟩, ⟨?_, Is6_st (Is6_st c3 (by omega)) (by omega)⟩, ⟨?_, Is6_st (Is6_st c4 (by omega)) (by omega)⟩, ⟨stR_R1, Is3_st (Is3_st pc1 (by omega)) (by omega)⟩, by omega, ht⟩
  · rw [stR_R2 (by decide), stR_R3 (by omega)]; exact r0
  · rw [stR_R3 (by omega), stR_R2 (by decide)]; exact pr0
  · rw [stR_R3 (by omega), stR_R1]
  · rw [stR_R2 (by decide), stR_R3 (by omega)]; exact r1
  · rw [stR_R2 (by decide), stR_R3 (by omega)]; exact r2
  · rw [stR_R2 (by decide), stR_R3 (by omega)]; exact r3
  · rw [stR_R2 (by decide), stR_R3 (by omega)]; exact r4
end SWP
def eIS : String := "java/lang/IllegalStateException"
def eIX : String := "java/lang/IndexOutOfBoundsException"
def eIA : String := "java/lang/IllegalArgumentException"
noncomputable def s_X8_parseSetup (I : JI) (c L P : Nat) (x : Int32) : Option ((Int32 ⊕ String) × JI) :=
  if x < 0 then some (.inr eIX, I) else if x ≤ I (c + 2) 1 then (bd2 (s_X5_parse I (c + 1) P x) fun z I1 => if z = true then some (.inl (I1 (P + 5) 3), stI (stI (s_X1_forgetAll (stI I1 c 6 1) (c + 30)) (c + 88) 1 0) (c + 96) 1 0) else some (.inr eIA, I1)) else some (.inr eIX, I)
set_option maxHeartbeats 4000000 in
theorem c_X8_parseSetup {Ω : JO} {I : JI} {S : JS} {Q : JQ} {c : Nat} {L : Nat} {P : Nat} {x1 : Int32} {r : (Int32) ⊕ String} {J : JI} (hc : Is8 S c L P) (hT : sT S = none) (h : s_X8_parseSetup I c L P x1 = some (r, J)) (hQ : (∀ v, r = .inl v → Q (.inl (some (.int v))) J (stR (stR S (c + 1) 1 (some L)) c 5 (some P))) ∧ (∀ E, r = .inr E → Q (.inr E) J S)) : Call Ω m_X8_parseSetup [.ref c, .int x1] I S Q := by
  refine call_of (by decide +kernel) rfl (Nat.le_of_ble_eq_true rfl) ?_
  change AA Ω m_X8_parseSetup (FQ Ω m_X8_parseSetup Q) 0 0 0 [(0, .ref c), (1, .int x1)] [] I S
  unfold s_X8_parseSetup at h
  have thr : ∀ {lv : List (Nat × Value)} {I' : JI}, Q (.inr eIX) I' S → AA Ω m_X8_parseSetup (FQ Ω m_X8_parseSetup Q) 0 0 18 lv [] I' S := fun hq =>
    r_throw dX8_parseSetup_18 dX8_parseSetup_21 dX8_parseSetup_22 dX8_parseSetup_24 dX8_parseSetup_27 th_X8_parseSetup_18 rfl (by decide) (Nat.le_of_ble_eq_true rfl) (by decide) (by decide) hT hq
  refine r_iload_n (pc' := 1) dX8_parseSetup_0 rfl 1 rfl rfl ?_
  refine r_if_lt (tgt := 18) (pc' := 4) dX8_parseSetup_1 rfl rfl (fun h1 => ?_) (fun h1 => ?_)
  · rw [if_pos h1] at h
    cases h
    exact thr (hQ.2 _ rfl)
  · rw [if_neg h1] at h
    refine r_iload_n (pc' := 5) dX8_parseSetup_4 rfl 1 rfl rfl ?_
    refine r_aload_n (pc' := 6) dX8_parseSetup_5 rfl 0 rfl rfl ?_
    refine r_getO (pc' := 9) dX8_parseSetup_6 fa_X8_10 hc.o rfl hc.r0 rfl ?_
    refine r_getO (pc' := 12) dX8_parseSetup_9 fa_X8_51 hc.c0.o rfl hc.c0.r0 rfl ?_
    refine r_getI (pc' := 15) dX8_parseSetup_12 fa_X8_55 hc.c0.c0.o rfl rfl ?_
    refine r_icmp_le (tgt := 28) (pc' := 18) dX8_parseSetup_15 rfl rfl (fun h2 => ?_) (fun h2 => ?_)
    · rw [if_pos (show x1 ≤ I (c + 2) 1 from h2)] at h
      obtain ⟨z, I1, e1, h⟩ := bd2_e h
      refine r_aload_n (pc' := 29) dX8_parseSetup_28 rfl 0 rfl rfl ?_
      refine r_getO (pc' := 32) dX8_parseSetup_29 fa_X8_10 hc.o rfl hc.r0 rfl ?_
      refine r_iload_n (pc' := 33) dX8_parseSetup_32 rfl 1 rfl rfl ?_
      refine r_callV1 (pc' := 36) (k' := 0) (n' := 0) dX8_parseSetup_33 mb_X5_parse mi_X5_parse hc.c0.o (by decide) rfl lk_X8_72 rfl rfl rfl (Nat.le_of_ble_eq_true rfl) rfl (c_X5_parse hc.c0 e1 (cpI ?_))
      refine r_if_ne (tgt := 49) (pc' := 39) dX8_parseSetup_36 rfl rfl (fun h3 => ?_) (fun h3 => ?_)
      · have h := ifp (zb_p0 h3) h
        cases h
        have hs := Is8_swap hc
        refine r_aload_n (pc' := 50) dX8_parseSetup_49 rfl 0 rfl rfl ?_
        refine r_getO (pc' := 53) dX8_parseSetup_50 fa_X8_10 hc.o rfl hc.r0 rfl ?_
        refine r_getO (pc' := 56) dX8_parseSetup_53 fa_X8_81 hc.c0.o rfl hc.c0.r1 rfl ?_
        refine r_astore_n (pc' := 57) (lv' := [(2, _), (0, _), (1, _)]) dX8_parseSetup_56 rfl (by decide) rfl rfl ?_
        refine r_aload_n (pc' := 58) dX8_parseSetup_57 rfl 1 rfl rfl ?_
        refine r_getO (pc' := 61) dX8_parseSetup_58 fa_X8_10 hc.o rfl hc.r0 rfl ?_
        refine r_aload_n (pc' := 62) dX8_parseSetup_61 rfl 1 rfl rfl ?_
        refine r_getO (pc' := 65) dX8_parseSetup_62 fa_X8_43 hc.o rfl hc.r5 rfl ?_
        refine r_putR (pc' := 68) dX8_parseSetup_65 fa_X8_81 hc.c0.o rfl ⟨rfl, rfl⟩ (fun h => by cases h) rfl ?_
        refine r_aload_n (pc' := 69) dX8_parseSetup_68 rfl 1 rfl rfl ?_
        refine r_aload_n (pc' := 70) dX8_parseSetup_69 rfl 0 rfl rfl ?_
        refine r_putR (pc' := 73) dX8_parseSetup_70 fa_X8_43 (o_st hc.o) rfl ⟨rfl, rfl⟩ (fun h => by cases h) rfl ?_
        refine r_aload_n (pc' := 74) dX8_parseSetup_73 rfl 1 rfl rfl ?_
        refine r_iconst (pc' := 75) (v := 1) dX8_parseSetup_74 (by decide) rfl ?_
        refine r_putZ (pc' := 78) dX8_parseSetup_75 fa_X8_47 hs.o rfl (Or.inr rfl) rfl ?_
        refine r_aload_n (pc' := 79) dX8_parseSetup_78 rfl 1 rfl rfl ?_
        refine r_getO (pc' := 82) dX8_parseSetup_79 fa_X8_26 hs.o rfl hs.r2 rfl ?_
        refine r_callV0 (pc' := 85) (k' := 0) (n' := 0) dX8_parseSetup_82 mb_X1_forgetAll mi_X1_forgetAll hs.c2.o (by decide) rfl lk_X8_82 rfl rfl rfl (Nat.le_of_ble_eq_true rfl) rfl (c_X1_forgetAll hs.c2 rfl (cpV ?_))
        refine r_aload_n (pc' := 86) dX8_parseSetup_85 rfl 1 rfl rfl ?_
        refine r_getO (pc' := 89) dX8_parseSetup_86 fa_X8_33 hs.o rfl hs.r3 rfl ?_
        refine r_iconst (pc' := 90) (v := 0) dX8_parseSetup_89 (by decide) rfl ?_
        refine r_putZ (pc' := 93) dX8_parseSetup_90 fa_X8_85 hs.c3.o rfl (Or.inl rfl) rfl ?_
        refine r_aload_n (pc' := 94) dX8_parseSetup_93 rfl 1 rfl rfl ?_
        refine r_getO (pc' := 97) dX8_parseSetup_94 fa_X8_37 hs.o rfl hs.r4 rfl ?_
        refine r_iconst (pc' := 98) (v := 0) dX8_parseSetup_97 (by decide) rfl ?_
        refine r_putZ (pc' := 101) dX8_parseSetup_98 fa_X8_85 hs.c4.o rfl (Or.inl rfl) rfl ?_
        refine r_aload_n (pc' := 102) dX8_parseSetup_101 rfl 1 rfl rfl ?_
        refine r_getO (pc' := 105) dX8_parseSetup_102 fa_X8_43 hs.o rfl hs.r5 rfl ?_
        refine r_getO (pc' := 108) dX8_parseSetup_105 fa_X8_88 hs.c5.o rfl hs.c5.r10 rfl ?_
        refine r_getI (pc' := 111) dX8_parseSetup_108 fa_X8_92 hs.c5.c10.o rfl rfl ?_
        have hv : stI (stI (s_X1_forgetAll (stI I1 c 6 1) (c + 30)) (c + 88) 1 0) (c + 96) 1 0 (P + 5) 3 = I1 (P + 5) 3 := by
          have he := hc.e
          rw [stI_ne (by omega), stI_ne (by omega), fr_X1_forgetAll (by omega), stI_ne (by omega)]
        rw [hv]
        exact r_iret dX8_parseSetup_111 rfl (by decide) (by decide) (hQ.1 _ rfl)
      · have h := ifn (zb_n0 h3) h
        cases h
        exact r_throw dX8_parseSetup_39 dX8_parseSetup_42 dX8_parseSetup_43 dX8_parseSetup_45 dX8_parseSetup_48 th_X8_parseSetup_39 rfl (by decide) (Nat.le_of_ble_eq_true rfl) (by decide) (by decide) hT (hQ.2 _ rfl)
    · rw [if_neg (show ¬ x1 ≤ I (c + 2) 1 from h2)] at h
      cases h
      exact thr (hQ.2 _ rfl)
