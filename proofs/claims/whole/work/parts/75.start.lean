/-! the law's beginning -/
def jS0 (c : Nat) : JS := ([], fun _ => 0, fun _ => 0, fun _ _ => none, fun _ _ => 0, fun _ _ => 0, some c)
theorem law_start {Ω : JO} {b N c : Nat} {xs : Nat → Int32} {I : JI} (hN : N ≤ 3072) : AA Ω m_L_law (LF Ω b N xs) 0 0 0 [(0, .ref b)] [] I (jS0 c) := by
  refine r_new (ci := 8) (pc' := 3) dL_law_0 cw_L_8 nwX8 rfl (by decide) (by decide) rfl ?_
  refine r_dup (pc' := 4) dL_law_3 rfl rfl ?_
  refine r_callI0 (pc' := 7) (k' := 128) (n' := 5414) dL_law_4 mb_X8_init mc_X8_init lk_L_200 rfl rfl rfl (Nat.le_of_ble_eq_true rfl) rfl (c_X8_init ⟨mem_z, by rw [nwS_K, if_pos rfl]⟩ rfl (fun I1 S1 l8 x1 t1 f1 f2 f3 f4 f5 f6 f7 f8 f9 => cpV ?_))
  refine r_astore_n (pc' := 8) (lv' := [(1, .ref c), (0, .ref b)]) dL_law_7 rfl (by decide) rfl rfl ?_
  refine r_new (ci := 9) (pc' := 11) dL_law_8 cw_L_201 nwX9 t1 (by decide) (by decide) rfl ?_
  refine r_dup (pc' := 12) dL_law_11 rfl rfl ?_
  refine r_callI0 (pc' := 15) (k' := 139) (n' := 31707) dL_law_12 mb_X9_init mc_X9_init lk_L_203 rfl rfl rfl (Nat.le_of_ble_eq_true rfl) rfl (c_X9_init ⟨mem_z, by rw [nwS_K, if_pos rfl]⟩ rfl (fun I2 S2 l9 x2 t2 g1 g2 g3 => cpV ?_))
  refine r_astore_n (pc' := 16) (lv' := [(2, .ref (c + 128)), (1, .ref c), (0, .ref b)]) dL_law_15 rfl (by decide) rfl rfl ?_
  refine r_iconst (v := 1) (pc' := 17) dL_law_16 rfl rfl ?_
  refine r_newL (N := 1) (z := c + 139) (pc' := 19) dL_law_17 t2 (by decide) (by decide) (by decide) (by decide) (by decide) rfl ?_
  refine r_astore_n (pc' := 20) (lv' := [(3, .ref (c + 139)), (2, .ref (c + 128)), (1, .ref c), (0, .ref b)]) dL_law_19 rfl (by decide) rfl rfl ?_
  refine r_iconst (v := 1) (pc' := 21) dL_law_20 rfl rfl ?_
  refine r_newD (N := 1) (z := c + 140) (pc' := 23) dL_law_21 rfl (by decide) (by decide) (by decide) (by decide) (by decide) rfl ?_
  refine r_astore (pc' := 25) (lv' := [(4, .ref (c + 140)), (3, .ref (c + 139)), (2, .ref (c + 128)), (1, .ref c), (0, .ref b)]) dL_law_23 (by decide) rfl rfl ?_
  refine r_iconst (v := nI (6 * 0)) (pc' := 26) dL_law_25 (by decide) rfl ?_
  refine r_istore (pc' := 28) (lv' := lvL b c (nI (6 * 0))) dL_law_26 (by decide) rfl rfl ?_
  refine aa_noT ?_
  refine law_loop hN N 0 _ _ _ _ (c + 104) (c + 4) (by omega) (Nat.le_of_ble_eq_true rfl) (Nat.le_of_ble_eq_true rfl) (by omega) ⟨⟨?_, ?_, ?_, ?_⟩, ?_⟩
  · exact (l8.dep (SD_nw (SD_nw (SD_ex x2 (SD_nw SD_rf (Or.inr (Nat.le_refl _))) (Nat.le_refl _)) (Or.inr (by omega))) (Or.inr (by omega)))).no
  · exact (l9.dep (SD_nw (SD_nw SD_rf (Or.inr (by omega))) (Or.inr (by omega)))).no
  · exact (Ar0_z.dep (SD_nw SD_rf (Or.inr (by omega)))).no
  · exact Ar0_z.no
  · have eI : ∀ z, z < c + 128 → nwI (nwI I2 (c + 139)) (c + 140) z = I1 z := fun z hz => by
      rw [nwI_o (by omega), nwI_o (by omega), x2.Ib hz, nwI_o (by omega)]
    have eJ : ∀ z, z < c + 139 → nwI (nwI I2 (c + 139)) (c + 140) z = I2 z := fun z hz => by
      rw [nwI_o (by omega), nwI_o (by omega)]
    have em : ∀ j, j ≠ 11 → nwI (nwI I2 (c + 139)) (c + 140) (c + 128) j = 0 := fun j hj => by
      rw [eJ _ (by omega), g1 j hj, nwI_z]
    refine ⟨⟨0, by omega, ?_, ?_, fun k hk => absurd hk (by omega)⟩, ⟨0, by omega, ?_, ?_, fun k hk => absurd hk (by omega)⟩, ⟨?_, ?_⟩, Or.inl ⟨⟨?_, ?_⟩, ?_, ⟨0, by omega, ?_⟩, ?_, ⟨?_, ?_⟩, ?_, ?_⟩⟩
    · rw [eI _ (by omega)]; exact f4
    · exact em 9 (by decide)
    · rw [eI _ (by omega)]; exact f5
    · exact em 22 (by decide)
    · rw [em 10 (by decide), eI _ (by omega)]; exact f2.symm
    · rw [eJ _ (by omega), g2, eI _ (by omega)]; exact f3.symm
    · rw [eI _ (by omega)]; exact f1
    · exact em 6 (by decide)
    · rw [eI _ (by omega)]; exact f7
    · rw [eI _ (by omega)]; exact f6
    · exact em 7 (by decide)
    · rw [eI _ (by omega)]; exact f8
    · rw [eJ _ (by omega), g3]
    · rw [eI _ (by omega)]; exact f9
    · rw [eJ _ (by omega), g3]
