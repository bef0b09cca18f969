/-! the law: cell, loom -/
theorem and_mask {k : Nat} (hk : k ≤ 31) (x : Int32) : ∃ v : Nat, v < 2 ^ k ∧ x &&& nI (2 ^ k - 1) = nI v := by
  refine LB.nat (n := k) (fun j hj => ?_) hk
  rw [bt_and]
  by_cases h : j < 32
  · rw [bt_nI h, Nat.testBit_two_pow_sub_one, decide_eq_false (by omega), Bool.and_false]
  · rw [bt_ge (by omega)]; rfl
section LMR
variable {Ω : JO} {Y Z : JM} {F : JF} {k n k' n' pc pc' : Nat} {lv lv' : List (Nat × Value)} {st rest : List Value} {I : JI} {S : JS}
theorem r_iandM {x y : Int32} {q : Nat} (hd : decode Y.2.1 pc = .ok (.iand, 1)) (hk : q ≤ 31) (hy : y = nI (2 ^ q - 1)) (hp : pc + 1 = pc') (h : ∀ v, v < 2 ^ q → AA Ω Y F k n pc' lv (.int (nI v) :: st) I S) : AA Ω Y F k n pc lv (.int y :: .int x :: st) I S := by
  subst hy
  obtain ⟨v, hv, e⟩ := and_mask hk x
  refine r_iand hd hp ?_
  rw [e]; exact h v hv
theorem r_scAtN {i : Nat} (hd : decode Y.2.1 pc = .ok (.iaload, 1)) (hi : i < 2 ^ 31) (hn : ¬ Int32.ofNat (oS Ω).2.1 ≤ nI i) (hp : pc + 1 = pc') (h : AA Ω Y F k n pc' lv (.int ((oS Ω).2.2 i) :: st) I S) : AA Ω Y F k n pc lv (.int (nI i) :: .ref (oS Ω).1 :: st) I S := by
  have e : (nI i).toNatClampNeg = i := nI_clamp hi
  refine r_scAt hd (fun q => ?_) hp (by rw [e]; exact h)
  rcases q with q | q
  · exact nI_pos hi q
  · rw [e] at q
    exact hn (nI_le q hi)
theorem r_iastN {a N d : Nat} {i x : Int32} (hd : decode Y.2.1 pc = .ok (.iastore, 1)) (hA : ArE 11 S a N) (hi : i = nI d) (hin : d < N) (hN : N < 2 ^ 31) (hp : pc + 1 = pc') (h : AA Ω Y F k n pc' lv st (stI I a d x) S) : AA Ω Y F k n pc lv (.int x :: .int i :: .ref a :: st) I S := by
  subst hi
  refine r_iastore hd hA (vp_nI hin (by omega)) hp ?_
  rw [nI_clamp (by omega)]; exact h
end LMR
section BDW
variable {I0 I I' : JI} {S0 S S' : JS} {rs as : List (Nat × Nat × Nat)} {fs : List (Nat × Nat × Int32)} {os : List (Nat × Nat)} {ns : List Nat} {y z : Nat}
theorem BD.stW (h : BD I0 S0 I S rs as fs os ns) (hI : ∀ c, c ≠ y → c ≠ z → I' c = I c) (hy : y ∉ sL S0) (hz : z ∉ sL S0) (hf : ∀ q, q ∈ fs → q.1 ≠ y ∧ q.1 ≠ z) : BD I0 S0 I' S rs as fs os ns := by
  obtain ⟨h1, h2, h3, h4, h5, h6, h7, h8⟩ := h
  refine ⟨h1.tr (fun c hc => ⟨hc, rfl, rfl, fun hn => ⟨hI c (fun e => hn (e ▸ hy)) (fun e => hn (e ▸ hz)), rfl, rfl⟩⟩), h2, h3, h4, fun q hq => ⟨(h5 q hq).1, ?_⟩, h6, h7, h8⟩
  rw [hI q.1 (hf q hq).1 (hf q hq).2]; exact (h5 q hq).2
end BDW
abbrev TP : Type := (Nat × Nat × Nat × Nat × Nat) × (Nat → Nat) × (Nat → Nat) × (Nat → Nat) × (Nat → Nat) × (Nat → Nat)
abbrev tH (T : TP) : Nat := T.1.1
abbrev tL (T : TP) : Nat := T.1.2.1
abbrev tS (T : TP) : Nat := T.1.2.2.1
abbrev tM (T : TP) : Nat := T.1.2.2.2.1
abbrev tW (T : TP) : Nat := T.1.2.2.2.2
abbrev tOn (T : TP) : Nat → Nat := T.2.1
abbrev tCo (T : TP) : Nat → Nat := T.2.2.1
abbrev tLi (T : TP) : Nat → Nat := T.2.2.2.1
abbrev tWe (T : TP) : Nat → Nat := T.2.2.2.2.1
abbrev tYa (T : TP) : Nat → Nat := T.2.2.2.2.2
/-- bounds of what a text tells -/
def TV (T : TP) : Prop := (2 ≤ tH T ∧ tH T ≤ 3) ∧ (3 ≤ tL T ∧ tL T ≤ 18) ∧ tS T ≤ 3 ∧ (2 ≤ tM T ∧ tM T ≤ 5) ∧ (3 ≤ tW T ∧ tW T ≤ 4) ∧ (∀ w, w < 4 → tOn T w < tH T ∧ tCo T w < 4) ∧ (∀ k, k < 3 → tLi T k < 2 ^ tH T ∧ tWe T k < 3 ∧ 20 ≤ tYa T k ∧ tYa T k ≤ 83)
/-- the law's loom before it has picks -/
def LQ (Ω : JO) (L0 : List Nat) (S : JS) (I : JI) (d : Nat) (A C : Nat → Nat) (T : TP) : Prop :=
  (d ∈ sL S ∧ sK S d = 9) ∧ (∀ j, 4 ≤ j → j < 15 → j ≠ 12 → sR S d j = some (A j)) ∧
  (ArE 12 S (A 4) (tH T) ∧ ArE 12 S (A 5) (tH T) ∧ ArE 12 S (A 6) (tW T) ∧ ArE 11 S (A 7) (tH T) ∧ ArE 11 S (A 8) (tW T) ∧ ArE 11 S (A 9) (tW T) ∧ ArE 11 S (A 10) 6 ∧ ArE 20 S (A 11) 3) ∧
  (∀ k, k < 3 → sR S (A 11) k = some (C k) ∧ ArE 11 S (C k) 4 ∧ I (C k) 0 = nI (tLi T k) ∧ I (C k) 1 = nI (tWe T k)) ∧
  (I d 0 = nI (tH T) ∧ I d 1 = nI (tL T) ∧ I d 2 = nI (tS T) ∧ I d 3 = nI (tM T)) ∧
  (∀ w, w < 4 → I (A 8) w = nI (tOn T w) ∧ I (A 9) w = nI (tCo T w)) ∧ (∀ k, k < 3 → I (A 10) k = nI (tYa T k)) ∧ (∀ j, j < 4 → I (A 4) j = 0 ∧ I (A 5) j = 0 ∧ I (A 6) j = 0) ∧
  (((A 13) ∈ sL S ∧ sK S (A 13) = 18) ∧ sR S (A 13) 1 = some (oE Ω) ∧ I (A 13) 2 = 0) ∧ (((A 14) ∈ sL S ∧ sK S (A 14) = 18) ∧ sR S (A 14) 1 = some (oE Ω) ∧ I (A 14) 2 = 0) ∧
  ((∀ j, (j = 4 ∨ j = 5 ∨ j = 6 ∨ j = 7 ∨ j = 10) → A j ∉ L0 ∧ A j ≠ d ∧ A j ≠ A 8 ∧ A j ≠ A 13 ∧ A j ≠ A 14 ∧ ∀ k, k < 3 → A j ≠ C k) ∧ A 13 ∉ L0 ∧ A 14 ∉ L0 ∧ A 13 ≠ A 14 ∧ d ∉ L0) ∧ TV T
set_option maxHeartbeats 2000000 in
theorem c_L_cell {Ω : JO} {I : JI} {S : JS} {Q : JQ} {i : Nat} (hi : i < 2 ^ 31) (hQ : ∀ v, Q (.inl (some (.int v))) I S) : Call Ω m_L_cell [.ref (oS Ω).1, .int (nI i)] I S Q := by
  refine call_of (by decide +kernel) rfl (Nat.le_of_ble_eq_true rfl) ?_
  change AA Ω m_L_cell (FQ Ω m_L_cell Q) 0 0 0 [(0, .ref (oS Ω).1), (1, .int (nI i))] [] I S
  refine r_iload_n (pc' := 1) dL_cell_0 rfl 1 rfl rfl ?_
  refine r_aload_n (pc' := 2) dL_cell_1 rfl 0 rfl rfl ?_
  refine r_scLen (pc' := 3) dL_cell_2 rfl rfl ?_
  refine r_icmp_ge (tgt := 12) (pc' := 6) dL_cell_3 rfl rfl (fun h3 => ?_) (fun h3 => ?_)
  · refine r_iconst (pc' := 13) (v := 0) dL_cell_12 (by decide) rfl ?_
    exact r_iret dL_cell_13 rfl (by decide) (by decide) (hQ _)
  · refine r_aload_n (pc' := 7) dL_cell_6 rfl 0 rfl rfl ?_
    refine r_iload_n (pc' := 8) dL_cell_7 rfl 1 rfl rfl ?_
    refine r_scAtN (pc' := 9) dL_cell_8 hi h3 rfl ?_
    refine r_goto (tgt := 13) dL_cell_9 rfl ?_
    exact r_iret dL_cell_13 rfl (by decide) (by decide) (hQ _)
theorem msk {H : Nat} (h : H < 4) : ((1 : Int32) <<< (nI H &&& 31)) - 1 = nI (2 ^ H - 1) := by_fin (n := 4) (P := fun H => ((1 : Int32) <<< (nI H &&& 31)) - 1 = nI (2 ^ H - 1)) (by decide +kernel) h
set_option maxHeartbeats 2000000 in
theorem l_L_loom1 {Ω : JO} {S : JS} {Q : JQ} {d z8 z9 W H : Nat} {v : Int32} {I0 : JI} (hd : d ∈ sL S ∧ sK S d = 9) (r8 : sR S d 8 = some z8) (r9 : sR S d 9 = some z9) (a8 : ArE 11 S z8 W) (a9 : ArE 11 S z9 W) (h89 : z8 ≠ z9) (hH : 0 < H ∧ H ≤ 3) (hW : W ≤ 4) (h0 : I0 d 0 = nI H) (hk : ∀ I, (∀ c, c ≠ z8 → c ≠ z9 → I c = I0 c) → (∀ x, ∃ h, h < H ∧ I z8 x = nI h) → (∀ x, ∃ c, c < 4 ∧ I z9 x = nI c) → AA Ω m_L_loom (FQ Ω m_L_loom Q) 11 76 172 [(0, .ref (oS Ω).1), (1, .ref d), (2, .int v), (3, .int (nI W))] [] I S) : ∀ (m : Nat) (j : Nat) (I : JI), j + m = W → (∀ c, c ≠ z8 → c ≠ z9 → I c = I0 c) → (∀ x, ∃ h, h < H ∧ I z8 x = nI h) → (∀ x, ∃ c, c < 4 ∧ I z9 x = nI c) → AA Ω m_L_loom (FQ Ω m_L_loom Q) 11 76 119 [(4, .int (nI j)), (0, .ref (oS Ω).1), (1, .ref d), (2, .int v), (3, .int (nI W))] [] I S := by
  intro m
  induction m with
  | zero =>
    intro j I hj hI h8 h9
    refine r_iload (pc' := 121) dL_loom_119 0 rfl rfl ?_
    refine r_iload_n (pc' := 122) dL_loom_121 rfl 4 rfl rfl ?_
    refine r_icmp_ge (tgt := 172) (pc' := 125) dL_loom_122 rfl rfl (fun h122 => ?_) (fun h122 => ?_)
    · refine aa_locs (ks := [1, 2, 3, 4]) (lv' := [(0, _), (1, _), (2, _), (3, _)]) rfl ?_
      exact hk _ hI h8 h9
    · exact absurd (show nI W ≤ nI j from nI_le (by omega) (by omega)) h122
  | succ m ih =>
    intro j I hj hI h8 h9
    refine r_iload (pc' := 121) dL_loom_119 0 rfl rfl ?_
    refine r_iload_n (pc' := 122) dL_loom_121 rfl 4 rfl rfl ?_
    refine r_icmp_ge (tgt := 172) (pc' := 125) dL_loom_122 rfl rfl (fun h122 => ?_) (fun h122 => ?_)
    · exact absurd h122 (show ¬ nI W ≤ nI j from nI_ge (by omega) (by omega))
    · have hdz8 : d ≠ z8 := fun e => absurd (hd.2.symm.trans (e ▸ a8.2.1)) (by decide)
      have hdz9 : d ≠ z9 := fun e => absurd (hd.2.symm.trans (e ▸ a9.2.1)) (by decide)
      have e0 : I d 0 = nI H := by rw [hI d hdz8 hdz9]; exact h0
      refine r_aload_n (pc' := 126) dL_loom_125 rfl 2 rfl rfl ?_
      refine r_getNO (pc' := 129) dL_loom_126 fn_L_56 hd rfl r8 rfl ?_
      refine r_iload (pc' := 131) dL_loom_129 0 rfl rfl ?_
      refine r_iload_n (pc' := 132) dL_loom_131 rfl 3 rfl rfl ?_
      refine r_bipush (pc' := 134) (v := 10) dL_loom_132 (by decide) rfl ?_
      refine r_iconst (pc' := 135) (v := 2) dL_loom_134 (by decide) rfl ?_
      refine r_iload (pc' := 137) dL_loom_135 0 rfl rfl ?_
      refine r_imul (pc' := 138) dL_loom_137 rfl ?_
      refine r_iadd (pc' := 139) dL_loom_138 rfl ?_
      refine r_iushr (pc' := 140) dL_loom_139 rfl ?_
      refine r_iconst (pc' := 141) (v := 3) dL_loom_140 (by decide) rfl ?_
      refine r_iandM (q := 2) (pc' := 142) dL_loom_141 (by decide) rfl rfl (fun p hp => ?_)
      refine r_aload_n (pc' := 143) dL_loom_142 rfl 2 rfl rfl ?_
      refine r_getNIv (pc' := 146) dL_loom_143 fn_L_32 hd rfl e0 rfl ?_
      refine r_iremv (pc' := 147) dL_loom_146 (nI_ne0 hH.1 (by omega)) (nI_modt (by omega) hH.1 (by omega)) rfl ?_
      refine r_iastN (pc' := 148) dL_loom_147 a8 rfl (show j < W by omega) (by omega) rfl ?_
      refine r_aload_n (pc' := 149) dL_loom_148 rfl 2 rfl rfl ?_
      refine r_getNO (pc' := 152) dL_loom_149 fn_L_59 hd rfl r9 rfl ?_
      refine r_iload (pc' := 154) dL_loom_152 0 rfl rfl ?_
      refine r_iload_n (pc' := 155) dL_loom_154 rfl 3 rfl rfl ?_
      refine r_bipush (pc' := 157) (v := 18) dL_loom_155 (by decide) rfl ?_
      refine r_iconst (pc' := 158) (v := 2) dL_loom_157 (by decide) rfl ?_
      refine r_iload (pc' := 160) dL_loom_158 0 rfl rfl ?_
      refine r_imul (pc' := 161) dL_loom_160 rfl ?_
      refine r_iadd (pc' := 162) dL_loom_161 rfl ?_
      refine r_iushr (pc' := 163) dL_loom_162 rfl ?_
      refine r_iconst (pc' := 164) (v := 3) dL_loom_163 (by decide) rfl ?_
      refine r_iandM (q := 2) (pc' := 165) dL_loom_164 (by decide) rfl rfl (fun q hq => ?_)
      refine r_iastN (pc' := 166) dL_loom_165 a9 rfl (show j < W by omega) (by omega) rfl ?_
      refine r_iinc (pc' := 169) (lv' := [(4, _), (0, _), (1, _), (2, _), (3, _)]) dL_loom_166 0 rfl rfl (by decide) rfl rfl ?_
      refine r_goto (tgt := 119) dL_loom_169 rfl ?_
      exact aa_lv (lv' := [(4, .int (nI (j + 1))), (0, .ref (oS Ω).1), (1, .ref d), (2, .int v), (3, .int (nI W))]) (by rw [nI_succ]; rfl) (ih (j + 1) _ (by omega) (fun c h1 h2 => by rw [stI_ne h2, stI_ne h1]; exact hI c h1 h2) (fun x => by
        by_cases e : x = j
        · subst e; exact ⟨_, Nat.mod_lt p hH.1, by rw [stI_o h89, stI_at]⟩
        · rw [stI_o h89, stI_aj e]; exact h8 x) (fun x => by
        by_cases e : x = j
        · subst e; exact ⟨q, hq, stI_at⟩
        · rw [stI_aj e, stI_o h89.symm]; exact h9 x))
set_option maxHeartbeats 2000000 in
theorem c_L_loom {Ω : JO} {I : JI} {S : JS} {Q : JQ} (hT : sT S = none) (hQ : ∀ d A C T I' S', LQ Ω (sL S) S' I' d A C T → Kp (fun _ => False) I S I' S' → Q (.inl (some (.ref d))) I' S') : Call Ω m_L_loom [.ref (oS Ω).1] I S Q := by
  refine call_of (by decide +kernel) rfl (Nat.le_of_ble_eq_true rfl) ?_
  change AA Ω m_L_loom (FQ Ω m_L_loom Q) 0 0 0 [(0, .ref (oS Ω).1)] [] I S
  refine r_newG (pc' := 3) dL_loom_0 cw_L_25 nwX9 (Nat.le_of_ble_eq_true rfl) (Nat.le_of_ble_eq_true rfl) rfl (fun d hz0 => aa_widen (k' := 1) (n' := 15) (by decide) (by decide) ?_)
  have hd : d ∉ sL S := notin_of hz0
  have b : BD I S (nwI I d) (nwN S d 9 0) [] [] [] [(9, d)] [d] := ((BD.rf hT).nw (ki := 9) (m := 0) hd (Kp.nw hd)).sub (fun q hq => hq) (fun q hq => (by cases hq)) (fun q hq => hq) (fun q hq => hq)
  refine r_dup (pc' := 4) dL_loom_3 rfl rfl ?_
  refine r_callIN (pc' := 7) (k' := 5) (n' := 55) (nn := 0) (As := []) (rest := [_]) dL_loom_4 mb_X9_init mc_X9_init ln_L_27 rfl rfl rfl rfl rfl (Nat.le_of_ble_eq_true rfl) rfl (c_X9_init b (fun z13 z14 I1 S1 b => (cpV ?_)))
  refine r_astore_n (pc' := 8) (lv' := [(1, _), (0, _)]) dL_loom_7 rfl (by decide) rfl rfl ?_
  refine r_aload_n (pc' := 9) dL_loom_8 rfl 1 rfl rfl ?_
  refine r_iconst (pc' := 10) (v := 0) dL_loom_9 (by decide) rfl ?_
  refine r_callS (pc' := 13) (k' := 5) (n' := 55) (nn := 2) (As := [_, _]) (rest := []) dL_loom_10 mb_L_cell ms_L_cell lk_L_28 rfl rfl rfl rfl rfl (Nat.le_of_ble_eq_true rfl) rfl (c_L_cell (by decide) (fun v => (cpI ?_)))
  refine r_istore_n (pc' := 14) (lv' := [(2, _), (1, _), (0, _)]) dL_loom_13 rfl (by decide) rfl rfl ?_
  refine r_aload_n (pc' := 15) dL_loom_14 rfl 1 rfl rfl ?_
  refine r_iconst (pc' := 16) (v := 2) dL_loom_15 (by decide) rfl ?_
  refine r_iload_n (pc' := 17) dL_loom_16 rfl 0 rfl rfl ?_
  refine r_iconst (pc' := 18) (v := 1) dL_loom_17 (by decide) rfl ?_
  refine r_iandM (q := 1) (pc' := 19) dL_loom_18 (by decide) rfl rfl (fun h0 hh0 => ?_)
  refine r_iaddv (pc' := 20) dL_loom_19 (nI_add 2 h0) rfl ?_
  refine r_putNI (pc' := 23) dL_loom_20 fn_L_32 (b.o 2 rfl) b.T rfl rfl ?_
  replace b := b.putI (a := d) (j := 0) (x := nI (2 + h0)) (b.n 2 rfl).2 (b.n 2 rfl).1 (by simp)
  refine r_aload_n (pc' := 24) dL_loom_23 rfl 1 rfl rfl ?_
  refine r_iconst (pc' := 25) (v := 3) dL_loom_24 (by decide) rfl ?_
  refine r_iload_n (pc' := 26) dL_loom_25 rfl 0 rfl rfl ?_
  refine r_iconst (pc' := 27) (v := 1) dL_loom_26 (by decide) rfl ?_
  refine r_iushr (pc' := 28) dL_loom_27 rfl ?_
  refine r_bipush (pc' := 30) (v := 15) dL_loom_28 (by decide) rfl ?_
  refine r_iandM (q := 4) (pc' := 31) dL_loom_30 (by decide) rfl rfl (fun l0 hl0 => ?_)
  refine r_iaddv (pc' := 32) dL_loom_31 (nI_add 3 l0) rfl ?_
  refine r_putNI (pc' := 35) dL_loom_32 fn_L_36 (b.o 2 rfl) b.T rfl rfl ?_
  replace b := b.putI (a := d) (j := 1) (x := nI (3 + l0)) (b.n 2 rfl).2 (b.n 2 rfl).1 (by simp)
  refine r_aload_n (pc' := 36) dL_loom_35 rfl 1 rfl rfl ?_
  refine r_iload_n (pc' := 37) dL_loom_36 rfl 0 rfl rfl ?_
  refine r_iconst (pc' := 38) (v := 5) dL_loom_37 (by decide) rfl ?_
  refine r_iushr (pc' := 39) dL_loom_38 rfl ?_
  refine r_iconst (pc' := 40) (v := 3) dL_loom_39 (by decide) rfl ?_
  refine r_iandM (q := 2) (pc' := 41) dL_loom_40 (by decide) rfl rfl (fun s0 hs0 => ?_)
  refine r_putNI (pc' := 44) dL_loom_41 fn_L_39 (b.o 2 rfl) b.T rfl rfl ?_
  replace b := b.putI (a := d) (j := 2) (x := nI s0) (b.n 2 rfl).2 (b.n 2 rfl).1 (by simp [(b.ne 0 2 rfl rfl (by decide)), (b.ne 1 2 rfl rfl (by decide))])
  refine r_aload_n (pc' := 45) dL_loom_44 rfl 1 rfl rfl ?_
  refine r_iconst (pc' := 46) (v := 2) dL_loom_45 (by decide) rfl ?_
  refine r_iload_n (pc' := 47) dL_loom_46 rfl 0 rfl rfl ?_
  refine r_bipush (pc' := 49) (v := 7) dL_loom_47 (by decide) rfl ?_
  refine r_iushr (pc' := 50) dL_loom_49 rfl ?_
  refine r_iconst (pc' := 51) (v := 3) dL_loom_50 (by decide) rfl ?_
  refine r_iandM (q := 2) (pc' := 52) dL_loom_51 (by decide) rfl rfl (fun m0 hm0 => ?_)
  refine r_iaddv (pc' := 53) dL_loom_52 (nI_add 2 m0) rfl ?_
  refine r_putNI (pc' := 56) dL_loom_53 fn_L_42 (b.o 2 rfl) b.T rfl rfl ?_
  replace b := b.putI (a := d) (j := 3) (x := nI (2 + m0)) (b.n 2 rfl).2 (b.n 2 rfl).1 (by simp)
  refine r_aload_n (pc' := 57) dL_loom_56 rfl 1 rfl rfl ?_
  refine r_aload_n (pc' := 58) dL_loom_57 rfl 1 rfl rfl ?_
  refine r_getNIv (pc' := 61) dL_loom_58 fn_L_32 (b.o 2 rfl) rfl (b.f 3 rfl) rfl ?_
  refine r_newZG (pc' := 63) (N := (2 + h0)) dL_loom_61 (nI_pos (by omega)) (nI_clamp (by omega)) (by omega) (Nat.le_of_ble_eq_true rfl) (show _ + (2 + h0) ≤ 1000 from by omega) rfl (fun z4 hzz => aa_widen (k' := 6) (n' := 58) (by decide) (by omega) ?_)
  have hzz4 := notin_of hzz
  replace b := b.nw (ki := 12) (m := (2 + h0)) hzz4 (Kp.nw hzz4)
  replace b := b.addF (a := z4) (j := 0) (x := 0) (b.n 0 rfl).1 (by rw [nwI_z])
  replace b := b.addF (a := z4) (j := 1) (x := 0) (b.n 0 rfl).1 (by rw [nwI_z])
  replace b := b.addF (a := z4) (j := 2) (x := 0) (b.n 0 rfl).1 (by rw [nwI_z])
  replace b := b.addF (a := z4) (j := 3) (x := 0) (b.n 0 rfl).1 (by rw [nwI_z])
  refine r_putNR (pc' := 66) dL_loom_63 fn_L_45 (b.o 3 rfl) b.T rfl ⟨rfl, rfl⟩ rfl ?_
  replace b := b.putR (a := d) (j := 4) (v := z4) (b.n 3 rfl).2 (b.n 3 rfl).1 (by simp)
  refine r_aload_n (pc' := 67) dL_loom_66 rfl 1 rfl rfl ?_
  refine r_aload_n (pc' := 68) dL_loom_67 rfl 1 rfl rfl ?_
  refine r_getNIv (pc' := 71) dL_loom_68 fn_L_32 (b.o 3 rfl) rfl (b.f 7 rfl) rfl ?_
  refine r_newZG (pc' := 73) (N := (2 + h0)) dL_loom_71 (nI_pos (by omega)) (nI_clamp (by omega)) (by omega) (Nat.le_of_ble_eq_true rfl) (show _ + (2 + h0) ≤ 1000 from by omega) rfl (fun z5 hzz => aa_widen (k' := 7) (n' := 61) (by decide) (by omega) ?_)
  have hzz5 := notin_of hzz
  replace b := b.nw (ki := 12) (m := (2 + h0)) hzz5 (Kp.nw hzz5)
  replace b := b.addF (a := z5) (j := 0) (x := 0) (b.n 0 rfl).1 (by rw [nwI_z])
  replace b := b.addF (a := z5) (j := 1) (x := 0) (b.n 0 rfl).1 (by rw [nwI_z])
  replace b := b.addF (a := z5) (j := 2) (x := 0) (b.n 0 rfl).1 (by rw [nwI_z])
  replace b := b.addF (a := z5) (j := 3) (x := 0) (b.n 0 rfl).1 (by rw [nwI_z])
  refine r_putNR (pc' := 76) dL_loom_73 fn_L_49 (b.o 4 rfl) b.T rfl ⟨rfl, rfl⟩ rfl ?_
  replace b := b.putR (a := d) (j := 5) (v := z5) (b.n 4 rfl).2 (b.n 4 rfl).1 (by simp)
  refine r_aload_n (pc' := 77) dL_loom_76 rfl 1 rfl rfl ?_
  refine r_aload_n (pc' := 78) dL_loom_77 rfl 1 rfl rfl ?_
  refine r_getNIv (pc' := 81) dL_loom_78 fn_L_32 (b.o 4 rfl) rfl (b.f 11 rfl) rfl ?_
  refine r_newIG (pc' := 83) (N := (2 + h0)) dL_loom_81 (nI_pos (by omega)) (nI_clamp (by omega)) (by omega) (Nat.le_of_ble_eq_true rfl) (show _ + (2 + h0) ≤ 1000 from by omega) rfl (fun z7 hzz => aa_widen (k' := 8) (n' := 64) (by decide) (by omega) ?_)
  have hzz7 := notin_of hzz
  replace b := b.nw (ki := 11) (m := (2 + h0)) hzz7 (Kp.nw hzz7)
  refine r_putNR (pc' := 86) dL_loom_83 fn_L_52 (b.o 5 rfl) b.T rfl ⟨rfl, rfl⟩ rfl ?_
  replace b := b.putR (a := d) (j := 7) (v := z7) (b.n 5 rfl).2 (b.n 5 rfl).1 (by simp)
  refine r_iconst (pc' := 87) (v := 3) dL_loom_86 (by decide) rfl ?_
  refine r_iload_n (pc' := 88) dL_loom_87 rfl 0 rfl rfl ?_
  refine r_bipush (pc' := 90) (v := 9) dL_loom_88 (by decide) rfl ?_
  refine r_iushr (pc' := 91) dL_loom_90 rfl ?_
  refine r_iconst (pc' := 92) (v := 1) dL_loom_91 (by decide) rfl ?_
  refine r_iandM (q := 1) (pc' := 93) dL_loom_92 (by decide) rfl rfl (fun w0 hw0 => ?_)
  refine r_iaddv (pc' := 94) dL_loom_93 (nI_add 3 w0) rfl ?_
  refine r_istore_n (pc' := 95) (lv' := [(3, _), (2, _), (1, _), (0, _)]) dL_loom_94 rfl (by decide) rfl rfl ?_
  refine r_aload_n (pc' := 96) dL_loom_95 rfl 2 rfl rfl ?_
  refine r_iload_n (pc' := 97) dL_loom_96 rfl 0 rfl rfl ?_
  refine r_newIG (pc' := 99) (N := (3 + w0)) dL_loom_97 (nI_pos (by omega)) (nI_clamp (by omega)) (by omega) (Nat.le_of_ble_eq_true rfl) (show _ + (3 + w0) ≤ 1000 from by omega) rfl (fun z8 hzz => aa_widen (k' := 9) (n' := 68) (by decide) (by omega) ?_)
  have hzz8 := notin_of hzz
  replace b := b.nw (ki := 11) (m := (3 + w0)) hzz8 (Kp.nw hzz8)
  refine r_putNR (pc' := 102) dL_loom_99 fn_L_56 (b.o 6 rfl) b.T rfl ⟨rfl, rfl⟩ rfl ?_
  replace b := b.putR (a := d) (j := 8) (v := z8) (b.n 6 rfl).2 (b.n 6 rfl).1 (by simp)
  refine r_aload_n (pc' := 103) dL_loom_102 rfl 2 rfl rfl ?_
  refine r_iload_n (pc' := 104) dL_loom_103 rfl 0 rfl rfl ?_
  refine r_newIG (pc' := 106) (N := (3 + w0)) dL_loom_104 (nI_pos (by omega)) (nI_clamp (by omega)) (by omega) (Nat.le_of_ble_eq_true rfl) (show _ + (3 + w0) ≤ 1000 from by omega) rfl (fun z9 hzz => aa_widen (k' := 10) (n' := 72) (by decide) (by omega) ?_)
  have hzz9 := notin_of hzz
  replace b := b.nw (ki := 11) (m := (3 + w0)) hzz9 (Kp.nw hzz9)
  refine r_putNR (pc' := 109) dL_loom_106 fn_L_59 (b.o 7 rfl) b.T rfl ⟨rfl, rfl⟩ rfl ?_
  replace b := b.putR (a := d) (j := 9) (v := z9) (b.n 7 rfl).2 (b.n 7 rfl).1 (by simp)
  refine r_aload_n (pc' := 110) dL_loom_109 rfl 2 rfl rfl ?_
  refine r_iload_n (pc' := 111) dL_loom_110 rfl 0 rfl rfl ?_
  refine r_newZG (pc' := 113) (N := (3 + w0)) dL_loom_111 (nI_pos (by omega)) (nI_clamp (by omega)) (by omega) (Nat.le_of_ble_eq_true rfl) (show _ + (3 + w0) ≤ 1000 from by omega) rfl (fun z6 hzz => aa_widen (k' := 11) (n' := 76) (by decide) (by omega) ?_)
  have hzz6 := notin_of hzz
  replace b := b.nw (ki := 12) (m := (3 + w0)) hzz6 (Kp.nw hzz6)
  replace b := b.addF (a := z6) (j := 0) (x := 0) (b.n 0 rfl).1 (by rw [nwI_z])
  replace b := b.addF (a := z6) (j := 1) (x := 0) (b.n 0 rfl).1 (by rw [nwI_z])
  replace b := b.addF (a := z6) (j := 2) (x := 0) (b.n 0 rfl).1 (by rw [nwI_z])
  replace b := b.addF (a := z6) (j := 3) (x := 0) (b.n 0 rfl).1 (by rw [nwI_z])
  refine r_putNR (pc' := 116) dL_loom_113 fn_L_62 (b.o 8 rfl) b.T rfl ⟨rfl, rfl⟩ rfl ?_
  replace b := b.putR (a := d) (j := 6) (v := z6) (b.n 8 rfl).2 (b.n 8 rfl).1 (by simp)
  refine r_iconst (pc' := 117) (v := 0) dL_loom_116 (by decide) rfl ?_
  refine r_istore (pc' := 119) (lv' := [(4, _), (3, _), (2, _), (1, _), (0, _)]) dL_loom_117 (by decide) rfl rfl ?_
  refine aa_locs (ks := [0, 4, 3, 2, 1]) (lv' := [(4, _), (0, _), (1, _), (2, _), (3, _)]) rfl ?_
  refine l_L_loom1 (b.o 8 rfl) (b.r 2 rfl) (b.r 1 rfl) (b.ar 2 rfl) (b.ar 1 rfl) (b.ne 2 1 rfl rfl (by decide)) (H := 2 + h0) ⟨by omega, by omega⟩ (by omega) (b.f 15 rfl) (fun I2 hI2 h8 h9 => ?_) (3 + w0) 0 _ (by omega) (fun c _ _ => rfl) ?_ ?_
  rotate_left
  · intro x
    exact ⟨0, by omega, by rw [nwI_o (b.ne 2 0 rfl rfl (by decide)), nwI_o (b.ne 2 1 rfl rfl (by decide)), nwI_z]; rfl⟩
  · intro x
    exact ⟨0, by omega, by rw [nwI_o (b.ne 1 0 rfl rfl (by decide)), nwI_z]; rfl⟩
  replace b := b.stW hI2 (b.n 2 rfl).2 (b.n 1 rfl).2 (by simp [(b.ne 7 2 rfl rfl (by decide)), (b.ne 7 1 rfl rfl (by decide)), (b.ne 6 2 rfl rfl (by decide)), (b.ne 6 1 rfl rfl (by decide)), (b.ne 8 2 rfl rfl (by decide)), (b.ne 8 1 rfl rfl (by decide)), (b.ne 5 2 rfl rfl (by decide)), (b.ne 5 1 rfl rfl (by decide)), (b.ne 4 2 rfl rfl (by decide)), (b.ne 4 1 rfl rfl (by decide)), (b.ne 0 2 rfl rfl (by decide)), (b.ne 0 1 rfl rfl (by decide))])
  have g8 : ∀ x, I2 z8 x = nI (I2 z8 x).toNatClampNeg ∧ (I2 z8 x).toNatClampNeg < 2 + h0 := fun x => by
    obtain ⟨q, h1, h2⟩ := h8 x
    rw [h2, nI_clamp (by omega)]; exact ⟨rfl, h1⟩
  have g9 : ∀ x, I2 z9 x = nI (I2 z9 x).toNatClampNeg ∧ (I2 z9 x).toNatClampNeg < 4 := fun x => by
    obtain ⟨q, h1, h2⟩ := h9 x
    rw [h2, nI_clamp (by omega)]; exact ⟨rfl, h1⟩
  obtain ⟨on, hon⟩ : ∃ on : Nat → Nat, on = fun x => (I2 z8 x).toNatClampNeg := ⟨_, rfl⟩
  obtain ⟨co, hco⟩ : ∃ co : Nat → Nat, co = fun x => (I2 z9 x).toNatClampNeg := ⟨_, rfl⟩
  have k8 : ∀ x, I2 z8 x = nI (on x) ∧ on x < 2 + h0 := fun x => by rw [hon]; exact g8 x
  have k9 : ∀ x, I2 z9 x = nI (co x) ∧ co x < 4 := fun x => by rw [hco]; exact g9 x
  clear g8 g9 hon hco h8 h9
  replace b := b.addF (a := z8) (j := 0) (x := nI (on 0)) (b.n 2 rfl).1 (k8 0).1
  replace b := b.addF (a := z8) (j := 1) (x := nI (on 1)) (b.n 2 rfl).1 (k8 1).1
  replace b := b.addF (a := z8) (j := 2) (x := nI (on 2)) (b.n 2 rfl).1 (k8 2).1
  replace b := b.addF (a := z8) (j := 3) (x := nI (on 3)) (b.n 2 rfl).1 (k8 3).1
  replace b := b.addF (a := z9) (j := 0) (x := nI (co 0)) (b.n 1 rfl).1 (k9 0).1
  replace b := b.addF (a := z9) (j := 1) (x := nI (co 1)) (b.n 1 rfl).1 (k9 1).1
  replace b := b.addF (a := z9) (j := 2) (x := nI (co 2)) (b.n 1 rfl).1 (k9 2).1
  replace b := b.addF (a := z9) (j := 3) (x := nI (co 3)) (b.n 1 rfl).1 (k9 3).1
  refine r_aload_n (pc' := 173) dL_loom_172 rfl 1 rfl rfl ?_
  refine r_iconst (pc' := 174) (v := 3) dL_loom_173 (by decide) rfl ?_
  refine r_anew20 (pc' := 177) (N := 3) dL_loom_174 (by rw [tA_I]; exact cw_L_65) (by decide) (by decide) (by decide) (Nat.le_of_ble_eq_true rfl) (Nat.le_of_ble_eq_true rfl) rfl (fun zc hz2 => aa_widen (k' := 12) (n' := 79) (by decide) (by decide) ?_)
  have hzc := notin_of hz2
  replace b := b.nw (ki := 20) (m := 3) hzc (Kp.nw hzc)
  refine r_putNR (pc' := 180) dL_loom_177 fn_L_66 (b.o 9 rfl) b.T rfl ⟨rfl, rfl⟩ rfl ?_
  replace b := b.putR (a := d) (j := 11) (v := zc) (b.n 9 rfl).2 (b.n 9 rfl).1 (by simp)
  refine r_iconst (pc' := 181) (v := 0) dL_loom_180 (by decide) rfl ?_
  refine r_istore (pc' := 183) (lv' := [(4, _), (0, _), (1, _), (2, _), (3, _)]) dL_loom_181 (by decide) rfl rfl ?_
  refine r_iload (pc' := 185) dL_loom_183 0 rfl rfl ?_
  refine r_iconst (pc' := 186) (v := 3) dL_loom_185 (by decide) rfl ?_
  refine r_icmp_ge (tgt := 258) (pc' := 189) dL_loom_186 rfl rfl (fun h186 => ?_) (fun h186 => ?_)
  · exact absurd h186 (by decide)
  · refine r_aload_n (pc' := 190) dL_loom_189 rfl 1 rfl rfl ?_
    refine r_iconst (pc' := 191) (v := 1) dL_loom_190 (by decide) rfl ?_
    refine r_iload (pc' := 193) dL_loom_191 0 rfl rfl ?_
    refine r_iaddv (pc' := 194) dL_loom_193 (show _ = nI 1 from rfl) rfl ?_
    refine r_callS (pc' := 197) (k' := 12) (n' := 79) (nn := 2) (As := [_, _]) (rest := []) dL_loom_194 mb_L_cell ms_L_cell lk_L_28 rfl rfl rfl rfl rfl (Nat.le_of_ble_eq_true rfl) rfl (c_L_cell (by decide) (fun v => (cpI ?_)))
    refine r_istore (pc' := 199) (lv' := [(5, _), (4, _), (0, _), (1, _), (2, _), (3, _)]) dL_loom_197 (by decide) rfl rfl ?_
    refine r_iload (pc' := 201) dL_loom_199 0 rfl rfl ?_
    refine r_iconst (pc' := 202) (v := 1) dL_loom_201 (by decide) rfl ?_
    refine r_aload_n (pc' := 203) dL_loom_202 rfl 3 rfl rfl ?_
    refine r_getNIv (pc' := 206) dL_loom_203 fn_L_32 (b.o 9 rfl) rfl (b.f 23 rfl) rfl ?_
    refine r_ishl (pc' := 207) dL_loom_206 rfl ?_
    refine r_iconst (pc' := 208) (v := 1) dL_loom_207 (by decide) rfl ?_
    refine r_isubv (pc' := 209) dL_loom_208 (msk (by omega)) rfl ?_
    refine r_iandM (q := 2 + h0) (pc' := 210) dL_loom_209 (by omega) rfl rfl (fun u0 hu0 => ?_)
    refine r_istore (pc' := 212) (lv' := [(6, _), (5, _), (4, _), (0, _), (1, _), (2, _), (3, _)]) dL_loom_210 (by decide) rfl rfl ?_
    refine r_iload (pc' := 214) dL_loom_212 1 rfl rfl ?_
    refine r_iconst (pc' := 215) (v := 3) dL_loom_214 (by decide) rfl ?_
    refine r_iushr (pc' := 216) dL_loom_215 rfl ?_
    refine r_iconst (pc' := 217) (v := 3) dL_loom_216 (by decide) rfl ?_
    refine r_iandM (q := 2) (pc' := 218) dL_loom_217 (by decide) rfl rfl (fun p0 hp0 => ?_)
    refine r_iconst (pc' := 219) (v := 3) dL_loom_218 (by decide) rfl ?_
    refine r_iremv (pc' := 220) dL_loom_219 (by decide) (nI_modt (b := 3) (by omega) (by decide) (by decide)) rfl ?_
    refine r_istore (pc' := 222) (lv' := [(7, _), (6, _), (5, _), (4, _), (0, _), (1, _), (2, _), (3, _)]) dL_loom_220 (by decide) rfl rfl ?_
    refine r_aload_n (pc' := 223) dL_loom_222 rfl 5 rfl rfl ?_
    refine r_getNO (pc' := 226) dL_loom_223 fn_L_66 (b.o 9 rfl) rfl (b.r 0 rfl) rfl ?_
    refine r_iload (pc' := 228) dL_loom_226 3 rfl rfl ?_
    refine r_iconst (pc' := 229) (v := 4) dL_loom_228 (by decide) rfl ?_
    refine r_newIG (pc' := 231) (N := 4) dL_loom_229 (by decide) (by decide) (by decide) (Nat.le_of_ble_eq_true rfl) (Nat.le_of_ble_eq_true rfl) rfl (fun c0 hzz => aa_widen (k' := 13) (n' := 83) (by decide) (by decide) ?_)
    have hc0 := notin_of hzz
    replace b := b.nw (ki := 11) (m := 4) hc0 (Kp.nw hc0)
    refine r_dup (pc' := 232) dL_loom_231 rfl rfl ?_
    refine r_iconst (pc' := 233) (v := 0) dL_loom_232 (by decide) rfl ?_
    refine r_iload (pc' := 235) dL_loom_233 1 rfl rfl ?_
    refine r_iastN (pc' := 236) (d := 0) dL_loom_235 (b.ar 0 rfl) rfl (by decide) (by decide) rfl ?_
    replace b := b.putI (a := c0) (j := 0) (x := nI u0) (b.n 0 rfl).2 (b.n 0 rfl).1 (by simp [(b.ne 3 0 rfl rfl (by decide)), (b.ne 4 0 rfl rfl (by decide)), (b.ne 2 0 rfl rfl (by decide)), (b.ne 6 0 rfl rfl (by decide)), (b.ne 7 0 rfl rfl (by decide)), (b.ne 10 0 rfl rfl (by decide))])
    refine r_dup (pc' := 237) dL_loom_236 rfl rfl ?_
    refine r_iconst (pc' := 238) (v := 1) dL_loom_237 (by decide) rfl ?_
    refine r_iload (pc' := 240) dL_loom_238 0 rfl rfl ?_
    refine r_iastN (pc' := 241) (d := 1) dL_loom_240 (b.ar 0 rfl) rfl (by decide) (by decide) rfl ?_
    replace b := b.putI (a := c0) (j := 1) (x := nI (p0 % 3)) (b.n 0 rfl).2 (b.n 0 rfl).1 (by simp [(b.ne 3 0 rfl rfl (by decide)), (b.ne 4 0 rfl rfl (by decide)), (b.ne 2 0 rfl rfl (by decide)), (b.ne 6 0 rfl rfl (by decide)), (b.ne 7 0 rfl rfl (by decide)), (b.ne 10 0 rfl rfl (by decide))])
    refine r_dup (pc' := 242) dL_loom_241 rfl rfl ?_
    refine r_iconst (pc' := 243) (v := 2) dL_loom_242 (by decide) rfl ?_
    refine r_iload (pc' := 245) dL_loom_243 1 rfl rfl ?_
    refine r_iastN (pc' := 246) (d := 2) dL_loom_245 (b.ar 0 rfl) rfl (by decide) (by decide) rfl ?_
    replace b := b.putI0 (a := c0) (j := 2) (x := nI u0) (b.n 0 rfl).2 (b.n 0 rfl).1 (by simp [(b.ne 3 0 rfl rfl (by decide)), (b.ne 4 0 rfl rfl (by decide)), (b.ne 2 0 rfl rfl (by decide)), (b.ne 6 0 rfl rfl (by decide)), (b.ne 7 0 rfl rfl (by decide)), (b.ne 10 0 rfl rfl (by decide)), (b.ne 8 0 rfl rfl (by decide)), (b.ne 9 0 rfl rfl (by decide))])
    refine r_dup (pc' := 247) dL_loom_246 rfl rfl ?_
    refine r_iconst (pc' := 248) (v := 3) dL_loom_247 (by decide) rfl ?_
    refine r_iload (pc' := 250) dL_loom_248 0 rfl rfl ?_
    refine r_iastN (pc' := 251) (d := 3) dL_loom_250 (b.ar 0 rfl) rfl (by decide) (by decide) rfl ?_
    replace b := b.putI0 (a := c0) (j := 3) (x := nI (p0 % 3)) (b.n 0 rfl).2 (b.n 0 rfl).1 (by simp [(b.ne 3 0 rfl rfl (by decide)), (b.ne 4 0 rfl rfl (by decide)), (b.ne 2 0 rfl rfl (by decide)), (b.ne 6 0 rfl rfl (by decide)), (b.ne 7 0 rfl rfl (by decide)), (b.ne 10 0 rfl rfl (by decide))])
    refine r_aast20N (pc' := 252) (d := 0) dL_loom_251 (b.ar 1 rfl) (b.o 0 rfl) rfl (by decide) (by decide) rfl ?_
    replace b := b.putR (a := zc) (j := 0) (v := c0) (b.n 1 rfl).2 (b.n 1 rfl).1 (by simp)
    refine r_iinc (pc' := 255) (lv' := [(4, _), (7, _), (6, _), (5, _), (0, _), (1, _), (2, _), (3, _)]) dL_loom_252 3 rfl rfl (by decide) rfl rfl ?_
    refine aa_lv (lv' := [(4, .int (nI 1)), (7, _), (6, _), (5, _), (0, _), (1, _), (2, _), (3, _)]) rfl ?_
    refine r_goto (tgt := 183) dL_loom_255 rfl ?_
    refine r_iload (pc' := 185) dL_loom_183 0 rfl rfl ?_
    refine r_iconst (pc' := 186) (v := 3) dL_loom_185 (by decide) rfl ?_
    refine r_icmp_ge (tgt := 258) (pc' := 189) dL_loom_186 rfl rfl (fun h186 => ?_) (fun h186 => ?_)
    · exact absurd h186 (by decide)
    · refine r_aload_n (pc' := 190) dL_loom_189 rfl 4 rfl rfl ?_
      refine r_iconst (pc' := 191) (v := 1) dL_loom_190 (by decide) rfl ?_
      refine r_iload (pc' := 193) dL_loom_191 0 rfl rfl ?_
      refine r_iaddv (pc' := 194) dL_loom_193 (show _ = nI 2 from rfl) rfl ?_
      refine r_callS (pc' := 197) (k' := 13) (n' := 83) (nn := 2) (As := [_, _]) (rest := []) dL_loom_194 mb_L_cell ms_L_cell lk_L_28 rfl rfl rfl rfl rfl (Nat.le_of_ble_eq_true rfl) rfl (c_L_cell (by decide) (fun v => (cpI ?_)))
      refine r_istore (pc' := 199) (lv' := [(5, _), (4, _), (7, _), (6, _), (0, _), (1, _), (2, _), (3, _)]) dL_loom_197 (by decide) rfl rfl ?_
      refine r_iload (pc' := 201) dL_loom_199 0 rfl rfl ?_
      refine r_iconst (pc' := 202) (v := 1) dL_loom_201 (by decide) rfl ?_
      refine r_aload_n (pc' := 203) dL_loom_202 rfl 5 rfl rfl ?_
      refine r_getNIv (pc' := 206) dL_loom_203 fn_L_32 (b.o 10 rfl) rfl (b.f 25 rfl) rfl ?_
      refine r_ishl (pc' := 207) dL_loom_206 rfl ?_
      refine r_iconst (pc' := 208) (v := 1) dL_loom_207 (by decide) rfl ?_
      refine r_isubv (pc' := 209) dL_loom_208 (msk (by omega)) rfl ?_
      refine r_iandM (q := 2 + h0) (pc' := 210) dL_loom_209 (by omega) rfl rfl (fun u1 hu1 => ?_)
      refine r_istore (pc' := 212) (lv' := [(6, _), (5, _), (4, _), (7, _), (0, _), (1, _), (2, _), (3, _)]) dL_loom_210 (by decide) rfl rfl ?_
      refine r_iload (pc' := 214) dL_loom_212 1 rfl rfl ?_
      refine r_iconst (pc' := 215) (v := 3) dL_loom_214 (by decide) rfl ?_
      refine r_iushr (pc' := 216) dL_loom_215 rfl ?_
      refine r_iconst (pc' := 217) (v := 3) dL_loom_216 (by decide) rfl ?_
      refine r_iandM (q := 2) (pc' := 218) dL_loom_217 (by decide) rfl rfl (fun p1 hp1 => ?_)
      refine r_iconst (pc' := 219) (v := 3) dL_loom_218 (by decide) rfl ?_
      refine r_iremv (pc' := 220) dL_loom_219 (by decide) (nI_modt (b := 3) (by omega) (by decide) (by decide)) rfl ?_
      refine r_istore (pc' := 222) (lv' := [(7, _), (6, _), (5, _), (4, _), (0, _), (1, _), (2, _), (3, _)]) dL_loom_220 (by decide) rfl rfl ?_
      refine r_aload_n (pc' := 223) dL_loom_222 rfl 5 rfl rfl ?_
      refine r_getNO (pc' := 226) dL_loom_223 fn_L_66 (b.o 10 rfl) rfl (b.r 1 rfl) rfl ?_
      refine r_iload (pc' := 228) dL_loom_226 3 rfl rfl ?_
      refine r_iconst (pc' := 229) (v := 4) dL_loom_228 (by decide) rfl ?_
      refine r_newIG (pc' := 231) (N := 4) dL_loom_229 (by decide) (by decide) (by decide) (Nat.le_of_ble_eq_true rfl) (Nat.le_of_ble_eq_true rfl) rfl (fun c1 hzz => aa_widen (k' := 14) (n' := 87) (by decide) (by decide) ?_)
      have hc1 := notin_of hzz
      replace b := b.nw (ki := 11) (m := 4) hc1 (Kp.nw hc1)
      refine r_dup (pc' := 232) dL_loom_231 rfl rfl ?_
      refine r_iconst (pc' := 233) (v := 0) dL_loom_232 (by decide) rfl ?_
      refine r_iload (pc' := 235) dL_loom_233 1 rfl rfl ?_
      refine r_iastN (pc' := 236) (d := 0) dL_loom_235 (b.ar 0 rfl) rfl (by decide) (by decide) rfl ?_
      replace b := b.putI (a := c1) (j := 0) (x := nI u1) (b.n 0 rfl).2 (b.n 0 rfl).1 (by simp [(b.ne 1 0 rfl rfl (by decide)), (b.ne 4 0 rfl rfl (by decide)), (b.ne 5 0 rfl rfl (by decide)), (b.ne 3 0 rfl rfl (by decide)), (b.ne 7 0 rfl rfl (by decide)), (b.ne 8 0 rfl rfl (by decide)), (b.ne 11 0 rfl rfl (by decide))])
      refine r_dup (pc' := 237) dL_loom_236 rfl rfl ?_
      refine r_iconst (pc' := 238) (v := 1) dL_loom_237 (by decide) rfl ?_
      refine r_iload (pc' := 240) dL_loom_238 0 rfl rfl ?_
      refine r_iastN (pc' := 241) (d := 1) dL_loom_240 (b.ar 0 rfl) rfl (by decide) (by decide) rfl ?_
      replace b := b.putI (a := c1) (j := 1) (x := nI (p1 % 3)) (b.n 0 rfl).2 (b.n 0 rfl).1 (by simp [(b.ne 1 0 rfl rfl (by decide)), (b.ne 4 0 rfl rfl (by decide)), (b.ne 5 0 rfl rfl (by decide)), (b.ne 3 0 rfl rfl (by decide)), (b.ne 7 0 rfl rfl (by decide)), (b.ne 8 0 rfl rfl (by decide)), (b.ne 11 0 rfl rfl (by decide))])
      refine r_dup (pc' := 242) dL_loom_241 rfl rfl ?_
      refine r_iconst (pc' := 243) (v := 2) dL_loom_242 (by decide) rfl ?_
      refine r_iload (pc' := 245) dL_loom_243 1 rfl rfl ?_
      refine r_iastN (pc' := 246) (d := 2) dL_loom_245 (b.ar 0 rfl) rfl (by decide) (by decide) rfl ?_
      replace b := b.putI0 (a := c1) (j := 2) (x := nI u1) (b.n 0 rfl).2 (b.n 0 rfl).1 (by simp [(b.ne 4 0 rfl rfl (by decide)), (b.ne 5 0 rfl rfl (by decide)), (b.ne 3 0 rfl rfl (by decide)), (b.ne 7 0 rfl rfl (by decide)), (b.ne 8 0 rfl rfl (by decide)), (b.ne 11 0 rfl rfl (by decide)), (b.ne 9 0 rfl rfl (by decide)), (b.ne 10 0 rfl rfl (by decide))])
      refine r_dup (pc' := 247) dL_loom_246 rfl rfl ?_
      refine r_iconst (pc' := 248) (v := 3) dL_loom_247 (by decide) rfl ?_
      refine r_iload (pc' := 250) dL_loom_248 0 rfl rfl ?_
      refine r_iastN (pc' := 251) (d := 3) dL_loom_250 (b.ar 0 rfl) rfl (by decide) (by decide) rfl ?_
      replace b := b.putI0 (a := c1) (j := 3) (x := nI (p1 % 3)) (b.n 0 rfl).2 (b.n 0 rfl).1 (by simp [(b.ne 4 0 rfl rfl (by decide)), (b.ne 5 0 rfl rfl (by decide)), (b.ne 3 0 rfl rfl (by decide)), (b.ne 7 0 rfl rfl (by decide)), (b.ne 8 0 rfl rfl (by decide)), (b.ne 11 0 rfl rfl (by decide))])
      refine r_aast20N (pc' := 252) (d := 1) dL_loom_251 (b.ar 2 rfl) (b.o 0 rfl) rfl (by decide) (by decide) rfl ?_
      replace b := b.putR (a := zc) (j := 1) (v := c1) (b.n 2 rfl).2 (b.n 2 rfl).1 (by simp [(b.ne 9 2 rfl rfl (by decide)), (b.ne 10 2 rfl rfl (by decide))])
      refine r_iinc (pc' := 255) (lv' := [(4, _), (7, _), (6, _), (5, _), (0, _), (1, _), (2, _), (3, _)]) dL_loom_252 3 rfl rfl (by decide) rfl rfl ?_
      refine aa_lv (lv' := [(4, .int (nI 2)), (7, _), (6, _), (5, _), (0, _), (1, _), (2, _), (3, _)]) rfl ?_
      refine r_goto (tgt := 183) dL_loom_255 rfl ?_
      refine r_iload (pc' := 185) dL_loom_183 0 rfl rfl ?_
      refine r_iconst (pc' := 186) (v := 3) dL_loom_185 (by decide) rfl ?_
      refine r_icmp_ge (tgt := 258) (pc' := 189) dL_loom_186 rfl rfl (fun h186 => ?_) (fun h186 => ?_)
      · exact absurd h186 (by decide)
      · refine r_aload_n (pc' := 190) dL_loom_189 rfl 4 rfl rfl ?_
        refine r_iconst (pc' := 191) (v := 1) dL_loom_190 (by decide) rfl ?_
        refine r_iload (pc' := 193) dL_loom_191 0 rfl rfl ?_
        refine r_iaddv (pc' := 194) dL_loom_193 (show _ = nI 3 from rfl) rfl ?_
        refine r_callS (pc' := 197) (k' := 14) (n' := 87) (nn := 2) (As := [_, _]) (rest := []) dL_loom_194 mb_L_cell ms_L_cell lk_L_28 rfl rfl rfl rfl rfl (Nat.le_of_ble_eq_true rfl) rfl (c_L_cell (by decide) (fun v => (cpI ?_)))
        refine r_istore (pc' := 199) (lv' := [(5, _), (4, _), (7, _), (6, _), (0, _), (1, _), (2, _), (3, _)]) dL_loom_197 (by decide) rfl rfl ?_
        refine r_iload (pc' := 201) dL_loom_199 0 rfl rfl ?_
        refine r_iconst (pc' := 202) (v := 1) dL_loom_201 (by decide) rfl ?_
        refine r_aload_n (pc' := 203) dL_loom_202 rfl 5 rfl rfl ?_
        refine r_getNIv (pc' := 206) dL_loom_203 fn_L_32 (b.o 11 rfl) rfl (b.f 27 rfl) rfl ?_
        refine r_ishl (pc' := 207) dL_loom_206 rfl ?_
        refine r_iconst (pc' := 208) (v := 1) dL_loom_207 (by decide) rfl ?_
        refine r_isubv (pc' := 209) dL_loom_208 (msk (by omega)) rfl ?_
        refine r_iandM (q := 2 + h0) (pc' := 210) dL_loom_209 (by omega) rfl rfl (fun u2 hu2 => ?_)
        refine r_istore (pc' := 212) (lv' := [(6, _), (5, _), (4, _), (7, _), (0, _), (1, _), (2, _), (3, _)]) dL_loom_210 (by decide) rfl rfl ?_
        refine r_iload (pc' := 214) dL_loom_212 1 rfl rfl ?_
        refine r_iconst (pc' := 215) (v := 3) dL_loom_214 (by decide) rfl ?_
        refine r_iushr (pc' := 216) dL_loom_215 rfl ?_
        refine r_iconst (pc' := 217) (v := 3) dL_loom_216 (by decide) rfl ?_
        refine r_iandM (q := 2) (pc' := 218) dL_loom_217 (by decide) rfl rfl (fun p2 hp2 => ?_)
        refine r_iconst (pc' := 219) (v := 3) dL_loom_218 (by decide) rfl ?_
        refine r_iremv (pc' := 220) dL_loom_219 (by decide) (nI_modt (b := 3) (by omega) (by decide) (by decide)) rfl ?_
        refine r_istore (pc' := 222) (lv' := [(7, _), (6, _), (5, _), (4, _), (0, _), (1, _), (2, _), (3, _)]) dL_loom_220 (by decide) rfl rfl ?_
        refine r_aload_n (pc' := 223) dL_loom_222 rfl 5 rfl rfl ?_
        refine r_getNO (pc' := 226) dL_loom_223 fn_L_66 (b.o 11 rfl) rfl (b.r 2 rfl) rfl ?_
        refine r_iload (pc' := 228) dL_loom_226 3 rfl rfl ?_
        refine r_iconst (pc' := 229) (v := 4) dL_loom_228 (by decide) rfl ?_
        refine r_newIG (pc' := 231) (N := 4) dL_loom_229 (by decide) (by decide) (by decide) (Nat.le_of_ble_eq_true rfl) (Nat.le_of_ble_eq_true rfl) rfl (fun c2 hzz => aa_widen (k' := 15) (n' := 91) (by decide) (by decide) ?_)
        have hc2 := notin_of hzz
        replace b := b.nw (ki := 11) (m := 4) hc2 (Kp.nw hc2)
        refine r_dup (pc' := 232) dL_loom_231 rfl rfl ?_
        refine r_iconst (pc' := 233) (v := 0) dL_loom_232 (by decide) rfl ?_
        refine r_iload (pc' := 235) dL_loom_233 1 rfl rfl ?_
        refine r_iastN (pc' := 236) (d := 0) dL_loom_235 (b.ar 0 rfl) rfl (by decide) (by decide) rfl ?_
        replace b := b.putI (a := c2) (j := 0) (x := nI u2) (b.n 0 rfl).2 (b.n 0 rfl).1 (by simp [(b.ne 1 0 rfl rfl (by decide)), (b.ne 2 0 rfl rfl (by decide)), (b.ne 5 0 rfl rfl (by decide)), (b.ne 6 0 rfl rfl (by decide)), (b.ne 4 0 rfl rfl (by decide)), (b.ne 8 0 rfl rfl (by decide)), (b.ne 9 0 rfl rfl (by decide)), (b.ne 12 0 rfl rfl (by decide))])
        refine r_dup (pc' := 237) dL_loom_236 rfl rfl ?_
        refine r_iconst (pc' := 238) (v := 1) dL_loom_237 (by decide) rfl ?_
        refine r_iload (pc' := 240) dL_loom_238 0 rfl rfl ?_
        refine r_iastN (pc' := 241) (d := 1) dL_loom_240 (b.ar 0 rfl) rfl (by decide) (by decide) rfl ?_
        replace b := b.putI (a := c2) (j := 1) (x := nI (p2 % 3)) (b.n 0 rfl).2 (b.n 0 rfl).1 (by simp [(b.ne 1 0 rfl rfl (by decide)), (b.ne 2 0 rfl rfl (by decide)), (b.ne 5 0 rfl rfl (by decide)), (b.ne 6 0 rfl rfl (by decide)), (b.ne 4 0 rfl rfl (by decide)), (b.ne 8 0 rfl rfl (by decide)), (b.ne 9 0 rfl rfl (by decide)), (b.ne 12 0 rfl rfl (by decide))])
        refine r_dup (pc' := 242) dL_loom_241 rfl rfl ?_
        refine r_iconst (pc' := 243) (v := 2) dL_loom_242 (by decide) rfl ?_
        refine r_iload (pc' := 245) dL_loom_243 1 rfl rfl ?_
        refine r_iastN (pc' := 246) (d := 2) dL_loom_245 (b.ar 0 rfl) rfl (by decide) (by decide) rfl ?_
        replace b := b.putI0 (a := c2) (j := 2) (x := nI u2) (b.n 0 rfl).2 (b.n 0 rfl).1 (by simp [(b.ne 5 0 rfl rfl (by decide)), (b.ne 6 0 rfl rfl (by decide)), (b.ne 4 0 rfl rfl (by decide)), (b.ne 8 0 rfl rfl (by decide)), (b.ne 9 0 rfl rfl (by decide)), (b.ne 12 0 rfl rfl (by decide)), (b.ne 10 0 rfl rfl (by decide)), (b.ne 11 0 rfl rfl (by decide))])
        refine r_dup (pc' := 247) dL_loom_246 rfl rfl ?_
        refine r_iconst (pc' := 248) (v := 3) dL_loom_247 (by decide) rfl ?_
        refine r_iload (pc' := 250) dL_loom_248 0 rfl rfl ?_
        refine r_iastN (pc' := 251) (d := 3) dL_loom_250 (b.ar 0 rfl) rfl (by decide) (by decide) rfl ?_
        replace b := b.putI0 (a := c2) (j := 3) (x := nI (p2 % 3)) (b.n 0 rfl).2 (b.n 0 rfl).1 (by simp [(b.ne 5 0 rfl rfl (by decide)), (b.ne 6 0 rfl rfl (by decide)), (b.ne 4 0 rfl rfl (by decide)), (b.ne 8 0 rfl rfl (by decide)), (b.ne 9 0 rfl rfl (by decide)), (b.ne 12 0 rfl rfl (by decide))])
        refine r_aast20N (pc' := 252) (d := 2) dL_loom_251 (b.ar 3 rfl) (b.o 0 rfl) rfl (by decide) (by decide) rfl ?_
        replace b := b.putR (a := zc) (j := 2) (v := c2) (b.n 3 rfl).2 (b.n 3 rfl).1 (by simp)
        refine r_iinc (pc' := 255) (lv' := [(4, _), (7, _), (6, _), (5, _), (0, _), (1, _), (2, _), (3, _)]) dL_loom_252 3 rfl rfl (by decide) rfl rfl ?_
        refine aa_lv (lv' := [(4, .int (nI 3)), (7, _), (6, _), (5, _), (0, _), (1, _), (2, _), (3, _)]) rfl ?_
        refine r_goto (tgt := 183) dL_loom_255 rfl ?_
        refine r_iload (pc' := 185) dL_loom_183 0 rfl rfl ?_
        refine r_iconst (pc' := 186) (v := 3) dL_loom_185 (by decide) rfl ?_
        refine r_icmp_ge (tgt := 258) (pc' := 189) dL_loom_186 rfl rfl (fun h186 => ?_) (fun h186 => ?_)
        · refine r_aload_n (pc' := 259) dL_loom_258 rfl 5 rfl rfl ?_
          refine r_bipush (pc' := 261) (v := 6) dL_loom_259 (by decide) rfl ?_
          refine r_newIG (pc' := 263) (N := 6) dL_loom_261 (by decide) (by decide) (by decide) (Nat.le_of_ble_eq_true rfl) (Nat.le_of_ble_eq_true rfl) rfl (fun z10 hzz => aa_widen (k' := 16) (n' := 97) (by decide) (by decide) ?_)
          have hz10 := notin_of hzz
          replace b := b.nw (ki := 11) (m := 6) hz10 (Kp.nw hz10)
          refine r_putNR (pc' := 266) dL_loom_263 fn_L_70 (b.o 13 rfl) b.T rfl ⟨rfl, rfl⟩ rfl ?_
          replace b := b.putR (a := d) (j := 10) (v := z10) (b.n 13 rfl).2 (b.n 13 rfl).1 (by simp)
          refine r_iconst (pc' := 267) (v := 0) dL_loom_266 (by decide) rfl ?_
          refine r_istore (pc' := 269) (lv' := [(4, _), (7, _), (6, _), (5, _), (0, _), (1, _), (2, _), (3, _)]) dL_loom_267 (by decide) rfl rfl ?_
          refine r_iload (pc' := 271) dL_loom_269 0 rfl rfl ?_
          refine r_iconst (pc' := 272) (v := 3) dL_loom_271 (by decide) rfl ?_
          refine r_icmp_ge (tgt := 305) (pc' := 275) dL_loom_272 rfl rfl (fun h272 => ?_) (fun h272 => ?_)
          · exact absurd h272 (by decide)
          · refine r_aload_n (pc' := 276) dL_loom_275 rfl 5 rfl rfl ?_
            refine r_getNO (pc' := 279) dL_loom_276 fn_L_70 (b.o 13 rfl) rfl (b.r 0 rfl) rfl ?_
            refine r_iload (pc' := 281) dL_loom_279 0 rfl rfl ?_
            refine r_bipush (pc' := 283) (v := 20) dL_loom_281 (by decide) rfl ?_
            refine r_aload_n (pc' := 284) dL_loom_283 rfl 4 rfl rfl ?_
            refine r_iconst (pc' := 285) (v := 4) dL_loom_284 (by decide) rfl ?_
            refine r_callS (pc' := 288) (k' := 16) (n' := 97) (nn := 2) (As := [_, _]) (rest := [_, _, _]) dL_loom_285 mb_L_cell ms_L_cell lk_L_28 rfl rfl rfl rfl rfl (Nat.le_of_ble_eq_true rfl) rfl (c_L_cell (by decide) (fun v => (cpI ?_)))
            refine r_bipush (pc' := 290) (v := 6) dL_loom_288 (by decide) rfl ?_
            refine r_iload (pc' := 292) dL_loom_290 0 rfl rfl ?_
            refine r_imul (pc' := 293) dL_loom_292 rfl ?_
            refine r_iushr (pc' := 294) dL_loom_293 rfl ?_
            refine r_bipush (pc' := 296) (v := 63) dL_loom_294 (by decide) rfl ?_
            refine r_iandM (q := 6) (pc' := 297) dL_loom_296 (by decide) rfl rfl (fun y0 hy0 => ?_)
            refine r_iaddv (pc' := 298) dL_loom_297 (nI_add 20 y0) rfl ?_
            refine r_iastN (pc' := 299) (d := 0) dL_loom_298 (b.ar 0 rfl) rfl (by decide) (by decide) rfl ?_
            replace b := b.putI (a := z10) (j := 0) (x := nI (20 + y0)) (b.n 0 rfl).2 (b.n 0 rfl).1 (by simp [(b.ne 1 0 rfl rfl (by decide)), (b.ne 2 0 rfl rfl (by decide)), (b.ne 3 0 rfl rfl (by decide)), (b.ne 6 0 rfl rfl (by decide)), (b.ne 7 0 rfl rfl (by decide)), (b.ne 5 0 rfl rfl (by decide)), (b.ne 9 0 rfl rfl (by decide)), (b.ne 10 0 rfl rfl (by decide)), (b.ne 13 0 rfl rfl (by decide))])
            refine r_iinc (pc' := 302) (lv' := [(4, _), (7, _), (6, _), (5, _), (0, _), (1, _), (2, _), (3, _)]) dL_loom_299 0 rfl rfl (by decide) rfl rfl ?_
            refine aa_lv (lv' := [(4, .int (nI 1)), (7, _), (6, _), (5, _), (0, _), (1, _), (2, _), (3, _)]) rfl ?_
            refine r_goto (tgt := 269) dL_loom_302 rfl ?_
            refine r_iload (pc' := 271) dL_loom_269 0 rfl rfl ?_
            refine r_iconst (pc' := 272) (v := 3) dL_loom_271 (by decide) rfl ?_
            refine r_icmp_ge (tgt := 305) (pc' := 275) dL_loom_272 rfl rfl (fun h272 => ?_) (fun h272 => ?_)
            · exact absurd h272 (by decide)
            · refine r_aload_n (pc' := 276) dL_loom_275 rfl 5 rfl rfl ?_
              refine r_getNO (pc' := 279) dL_loom_276 fn_L_70 (b.o 13 rfl) rfl (b.r 0 rfl) rfl ?_
              refine r_iload (pc' := 281) dL_loom_279 0 rfl rfl ?_
              refine r_bipush (pc' := 283) (v := 20) dL_loom_281 (by decide) rfl ?_
              refine r_aload_n (pc' := 284) dL_loom_283 rfl 4 rfl rfl ?_
              refine r_iconst (pc' := 285) (v := 4) dL_loom_284 (by decide) rfl ?_
              refine r_callS (pc' := 288) (k' := 16) (n' := 97) (nn := 2) (As := [_, _]) (rest := [_, _, _]) dL_loom_285 mb_L_cell ms_L_cell lk_L_28 rfl rfl rfl rfl rfl (Nat.le_of_ble_eq_true rfl) rfl (c_L_cell (by decide) (fun v => (cpI ?_)))
              refine r_bipush (pc' := 290) (v := 6) dL_loom_288 (by decide) rfl ?_
              refine r_iload (pc' := 292) dL_loom_290 0 rfl rfl ?_
              refine r_imul (pc' := 293) dL_loom_292 rfl ?_
              refine r_iushr (pc' := 294) dL_loom_293 rfl ?_
              refine r_bipush (pc' := 296) (v := 63) dL_loom_294 (by decide) rfl ?_
              refine r_iandM (q := 6) (pc' := 297) dL_loom_296 (by decide) rfl rfl (fun y1 hy1 => ?_)
              refine r_iaddv (pc' := 298) dL_loom_297 (nI_add 20 y1) rfl ?_
              refine r_iastN (pc' := 299) (d := 1) dL_loom_298 (b.ar 0 rfl) rfl (by decide) (by decide) rfl ?_
              replace b := b.putI (a := z10) (j := 1) (x := nI (20 + y1)) (b.n 0 rfl).2 (b.n 0 rfl).1 (by simp [(b.ne 1 0 rfl rfl (by decide)), (b.ne 2 0 rfl rfl (by decide)), (b.ne 3 0 rfl rfl (by decide)), (b.ne 6 0 rfl rfl (by decide)), (b.ne 7 0 rfl rfl (by decide)), (b.ne 5 0 rfl rfl (by decide)), (b.ne 9 0 rfl rfl (by decide)), (b.ne 10 0 rfl rfl (by decide)), (b.ne 13 0 rfl rfl (by decide))])
              refine r_iinc (pc' := 302) (lv' := [(4, _), (7, _), (6, _), (5, _), (0, _), (1, _), (2, _), (3, _)]) dL_loom_299 0 rfl rfl (by decide) rfl rfl ?_
              refine aa_lv (lv' := [(4, .int (nI 2)), (7, _), (6, _), (5, _), (0, _), (1, _), (2, _), (3, _)]) rfl ?_
              refine r_goto (tgt := 269) dL_loom_302 rfl ?_
              refine r_iload (pc' := 271) dL_loom_269 0 rfl rfl ?_
              refine r_iconst (pc' := 272) (v := 3) dL_loom_271 (by decide) rfl ?_
              refine r_icmp_ge (tgt := 305) (pc' := 275) dL_loom_272 rfl rfl (fun h272 => ?_) (fun h272 => ?_)
              · exact absurd h272 (by decide)
              · refine r_aload_n (pc' := 276) dL_loom_275 rfl 5 rfl rfl ?_
                refine r_getNO (pc' := 279) dL_loom_276 fn_L_70 (b.o 13 rfl) rfl (b.r 0 rfl) rfl ?_
                refine r_iload (pc' := 281) dL_loom_279 0 rfl rfl ?_
                refine r_bipush (pc' := 283) (v := 20) dL_loom_281 (by decide) rfl ?_
                refine r_aload_n (pc' := 284) dL_loom_283 rfl 4 rfl rfl ?_
                refine r_iconst (pc' := 285) (v := 4) dL_loom_284 (by decide) rfl ?_
                refine r_callS (pc' := 288) (k' := 16) (n' := 97) (nn := 2) (As := [_, _]) (rest := [_, _, _]) dL_loom_285 mb_L_cell ms_L_cell lk_L_28 rfl rfl rfl rfl rfl (Nat.le_of_ble_eq_true rfl) rfl (c_L_cell (by decide) (fun v => (cpI ?_)))
                refine r_bipush (pc' := 290) (v := 6) dL_loom_288 (by decide) rfl ?_
                refine r_iload (pc' := 292) dL_loom_290 0 rfl rfl ?_
                refine r_imul (pc' := 293) dL_loom_292 rfl ?_
                refine r_iushr (pc' := 294) dL_loom_293 rfl ?_
                refine r_bipush (pc' := 296) (v := 63) dL_loom_294 (by decide) rfl ?_
                refine r_iandM (q := 6) (pc' := 297) dL_loom_296 (by decide) rfl rfl (fun y2 hy2 => ?_)
                refine r_iaddv (pc' := 298) dL_loom_297 (nI_add 20 y2) rfl ?_
                refine r_iastN (pc' := 299) (d := 2) dL_loom_298 (b.ar 0 rfl) rfl (by decide) (by decide) rfl ?_
                replace b := b.putI (a := z10) (j := 2) (x := nI (20 + y2)) (b.n 0 rfl).2 (b.n 0 rfl).1 (by simp [(b.ne 6 0 rfl rfl (by decide)), (b.ne 7 0 rfl rfl (by decide)), (b.ne 5 0 rfl rfl (by decide)), (b.ne 9 0 rfl rfl (by decide)), (b.ne 10 0 rfl rfl (by decide)), (b.ne 13 0 rfl rfl (by decide)), (b.ne 11 0 rfl rfl (by decide)), (b.ne 12 0 rfl rfl (by decide))])
                refine r_iinc (pc' := 302) (lv' := [(4, _), (7, _), (6, _), (5, _), (0, _), (1, _), (2, _), (3, _)]) dL_loom_299 0 rfl rfl (by decide) rfl rfl ?_
                refine aa_lv (lv' := [(4, .int (nI 3)), (7, _), (6, _), (5, _), (0, _), (1, _), (2, _), (3, _)]) rfl ?_
                refine r_goto (tgt := 269) dL_loom_302 rfl ?_
                refine r_iload (pc' := 271) dL_loom_269 0 rfl rfl ?_
                refine r_iconst (pc' := 272) (v := 3) dL_loom_271 (by decide) rfl ?_
                refine r_icmp_ge (tgt := 305) (pc' := 275) dL_loom_272 rfl rfl (fun h272 => ?_) (fun h272 => ?_)
                · refine r_aload_n (pc' := 306) dL_loom_305 rfl 5 rfl rfl ?_
                  have key : ∀ (I3 : JI) (S3 : JS), BD I S I3 S3 [(d, 10, z10), (zc, 2, c2), (zc, 1, c1), (zc, 0, c0), (d, 11, zc), (d, 6, z6), (d, 9, z9), (d, 8, z8), (d, 7, z7), (d, 5, z5), (d, 4, z4), (d, 14, z14), (z14, 1, oE Ω), (d, 13, z13), (z13, 1, oE Ω)] [(11, z10, 6), (11, c2, 4), (11, c1, 4), (11, c0, 4), (20, zc, 3), (12, z6, (3 + w0)), (11, z9, (3 + w0)), (11, z8, (3 + w0)), (11, z7, (2 + h0)), (12, z5, (2 + h0)), (12, z4, (2 + h0))] [(z10, 2, nI (20 + y2)), (z10, 1, nI (20 + y1)), (z10, 0, nI (20 + y0)), (c2, 1, nI (p2 % 3)), (c2, 0, nI u2), (c1, 1, nI (p1 % 3)), (c1, 0, nI u1), (c0, 1, nI (p0 % 3)), (c0, 0, nI u0), (z9, 3, nI (co 3)), (z9, 2, nI (co 2)), (z9, 1, nI (co 1)), (z9, 0, nI (co 0)), (z8, 3, nI (on 3)), (z8, 2, nI (on 2)), (z8, 1, nI (on 1)), (z8, 0, nI (on 0)), (z6, 3, 0), (z6, 2, 0), (z6, 1, 0), (z6, 0, 0), (z5, 3, 0), (z5, 2, 0), (z5, 1, 0), (z5, 0, 0), (z4, 3, 0), (z4, 2, 0), (z4, 1, 0), (z4, 0, 0), (d, 3, nI (2 + m0)), (d, 2, nI s0), (d, 1, nI (3 + l0)), (d, 0, nI (2 + h0)), (z14, 2, 0), (z13, 2, 0)] [(11, z10), (11, c2), (11, c1), (11, c0), (20, zc), (12, z6), (11, z9), (11, z8), (11, z7), (12, z5), (12, z4), (18, z14), (18, z13), (9, d)] [z10, c2, c1, c0, zc, z6, z9, z8, z7, z5, z4, z14, z13, d] → LQ Ω (sL S) S3 I3 d (fun j => if j = 4 then z4 else if j = 5 then z5 else if j = 6 then z6 else if j = 7 then z7 else if j = 8 then z8 else if j = 9 then z9 else if j = 10 then z10 else if j = 11 then zc else if j = 13 then z13 else z14) (fun k => if k = 0 then c0 else if k = 1 then c1 else c2) ((2 + h0, 3 + l0, s0, 2 + m0, 3 + w0), on, co, fun k => if k = 0 then u0 else if k = 1 then u1 else u2, fun k => if k = 0 then p0 % 3 else if k = 1 then p1 % 3 else p2 % 3, fun k => if k = 0 then 20 + y0 else if k = 1 then 20 + y1 else 20 + y2) := by
                    clear b
                    intro I3 S3 b
                    refine ⟨(b.o 13 rfl), fun j h1 h2 h3 => ?_, ⟨(b.ar 10 rfl), (b.ar 9 rfl), (b.ar 5 rfl), (b.ar 8 rfl), (b.ar 7 rfl), (b.ar 6 rfl), (b.ar 0 rfl), (b.ar 4 rfl)⟩, fun k hk => ?_, ⟨(b.f 32 rfl), (b.f 31 rfl), (b.f 30 rfl), (b.f 29 rfl)⟩, fun x hx => ?_, fun k hk => ?_, fun j hj => ?_, ⟨(b.o 12 rfl), (b.r 14 rfl), (b.f 34 rfl)⟩, ⟨(b.o 11 rfl), (b.r 12 rfl), (b.f 33 rfl)⟩, ⟨fun j hj => ?_, (b.n 12 rfl).2, (b.n 11 rfl).2, (b.ne 12 11 rfl rfl (by decide)), (b.n 13 rfl).2⟩, ⟨⟨by show 2 ≤ 2 + h0; omega, by show 2 + h0 ≤ 3; omega⟩, ⟨by show 3 ≤ 3 + l0; omega, by show 3 + l0 ≤ 18; omega⟩, by show s0 ≤ 3; omega, ⟨by show 2 ≤ 2 + m0; omega, by show 2 + m0 ≤ 5; omega⟩, ⟨by show 3 ≤ 3 + w0; omega, by show 3 + w0 ≤ 4; omega⟩, fun x hx => ⟨(k8 x).2, (k9 x).2⟩, fun k hk => ?_⟩⟩
                    · rcases (show j = 4 ∨ j = 5 ∨ j = 6 ∨ j = 7 ∨ j = 8 ∨ j = 9 ∨ j = 10 ∨ j = 11 ∨ j = 13 ∨ j = 14 by omega) with rfl | rfl | rfl | rfl | rfl | rfl | rfl | rfl | rfl | rfl
                      · exact (b.r 10 rfl)
                      · exact (b.r 9 rfl)
                      · exact (b.r 5 rfl)
                      · exact (b.r 8 rfl)
                      · exact (b.r 7 rfl)
                      · exact (b.r 6 rfl)
                      · exact (b.r 0 rfl)
                      · exact (b.r 4 rfl)
                      · exact (b.r 13 rfl)
                      · exact (b.r 11 rfl)
                    · rcases (show k = 0 ∨ k = 1 ∨ k = 2 by omega) with rfl | rfl | rfl
                      · exact ⟨(b.r 3 rfl), (b.ar 3 rfl), (b.f 8 rfl), (b.f 7 rfl)⟩
                      · exact ⟨(b.r 2 rfl), (b.ar 2 rfl), (b.f 6 rfl), (b.f 5 rfl)⟩
                      · exact ⟨(b.r 1 rfl), (b.ar 1 rfl), (b.f 4 rfl), (b.f 3 rfl)⟩
                    · rcases (show x = 0 ∨ x = 1 ∨ x = 2 ∨ x = 3 by omega) with rfl | rfl | rfl | rfl
                      · exact ⟨(b.f 16 rfl), (b.f 12 rfl)⟩
                      · exact ⟨(b.f 15 rfl), (b.f 11 rfl)⟩
                      · exact ⟨(b.f 14 rfl), (b.f 10 rfl)⟩
                      · exact ⟨(b.f 13 rfl), (b.f 9 rfl)⟩
                    · rcases (show k = 0 ∨ k = 1 ∨ k = 2 by omega) with rfl | rfl | rfl
                      · exact (b.f 2 rfl)
                      · exact (b.f 1 rfl)
                      · exact (b.f 0 rfl)
                    · rcases (show j = 0 ∨ j = 1 ∨ j = 2 ∨ j = 3 by omega) with rfl | rfl | rfl | rfl
                      · exact ⟨(b.f 28 rfl), (b.f 24 rfl), (b.f 20 rfl)⟩
                      · exact ⟨(b.f 27 rfl), (b.f 23 rfl), (b.f 19 rfl)⟩
                      · exact ⟨(b.f 26 rfl), (b.f 22 rfl), (b.f 18 rfl)⟩
                      · exact ⟨(b.f 25 rfl), (b.f 21 rfl), (b.f 17 rfl)⟩
                    · rcases hj with rfl | rfl | rfl | rfl | rfl
                      · exact ⟨(b.n 10 rfl).2, (b.ne 10 13 rfl rfl (by decide)), (b.ne 10 7 rfl rfl (by decide)), (b.ne 10 12 rfl rfl (by decide)), (b.ne 10 11 rfl rfl (by decide)), fun k hk => by rcases (show k = 0 ∨ k = 1 ∨ k = 2 by omega) with rfl | rfl | rfl; exact (b.ne 10 3 rfl rfl (by decide)); exact (b.ne 10 2 rfl rfl (by decide)); exact (b.ne 10 1 rfl rfl (by decide))⟩
                      · exact ⟨(b.n 9 rfl).2, (b.ne 9 13 rfl rfl (by decide)), (b.ne 9 7 rfl rfl (by decide)), (b.ne 9 12 rfl rfl (by decide)), (b.ne 9 11 rfl rfl (by decide)), fun k hk => by rcases (show k = 0 ∨ k = 1 ∨ k = 2 by omega) with rfl | rfl | rfl; exact (b.ne 9 3 rfl rfl (by decide)); exact (b.ne 9 2 rfl rfl (by decide)); exact (b.ne 9 1 rfl rfl (by decide))⟩
                      · exact ⟨(b.n 5 rfl).2, (b.ne 5 13 rfl rfl (by decide)), (b.ne 5 7 rfl rfl (by decide)), (b.ne 5 12 rfl rfl (by decide)), (b.ne 5 11 rfl rfl (by decide)), fun k hk => by rcases (show k = 0 ∨ k = 1 ∨ k = 2 by omega) with rfl | rfl | rfl; exact (b.ne 5 3 rfl rfl (by decide)); exact (b.ne 5 2 rfl rfl (by decide)); exact (b.ne 5 1 rfl rfl (by decide))⟩
                      · exact ⟨(b.n 8 rfl).2, (b.ne 8 13 rfl rfl (by decide)), (b.ne 8 7 rfl rfl (by decide)), (b.ne 8 12 rfl rfl (by decide)), (b.ne 8 11 rfl rfl (by decide)), fun k hk => by rcases (show k = 0 ∨ k = 1 ∨ k = 2 by omega) with rfl | rfl | rfl; exact (b.ne 8 3 rfl rfl (by decide)); exact (b.ne 8 2 rfl rfl (by decide)); exact (b.ne 8 1 rfl rfl (by decide))⟩
                      · exact ⟨(b.n 0 rfl).2, (b.ne 0 13 rfl rfl (by decide)), (b.ne 0 7 rfl rfl (by decide)), (b.ne 0 12 rfl rfl (by decide)), (b.ne 0 11 rfl rfl (by decide)), fun k hk => by rcases (show k = 0 ∨ k = 1 ∨ k = 2 by omega) with rfl | rfl | rfl; exact (b.ne 0 3 rfl rfl (by decide)); exact (b.ne 0 2 rfl rfl (by decide)); exact (b.ne 0 1 rfl rfl (by decide))⟩
                    · rcases (show k = 0 ∨ k = 1 ∨ k = 2 by omega) with rfl | rfl | rfl
                      · exact ⟨hu0, Nat.mod_lt _ (by decide), Nat.le_add_right _ _, by show 20 + y0 ≤ 83; omega⟩
                      · exact ⟨hu1, Nat.mod_lt _ (by decide), Nat.le_add_right _ _, by show 20 + y1 ≤ 83; omega⟩
                      · exact ⟨hu2, Nat.mod_lt _ (by decide), Nat.le_add_right _ _, by show 20 + y2 ≤ 83; omega⟩
                  exact r_aret dL_loom_306 rfl (Or.inl ⟨_, rfl⟩) (Or.inr ⟨_, rfl⟩) (by decide) (by decide) (hQ d _ _ _ _ _ (key _ _ b) (b.K.mono fun c hc q => q hc))
                · exact absurd (show (3 : Int32) ≤ nI 3 by decide) h272
        · exact absurd (show (3 : Int32) ≤ nI 3 by decide) h186
