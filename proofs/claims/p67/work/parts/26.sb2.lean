/-! StringBuilder's members -/
theorem nI_subT {a b : Nat} (ha : a < 2 ^ 30) (hb : b < 2 ^ 30) : (nI a - nI b).toInt = (a : Int) - b := by
  rw [Int32.toInt_sub, nI_toInt (by omega), nI_toInt (by omega)]
  exact Int.bmod_eq_of_le (by omega) (by omega)
theorem sub_le0 {a b : Nat} (ha : a < 2 ^ 30) (hb : b < 2 ^ 30) : (nI a - nI b ≤ 0) ↔ a ≤ b := by
  rw [Int32.le_iff_toInt_le, nI_subT ha hb, Int32.toInt_zero]; omega
theorem mn_l {a b : Nat} (h : a ≤ b) (hb : b < 2 ^ 31) : mnF (nI a) (nI b) = nI a := by unfold mnF; rw [if_neg (nI_nlt h hb)]
theorem mn_r {a b : Nat} (h : b ≤ a) (ha : a < 2 ^ 31) : mnF (nI a) (nI b) = nI b := by
  unfold mnF
  by_cases q : b < a
  · rw [if_pos (nI_lt q ha)]
  · have e : a = b := by omega
    rw [if_neg (nI_nlt (by omega) (by omega)), e]
theorem nI_m1 (n : Nat) : nI (n + 1) + Int32.ofInt (-1) = nI n := by
  rw [nI_succ, show Int32.ofInt (-1) = -(1 : Int32) from rfl, Int32.add_assoc, show (1 : Int32) + -(1 : Int32) = 0 from by decide, Int32.add_zero]
theorem cyR_o {I : JI} {f : Nat → Int32} {a sp dp n x : Nat} (h : x ≠ a) : cyR I f a sp dp n x = I x := by funext j; simp [cyR, h]
theorem cyR_in {I : JI} {f : Nat → Int32} {a dp n j : Nat} (h : j < n) : cyR I f a 0 dp n a (dp + j) = f j := by
  unfold cyR
  rw [if_pos rfl, if_pos ⟨Nat.le_add_right _ _, by omega⟩, Nat.zero_add, Nat.add_sub_cancel_left]
theorem cyR_out {I : JI} {f : Nat → Int32} {a dp n j : Nat} (h : j < dp ∨ dp + n ≤ j) : cyR I f a 0 dp n a j = I a j := by
  unfold cyR
  rw [if_pos rfl, if_neg (by omega)]
section SBQ
variable {Ω : JO} {Y Z : JM} {F : JF} {k n k' n' pc pc' : Nat} {lv lv' : List (Nat × Value)} {st rest : List Value} {I : JI} {S : JS}
theorem r_copyB0 {idx a0 a n0 n1 d L : Nat} (hd : decode Y.2.1 pc = .ok (.invokestatic idx, 3)) (hw : AW Y.1.cls idx) (hA0 : ArE 10 S a0 n0) (hA : ArE 10 S a n1) (hL : L ≤ n0) (hD : d + L ≤ n1) (hb : n0 < 2 ^ 31 ∧ n1 < 2 ^ 31) (hfit : ∀ i, i < L → fits .byte (.int (I a0 i)) = true) (hf : 1 ≤ Y.2.2.2.2.2.frames) (hlo : (rest.map fun v => v.category).sum + (nativeFrameWords "java/lang/System" "arraycopy" 5 + 11) ≤ Y.2.2.2.2.2.locals) (hp : pc + 3 = pc') (h : AA Ω Y F k n pc' lv rest (cyR I (I a0) a 0 d L) S) : AA Ω Y F k n pc lv (.int (nI L) :: .int (nI d) :: .ref a :: .int 0 :: .ref a0 :: rest) I S := by
  have e1 : (nI L).toNatClampNeg = L := nI_clamp (by omega)
  have e2 : (nI d).toNatClampNeg = d := nI_clamp (by omega)
  refine r_copyB hd hw hA0 hA (by decide) (nI_pos (by omega)) (nI_pos (by omega)) (by rw [e1]; show 0 + L ≤ n0; omega) (by rw [e1, e2]; exact hD) (fun i hi => ?_) hf hlo hp (by rw [e1, e2]; exact h)
  rw [e1] at hi
  have := hfit i hi
  rw [show (0 : Int32).toNatClampNeg + i = i from Nat.zero_add i]; exact this
theorem r_copyS0 {idx a n1 d : Nat} {own : String} {sk : Nat} {tx : String} (hd : decode Y.2.1 pc = .ok (.invokestatic idx, 3)) (hw : AW Y.1.cls idx) (ht : Cond.stringRef own sk tx ∈ lw_tbl) (hA : ArE 10 S a n1) (hD : d + (tb tx).length ≤ n1) (hb : n1 < 2 ^ 31) (hs : ∀ x, x ∈ tb tx → x < 128) (hf : 1 ≤ Y.2.2.2.2.2.frames) (hlo : (rest.map fun v => v.category).sum + (nativeFrameWords "java/lang/System" "arraycopy" 5 + 11) ≤ Y.2.2.2.2.2.locals) (hp : pc + 3 = pc') (h : AA Ω Y F k n pc' lv rest (cyR I (chE tx) a 0 d (tb tx).length) S) : AA Ω Y F k n pc lv (.int (nI (tb tx).length) :: .int (nI d) :: .ref a :: .int 0 :: .ref (Ω.2.2.2.2.1 own sk).2 :: rest) I S := by
  have e1 : (nI (tb tx).length).toNatClampNeg = (tb tx).length := nI_clamp (by omega)
  have e2 : (nI d).toNatClampNeg = d := nI_clamp (by omega)
  refine r_copyS hd hw ht hA (nI_pos (by omega)) (nI_pos (by omega)) (by rw [e1, tb_len]; exact Nat.le_refl _) (by rw [e1, e2]; exact hD) (fun i hi => ?_) hf hlo hp (by rw [e1, e2]; exact h)
  rw [e1] at hi
  rw [chE_tb tx hi]
  refine fit_nI (hs _ ?_)
  rw [List.getD_eq_getElem?_getD, List.getElem?_eq_getElem hi]
  exact List.getElem_mem _
theorem r_bastN {a N d c : Nat} {i x : Int32} (hd : decode Y.2.1 pc = .ok (.bastore, 1)) (hA : ArE 10 S a N) (hi : i = nI d) (hin : d < N) (hN : N < 2 ^ 31) (hx : vp_nar .byte x = nI c) (hp : pc + 1 = pc') (h : AA Ω Y F k n pc' lv st (stI I a d (nI c)) S) : AA Ω Y F k n pc lv (.int x :: .int i :: .ref a :: st) I S := by
  subst hi
  refine r_bastore hd hA (vp_nI hin (by omega)) hp ?_
  rw [nI_clamp (by omega), hx]; exact h
theorem r_putBf {ci j idx a : Nat} {v : Int32} (hd : decode Y.2.1 pc = .ok (.putfield idx, 3)) (hf : FA Y.1.cls idx ci j .byte true) (ho : a ∈ sL S ∧ sK S a = ci) (hr : isR ci j = false) (hv : v = 0) (hfin : Y.1.name = "<init>" ∧ FD Y.1.cls ci j) (hp : pc + 3 = pc') (h : AA Ω Y F k n pc' lv st (stI I a j v) S) : AA Ω Y F k n pc lv (.int v :: .ref a :: st) I S := by
  subst hv
  exact r_putE hd hf ho rfl rfl (fun _ => hfin) (up_I ho.2 (by obtain ⟨_, _, _, _, _, _, f3, _⟩ := hf; exact f3) hr) rfl rfl hp h
end SBQ
theorem nar_b {c : Nat} (h : c < 128) : vp_nar .byte (nI c) = nI c := by_fin (n := 128) (P := fun c => vp_nar .byte (nI c) = nI c) (by decide +kernel) h
theorem nar_b2 {c : Nat} (h : c < 128) : vp_nar .byte (nI c).toInt8.toInt32 = nI c := by_fin (n := 128) (P := fun c => vp_nar .byte (nI c).toInt8.toInt32 = nI c) (by decide +kernel) h

set_option maxHeartbeats 2000000 in
theorem c_J7_copyOf_9075b {Ω : JO} {I : JI} {S : JS} {Q : JQ} {a m q : Nat} (hA : ArE 10 S a m) (hm : m < q) (hq : q ≤ 2000) (hf : ∀ j, j < m → fits .byte (.int (I a j)) = true) (hQ : ∀ z I', z ∉ sL S → Kp (fun _ => False) I S I' (nwN S z 10 q) → (∀ j, j < m → I' z j = I a j) → (∀ j, m ≤ j → I' z j = 0) → Q (.inl (some (.ref z))) I' (nwN S z 10 q)) : Call Ω m_J7_copyOf_9075b [.ref a, .int (nI q)] I S Q := by
  refine call_of (by decide +kernel) rfl (Nat.le_of_ble_eq_true rfl) ?_
  change AA Ω m_J7_copyOf_9075b (FQ Ω m_J7_copyOf_9075b Q) 0 0 0 [(0, .ref a), (1, .int (nI q))] [] I S
  refine r_iload_n (pc' := 1) dJ7_copyOf_9075b_0 rfl 1 rfl rfl ?_
  refine r_aload_n (pc' := 2) dJ7_copyOf_9075b_1 rfl 0 rfl rfl ?_
  refine r_alen (pc' := 3) dJ7_copyOf_9075b_2 hA (by decide) rfl rfl ?_
  refine r_icmp_ne (tgt := 14) (pc' := 6) dJ7_copyOf_9075b_3 rfl rfl (fun h3 => ?_) (fun h3 => ?_)
  · refine r_iload_n (pc' := 15) dJ7_copyOf_9075b_14 rfl 1 rfl rfl ?_
    refine r_newBG (pc' := 17) (N := q) dJ7_copyOf_9075b_15 (nI_pos (by omega)) (nI_clamp (by omega)) (by omega) (Nat.le_of_ble_eq_true rfl) (show 0 + q ≤ 2000 from by omega) rfl (fun z hz => aa_widen (k' := 1) (n' := 2000) (by decide) (by omega) ?_)
    have hz2 : z ∉ sL S := notin_of hz
    have hne : a ≠ z := fun e => hz2 (e ▸ hA.1)
    have hA2 : ArE 10 (nwN S z 10 q) a m := (Kp.nw (P := fun _ => False) (I := I) hz2).ar nwN_T hA
    refine r_astore_n (pc' := 18) (lv' := [(2, _), (0, _), (1, _)]) dJ7_copyOf_9075b_17 rfl (by decide) rfl rfl ?_
    refine r_aload_n (pc' := 19) dJ7_copyOf_9075b_18 rfl 1 rfl rfl ?_
    refine r_iconst (pc' := 20) (v := 0) dJ7_copyOf_9075b_19 (by decide) rfl ?_
    refine r_aload_n (pc' := 21) dJ7_copyOf_9075b_20 rfl 0 rfl rfl ?_
    refine r_iconst (pc' := 22) (v := 0) dJ7_copyOf_9075b_21 (by decide) rfl ?_
    refine r_aload_n (pc' := 23) dJ7_copyOf_9075b_22 rfl 1 rfl rfl ?_
    refine r_alen (pc' := 24) dJ7_copyOf_9075b_23 hA2 (by decide) rfl rfl ?_
    refine r_iload_n (pc' := 25) dJ7_copyOf_9075b_24 rfl 2 rfl rfl ?_
    refine r_mmin (pc' := 28) dJ7_copyOf_9075b_25 mw_J7_304 (by decide) (Nat.le_of_ble_eq_true rfl) (by decide) (by decide) rfl ?_
    rw [show Int32.ofNat m = nI m from rfl, mn_l (by omega) (by omega)]
    refine r_copyB0 (pc' := 31) (d := 0) dJ7_copyOf_9075b_28 aw_J7_150 hA2 nwN_ar (Nat.le_refl _) (by omega) ⟨by omega, by omega⟩ (fun i hi => by rw [nwI_o hne]; exact hf i hi) (by decide) (Nat.le_of_ble_eq_true rfl) rfl ?_
    refine r_aload_n (pc' := 32) dJ7_copyOf_9075b_31 rfl 0 rfl rfl ?_
    exact r_aret dJ7_copyOf_9075b_32 rfl (Or.inr ⟨_, rfl⟩) (Or.inr ⟨_, rfl⟩) (by decide) (by decide) (hQ z _ hz2 ((Kp.nw hz2).trans (Kp.cy (P := fun c => c = z) rfl) (fun c hc h => h.elim id (fun e => hz2 (e ▸ hc)))) (fun j hj => by have e := cyR_in (I := nwI I z) (f := nwI I z a) (a := z) (dp := 0) hj; rw [Nat.zero_add] at e; rw [e, nwI_o hne]) (fun j hj => by rw [cyR_out (Or.inr (by omega)), nwI_z]))
  · exact absurd ((nI_eq (by omega) (by omega)).mp (show nI q = nI m from h3)) (by omega)
theorem SBk.nsz {S : JS} {I : JI} {b v cap : Nat} {t : List Nat} (h : SBk S I b v cap t) : t.length ≤ 2002 := Nat.le_trans h.le h.hc
set_option maxHeartbeats 2000000 in
theorem c_J5_ensureCapacityInternal_d00df {Ω : JO} {I : JI} {S : JS} {Q : JQ} {b v cap q : Nat} {t : List Nat} (h : SBk S I b v cap t) (hq : q ≤ 1000) (hQ : ∀ v' cap' I' S', q ≤ cap' → SBk S' I' b v' cap' t → (v' = v ∨ v' ∉ sL S) → Kp (fun c => c = b) I S I' S' → Q (.inl none) I' S') : Call Ω m_J5_ensureCapacityInternal_d00df [.ref b, .int (nI q)] I S Q := by
  refine call_of (by decide +kernel) rfl (Nat.le_of_ble_eq_true rfl) ?_
  change AA Ω m_J5_ensureCapacityInternal_d00df (FQ Ω m_J5_ensureCapacityInternal_d00df Q) 0 0 0 [(0, .ref b), (1, .int (nI q))] [] I S
  refine r_aload_n (pc' := 1) dJ5_ensureCapacityInternal_d00df_0 rfl 0 rfl rfl ?_
  refine r_getO (pc' := 4) dJ5_ensureCapacityInternal_d00df_1 fa_J5_15 h.o rfl h.r rfl ?_
  refine r_alen (pc' := 5) dJ5_ensureCapacityInternal_d00df_4 h.arr (by decide) rfl rfl ?_
  refine r_aload_n (pc' := 6) dJ5_ensureCapacityInternal_d00df_5 rfl 0 rfl rfl ?_
  refine r_getIv (pc' := 9) dJ5_ensureCapacityInternal_d00df_6 fa_J5_22 h.o rfl h.cd rfl ?_
  refine r_ishrv (pc' := 10) dJ5_ensureCapacityInternal_d00df_9 (sb_shr0 _) rfl ?_
  refine r_istore_n (pc' := 11) (lv' := [(2, _), (0, _), (1, _)]) dJ5_ensureCapacityInternal_d00df_10 rfl (by decide) rfl rfl ?_
  refine r_iload_n (pc' := 12) dJ5_ensureCapacityInternal_d00df_11 rfl 2 rfl rfl ?_
  refine r_iload_n (pc' := 13) dJ5_ensureCapacityInternal_d00df_12 rfl 0 rfl rfl ?_
  refine r_isub (pc' := 14) dJ5_ensureCapacityInternal_d00df_13 rfl ?_
  refine r_if_le (tgt := 38) (pc' := 17) dJ5_ensureCapacityInternal_d00df_14 rfl rfl (fun h14 => ?_) (fun h14 => ?_)
  · exact r_ret dJ5_ensureCapacityInternal_d00df_38 rfl (by decide) (by decide) (hQ v cap I S ((sub_le0 (by omega) (by have := h.hc; omega)).mp h14) h (Or.inl rfl) Kp.rf)
  · have hlt : cap < q := Nat.lt_of_not_le fun e => h14 ((sub_le0 (by omega) (by have := h.hc; omega)).mpr e)
    have hmx : cap < cap + max (q - cap) (cap + 2) ∧ cap + max (q - cap) (cap + 2) ≤ 2000 ∧ q ≤ cap + max (q - cap) (cap + 2) := by omega
    refine r_aload_n (pc' := 18) dJ5_ensureCapacityInternal_d00df_17 rfl 1 rfl rfl ?_
    refine r_aload_n (pc' := 19) dJ5_ensureCapacityInternal_d00df_18 rfl 1 rfl rfl ?_
    refine r_getO (pc' := 22) dJ5_ensureCapacityInternal_d00df_19 fa_J5_15 h.o rfl h.r rfl ?_
    refine r_aload_n (pc' := 23) dJ5_ensureCapacityInternal_d00df_22 rfl 1 rfl rfl ?_
    refine r_iload_n (pc' := 24) dJ5_ensureCapacityInternal_d00df_23 rfl 2 rfl rfl ?_
    refine r_callU (pc' := 27) (k' := 0) (n' := 0) (nn := 1) (As := [_]) (rest := [_, _]) dJ5_ensureCapacityInternal_d00df_24 uc_J5_104 h.o (by decide) rfl rfl rfl rfl rfl rfl (Nat.le_of_ble_eq_true rfl) rfl (c_J5_newCapacity_0f7a4 h.o h.r h.arr h.cd hlt (by omega) (?_))
    refine r_aload_n (pc' := 28) dJ5_ensureCapacityInternal_d00df_27 rfl 1 rfl rfl ?_
    refine r_getIv (pc' := 31) dJ5_ensureCapacityInternal_d00df_28 fa_J5_22 h.o rfl h.cd rfl ?_
    refine r_ishlv (pc' := 32) dJ5_ensureCapacityInternal_d00df_31 (sb_shl0 _) rfl ?_
    refine r_callS (pc' := 35) (k' := 1) (n' := 2000) (nn := 2) (As := [_, _]) (rest := [_]) dJ5_ensureCapacityInternal_d00df_32 mb_J7_copyOf_9075b ms_J7_copyOf_9075b lk_J5_108 rfl rfl rfl rfl rfl (Nat.le_of_ble_eq_true rfl) rfl (c_J7_copyOf_9075b h.arr hmx.1 hmx.2.1 (fun j hj => h.fit j hj) (fun z I' hz hK hlo hhi => (cpR ?_)))
    refine r_putR (pc' := 38) dJ5_ensureCapacityInternal_d00df_35 fa_J5_15 (hK.o h.o) rfl ⟨rfl, rfl⟩ (fun h => by cases h) rfl ?_
    refine r_ret dJ5_ensureCapacityInternal_d00df_38 rfl (by decide) (by decide) (hQ z _ _ _ hmx.2.2 ?_ (Or.inr hz) (hK.trans (Kp.stR (P := fun c => c = b) rfl) (fun c _ e => e.elim False.elim id)))
    have hbz : b ≠ z := fun e => hz (e ▸ h.o.1)
    have eI : I' b = I b := hK.gI h.o.1 (fun e => e)
    exact ⟨hK.o h.o, stR_R1, (show ArE 10 (nwN S z 10 (cap + max (q - cap) (cap + 2))) z _ from nwN_ar), by rw [eI]; exact h.cd, by rw [eI]; exact h.n, Nat.le_trans h.le (Nat.le_of_lt hmx.1), by omega, fun j hj => by rw [hlo j (Nat.lt_of_lt_of_le hj h.le)]; exact h.at j hj, h.sm, fun j hj => by
      by_cases q2 : j < cap
      · rw [hlo j q2]; exact h.fit j q2
      · rw [hhi j (by omega)]; exact fit_0⟩
/-- after some appending: the bytes, the same array or a fresh one, all else kept -/
def SBp (b v : Nat) (I : JI) (S : JS) (I' : JI) (S' : JS) (t' : List Nat) : Prop := ∃ v' cap', SBk S' I' b v' cap' t' ∧ (v' = v ∨ v' ∉ sL S) ∧ Kp (fun c => c = b ∨ c = v) I S I' S'
theorem SBp.mk {S : JS} {I : JI} {b v v1 cap1 : Nat} {t u : List Nat} {I1 I' : JI} {S1 S' : JS} (h1 : SBk S1 I1 b v1 cap1 t) (hv : v1 = v ∨ v1 ∉ sL S) (hK : Kp (fun c => c = b) I S I1 S1) (hle : (t ++ u).length ≤ cap1) (hs : ∀ x, x ∈ u → x < 128) (hS : S' = S1) (h1' : I' b 1 = 0) (h3 : I' b 3 = nI (t ++ u).length) (hlo : ∀ j, j < t.length → I' v1 j = I1 v1 j) (hhi : ∀ j, j < u.length → I' v1 (t.length + j) = nI (u.getD j 0)) (hrest : ∀ j, (t ++ u).length ≤ j → I' v1 j = I1 v1 j) (ho : ∀ c, c ≠ b → c ≠ v1 → I' c = I1 c) : SBp b v I S I' S' (t ++ u) := by
  subst hS
  refine ⟨v1, cap1, h1.app hle hs h1.T h1.o h1.r h1.arr h1' h3 hlo hhi hrest, hv, fun c hc => ?_⟩
  obtain ⟨k1, k2, k3, k4⟩ := hK c hc
  refine ⟨k1, k2, k3, fun hn => ?_⟩
  have hcb : c ≠ b := fun e => hn (Or.inl e)
  have hcv : c ≠ v1 := fun e => hv.elim (fun q => hn (Or.inr (e.trans q))) (fun q => q (e ▸ hc))
  obtain ⟨g1, g2, g3⟩ := k4 hcb
  exact ⟨(ho c hcb hcv).trans g1, g2, g3⟩
set_option maxHeartbeats 2000000 in
theorem c_J5_inflateIfNeededFor_a7421 {Ω : JO} {I : JI} {S : JS} {Q : JQ} {b : Nat} (ho : b ∈ sL S ∧ sK S b = 16) (hc : I b 1 = 0) {own : String} {sk : Nat} {tx : String} (ht : Cond.stringRef own sk tx ∈ lw_tbl) (hQ : Q (.inl none) I S) : Call Ω m_J5_inflateIfNeededFor_a7421 [.ref b, .ref (Ω.2.2.2.2.1 own sk).1] I S Q := by
  refine call_of (by decide +kernel) rfl (Nat.le_of_ble_eq_true rfl) ?_
  change AA Ω m_J5_inflateIfNeededFor_a7421 (FQ Ω m_J5_inflateIfNeededFor_a7421 Q) 0 0 0 [(0, .ref b), (1, .ref (Ω.2.2.2.2.1 own sk).1)] [] I S
  refine r_sCompact (pc' := 3) dJ5_inflateIfNeededFor_a7421_0 fl_J5_18 rfl ?_
  refine r_if_eq (tgt := 21) (pc' := 6) dJ5_inflateIfNeededFor_a7421_3 rfl rfl (fun h3 => ?_) (fun h3 => ?_)
  · exact absurd h3 (by decide)
  · refine r_aload_n (pc' := 7) dJ5_inflateIfNeededFor_a7421_6 rfl 0 rfl rfl ?_
    refine r_getIv (pc' := 10) dJ5_inflateIfNeededFor_a7421_7 fa_J5_22 ho rfl hc rfl ?_
    refine r_aload_n (pc' := 11) dJ5_inflateIfNeededFor_a7421_10 rfl 1 rfl rfl ?_
    refine r_callT (pc' := 14) (k' := 0) (n' := 0) (Z := m_J0_coder_7d493) (nn := 0) (As := []) (rest := [_]) dJ5_inflateIfNeededFor_a7421_11 mb_J0_coder_7d493 mi_J0_coder_7d493 rfl ht lk_J5_40 rfl rfl rfl rfl rfl (Nat.le_of_ble_eq_true rfl) rfl (c_J0_coder_7d493 ht (cpI ?_))
    refine r_icmp_eq (tgt := 21) (pc' := 17) dJ5_inflateIfNeededFor_a7421_14 rfl rfl (fun h14 => ?_) (fun h14 => ?_)
    · exact r_ret dJ5_inflateIfNeededFor_a7421_21 rfl (by decide) (by decide) (hQ)
    · exact absurd rfl h14
set_option maxHeartbeats 2000000 in
theorem c_J0_getBytes_840e7 {Ω : JO} {I : JI} {S : JS} {Q : JQ} {own : String} {sk : Nat} {tx : String} (ht : Cond.stringRef own sk tx ∈ lw_tbl) {v n d : Nat} (hA : ArE 10 S v n) (hD : d + (tb tx).length ≤ n) (hb : n < 2 ^ 31) (hs : ∀ x, x ∈ tb tx → x < 128) (hQ : Q (.inl none) (cyR I (chE tx) v 0 d (tb tx).length) S) : Call Ω m_J0_getBytes_840e7 [.ref (Ω.2.2.2.2.1 own sk).1, .ref v, .int (nI d), .int 0] I S Q := by
  refine call_of (by decide +kernel) rfl (Nat.le_of_ble_eq_true rfl) ?_
  change AA Ω m_J0_getBytes_840e7 (FQ Ω m_J0_getBytes_840e7 Q) 0 0 0 [(0, .ref (Ω.2.2.2.2.1 own sk).1), (1, .ref v), (2, .int (nI d)), (3, .int 0)] [] I S
  refine r_aload_n (pc' := 1) dJ0_getBytes_840e7_0 rfl 0 rfl rfl ?_
  refine r_callT (pc' := 4) (k' := 0) (n' := 0) (Z := m_J0_coder_7d493) (nn := 0) (As := []) (rest := []) dJ0_getBytes_840e7_1 mb_J0_coder_7d493 mi_J0_coder_7d493 rfl ht lk_J0_335 rfl rfl rfl rfl rfl (Nat.le_of_ble_eq_true rfl) rfl (c_J0_coder_7d493 ht (cpI ?_))
  refine r_iload_n (pc' := 5) dJ0_getBytes_840e7_4 rfl 3 rfl rfl ?_
  refine r_icmp_ne (tgt := 28) (pc' := 8) dJ0_getBytes_840e7_5 rfl rfl (fun h5 => ?_) (fun h5 => ?_)
  · exact absurd rfl h5
  · refine r_aload_n (pc' := 9) dJ0_getBytes_840e7_8 rfl 0 rfl rfl ?_
    refine r_sValue (pc' := 12) dJ0_getBytes_840e7_9 ht fl_J0_9 rfl ?_
    refine r_iconst (pc' := 13) (v := 0) dJ0_getBytes_840e7_12 (by decide) rfl ?_
    refine r_aload_n (pc' := 14) dJ0_getBytes_840e7_13 rfl 1 rfl rfl ?_
    refine r_iload_n (pc' := 15) dJ0_getBytes_840e7_14 rfl 2 rfl rfl ?_
    refine r_iload_n (pc' := 16) dJ0_getBytes_840e7_15 rfl 3 rfl rfl ?_
    refine r_ishlv (pc' := 17) dJ0_getBytes_840e7_16 (sb_shl0 _) rfl ?_
    refine r_aload_n (pc' := 18) dJ0_getBytes_840e7_17 rfl 0 rfl rfl ?_
    refine r_sValue (pc' := 21) dJ0_getBytes_840e7_18 ht fl_J0_9 rfl ?_
    refine r_sLen (pc' := 22) (v := nI (tb tx).length) dJ0_getBytes_840e7_21 ht (by rw [tb_len]; rfl) rfl ?_
    refine r_copyS0 (pc' := 25) dJ0_getBytes_840e7_22 aw_J0_212 ht hA hD hb hs (by decide) (Nat.le_of_ble_eq_true rfl) rfl ?_
    refine r_goto (tgt := 43) dJ0_getBytes_840e7_25 rfl ?_
    exact r_ret dJ0_getBytes_840e7_43 rfl (by decide) (by decide) (hQ)
set_option maxHeartbeats 2000000 in
theorem c_J5_putStringAt_47b60 {Ω : JO} {I : JI} {S : JS} {Q : JQ} {b v cap d : Nat} {t : List Nat} (h : SBk S I b v cap t) {own : String} {sk : Nat} {tx : String} (ht : Cond.stringRef own sk tx ∈ lw_tbl) (hD : d + (tb tx).length ≤ cap) (hs : ∀ x, x ∈ tb tx → x < 128) (hQ : Q (.inl none) (cyR I (chE tx) v 0 d (tb tx).length) S) : Call Ω m_J5_putStringAt_47b60 [.ref b, .int (nI d), .ref (Ω.2.2.2.2.1 own sk).1] I S Q := by
  refine call_of (by decide +kernel) rfl (Nat.le_of_ble_eq_true rfl) ?_
  change AA Ω m_J5_putStringAt_47b60 (FQ Ω m_J5_putStringAt_47b60 Q) 0 0 0 [(0, .ref b), (1, .int (nI d)), (2, .ref (Ω.2.2.2.2.1 own sk).1)] [] I S
  refine r_aload_n (pc' := 1) dJ5_putStringAt_47b60_0 rfl 0 rfl rfl ?_
  refine r_aload_n (pc' := 2) dJ5_putStringAt_47b60_1 rfl 2 rfl rfl ?_
  refine r_callU (pc' := 5) (k' := 0) (n' := 0) (nn := 1) (As := [_]) (rest := []) dJ5_putStringAt_47b60_2 uc_J5_397 h.o (by decide) rfl rfl rfl rfl rfl rfl (Nat.le_of_ble_eq_true rfl) rfl (c_J5_inflateIfNeededFor_a7421 h.o h.cd ht (?_))
  refine r_aload_n (pc' := 6) dJ5_putStringAt_47b60_5 rfl 2 rfl rfl ?_
  refine r_aload_n (pc' := 7) dJ5_putStringAt_47b60_6 rfl 0 rfl rfl ?_
  refine r_getO (pc' := 10) dJ5_putStringAt_47b60_7 fa_J5_15 h.o rfl h.r rfl ?_
  refine r_iload_n (pc' := 11) dJ5_putStringAt_47b60_10 rfl 1 rfl rfl ?_
  refine r_aload_n (pc' := 12) dJ5_putStringAt_47b60_11 rfl 0 rfl rfl ?_
  refine r_getIv (pc' := 15) dJ5_putStringAt_47b60_12 fa_J5_22 h.o rfl h.cd rfl ?_
  refine r_callT (pc' := 18) (k' := 0) (n' := 0) (Z := m_J0_getBytes_840e7) (nn := 3) (As := [_, _, _]) (rest := []) dJ5_putStringAt_47b60_15 mb_J0_getBytes_840e7 mi_J0_getBytes_840e7 rfl ht lk_J5_399 rfl rfl rfl rfl rfl (Nat.le_of_ble_eq_true rfl) rfl (c_J0_getBytes_840e7 ht h.arr hD (by have := h.hc; omega) hs (cpV ?_))
  exact r_ret dJ5_putStringAt_47b60_18 rfl (by decide) (by decide) (hQ)
set_option maxHeartbeats 2000000 in
theorem c_J5_append_cf1ce {Ω : JO} {I : JI} {S : JS} {Q : JQ} {b v cap : Nat} {t : List Nat} (h : SBk S I b v cap t) {own : String} {sk : Nat} {tx : String} (ht : Cond.stringRef own sk tx ∈ lw_tbl) (hs : ∀ x, x ∈ tb tx → x < 128) (hl : t.length + (tb tx).length ≤ 1000) (hQ : ∀ I' S', SBp b v I S I' S' (t ++ tb tx) → Q (.inl (some (.ref b))) I' S') : Call Ω m_J5_append_cf1ce [.ref b, .ref (Ω.2.2.2.2.1 own sk).1] I S Q := by
  refine call_of (by decide +kernel) rfl (Nat.le_of_ble_eq_true rfl) ?_
  change AA Ω m_J5_append_cf1ce (FQ Ω m_J5_append_cf1ce Q) 0 0 0 [(0, .ref b), (1, .ref (Ω.2.2.2.2.1 own sk).1)] [] I S
  refine r_aload_n (pc' := 1) dJ5_append_cf1ce_0 rfl 1 rfl rfl ?_
  refine r_nonnull (tgt := 9) dJ5_append_cf1ce_1 rfl ?_
  refine r_aload_n (pc' := 10) dJ5_append_cf1ce_9 rfl 1 rfl rfl ?_
  refine r_callT (pc' := 13) (k' := 0) (n' := 0) (Z := m_J0_length_8abf5) (nn := 0) (As := []) (rest := []) dJ5_append_cf1ce_10 mb_J0_length_8abf5 mi_J0_length_8abf5 rfl ht lk_J5_32 rfl rfl rfl rfl rfl (Nat.le_of_ble_eq_true rfl) rfl (c_J0_length_8abf5 ht (cpI ?_))
  rw [show Int32.ofNat tx.toList.length = nI (tb tx).length from by rw [tb_len]; rfl]
  refine r_istore_n (pc' := 14) (lv' := [(2, _), (0, _), (1, _)]) dJ5_append_cf1ce_13 rfl (by decide) rfl rfl ?_
  refine r_aload_n (pc' := 15) dJ5_append_cf1ce_14 rfl 1 rfl rfl ?_
  refine r_aload_n (pc' := 16) dJ5_append_cf1ce_15 rfl 1 rfl rfl ?_
  refine r_getIv (pc' := 19) dJ5_append_cf1ce_16 fa_J5_79 h.o rfl h.n rfl ?_
  refine r_iload_n (pc' := 20) dJ5_append_cf1ce_19 rfl 0 rfl rfl ?_
  refine r_iaddv (pc' := 21) dJ5_append_cf1ce_20 (nI_add _ _) rfl ?_
  refine r_callU (pc' := 24) (k' := 1) (n' := 2000) (nn := 1) (As := [_]) (rest := []) dJ5_append_cf1ce_21 uc_J5_100 h.o (by decide) rfl rfl rfl rfl rfl rfl (Nat.le_of_ble_eq_true rfl) rfl (c_J5_ensureCapacityInternal_d00df h hl (fun v1 cap1 I1 S1 hq h1 hv hK => ?_))
  refine r_aload_n (pc' := 25) dJ5_append_cf1ce_24 rfl 1 rfl rfl ?_
  refine r_aload_n (pc' := 26) dJ5_append_cf1ce_25 rfl 1 rfl rfl ?_
  refine r_getIv (pc' := 29) dJ5_append_cf1ce_26 fa_J5_79 h1.o rfl h1.n rfl ?_
  refine r_aload_n (pc' := 30) dJ5_append_cf1ce_29 rfl 2 rfl rfl ?_
  refine r_callU (pc' := 33) (k' := 1) (n' := 2000) (nn := 2) (As := [_, _]) (rest := []) dJ5_append_cf1ce_30 uc_J5_208 h1.o (by decide) rfl rfl rfl rfl rfl rfl (Nat.le_of_ble_eq_true rfl) rfl (c_J5_putStringAt_47b60 h1 ht hq hs (?_))
  refine r_aload_n (pc' := 34) dJ5_append_cf1ce_33 rfl 1 rfl rfl ?_
  refine r_dup (pc' := 35) dJ5_append_cf1ce_34 rfl rfl ?_
  refine r_getIv (pc' := 38) dJ5_append_cf1ce_35 fa_J5_79 h1.o rfl (show cyR I1 (chE tx) v1 0 t.length (tb tx).length b 3 = nI t.length from by rw [cyR_o h1.ne]; exact h1.n) rfl ?_
  refine r_iload_n (pc' := 39) dJ5_append_cf1ce_38 rfl 0 rfl rfl ?_
  refine r_iaddv (pc' := 40) dJ5_append_cf1ce_39 (nI_add _ _) rfl ?_
  refine r_putI (pc' := 43) dJ5_append_cf1ce_40 fa_J5_79 h1.o rfl rfl ?_
  refine r_aload_n (pc' := 44) dJ5_append_cf1ce_43 rfl 1 rfl rfl ?_
  exact r_aret dJ5_append_cf1ce_44 rfl (Or.inl ⟨_, rfl⟩) (Or.inr ⟨_, rfl⟩) (by decide) (by decide) (hQ _ _ (SBp.mk h1 hv hK (by rw [List.length_append]; exact hq) hs rfl (by rw [stI_aj (by decide), cyR_o h1.ne]; exact h1.cd) (by rw [stI_at, List.length_append]) (fun j hj => by rw [stI_o h1.ne.symm, cyR_out (Or.inl hj)]) (fun j hj => by rw [stI_o h1.ne.symm, cyR_in hj, chE_tb tx hj]) (fun j hj => by rw [stI_o h1.ne.symm, cyR_out (Or.inr (by rw [List.length_append] at hj; exact hj))]) (fun c hc hcv => by rw [stI_ne hc, cyR_o hcv])))
set_option maxHeartbeats 2000000 in
theorem c_J4_append_15ec4 {Ω : JO} {I : JI} {S : JS} {Q : JQ} {b v cap : Nat} {t : List Nat} (h : SBk S I b v cap t) {own : String} {sk : Nat} {tx : String} (ht : Cond.stringRef own sk tx ∈ lw_tbl) (hs : ∀ x, x ∈ tb tx → x < 128) (hl : t.length + (tb tx).length ≤ 1000) (hQ : ∀ I' S', SBp b v I S I' S' (t ++ tb tx) → Q (.inl (some (.ref b))) I' S') : Call Ω m_J4_append_15ec4 [.ref b, .ref (Ω.2.2.2.2.1 own sk).1] I S Q := by
  refine call_of (by decide +kernel) rfl (Nat.le_of_ble_eq_true rfl) ?_
  change AA Ω m_J4_append_15ec4 (FQ Ω m_J4_append_15ec4 Q) 0 0 0 [(0, .ref b), (1, .ref (Ω.2.2.2.2.1 own sk).1)] [] I S
  refine r_aload_n (pc' := 1) dJ4_append_15ec4_0 rfl 0 rfl rfl ?_
  refine r_aload_n (pc' := 2) dJ4_append_15ec4_1 rfl 1 rfl rfl ?_
  refine r_callSU (pc' := 5) (k' := 1) (n' := 2000) (nn := 1) (As := [_]) (rest := []) dJ4_append_15ec4_2 sc_J4_29 h.o (by decide) rfl rfl rfl rfl rfl rfl (Nat.le_of_ble_eq_true rfl) rfl (c_J5_append_cf1ce h ht hs hl (fun I' S' hp => ?_))
  refine r_pop (pc' := 6) dJ4_append_15ec4_5 rfl rfl ?_
  refine r_aload_n (pc' := 7) dJ4_append_15ec4_6 rfl 0 rfl rfl ?_
  exact r_aret dJ4_append_15ec4_7 rfl (Or.inl ⟨_, rfl⟩) (Or.inr ⟨_, rfl⟩) (by decide) (by decide) (hQ _ _ hp)
set_option maxHeartbeats 2000000 in
theorem c_J4_append_cf1ce {Ω : JO} {I : JI} {S : JS} {Q : JQ} {b v cap : Nat} {t : List Nat} (h : SBk S I b v cap t) {own : String} {sk : Nat} {tx : String} (ht : Cond.stringRef own sk tx ∈ lw_tbl) (hs : ∀ x, x ∈ tb tx → x < 128) (hl : t.length + (tb tx).length ≤ 1000) (hQ : ∀ I' S', SBp b v I S I' S' (t ++ tb tx) → Q (.inl (some (.ref b))) I' S') : Call Ω m_J4_append_cf1ce [.ref b, .ref (Ω.2.2.2.2.1 own sk).1] I S Q := by
  refine call_of (by decide +kernel) rfl (Nat.le_of_ble_eq_true rfl) ?_
  change AA Ω m_J4_append_cf1ce (FQ Ω m_J4_append_cf1ce Q) 0 0 0 [(0, .ref b), (1, .ref (Ω.2.2.2.2.1 own sk).1)] [] I S
  refine r_aload_n (pc' := 1) dJ4_append_cf1ce_0 rfl 0 rfl rfl ?_
  refine r_aload_n (pc' := 2) dJ4_append_cf1ce_1 rfl 1 rfl rfl ?_
  refine r_callV (pc' := 5) (k' := 1) (n' := 2000) (nn := 1) (As := [_]) (rest := []) dJ4_append_cf1ce_2 mb_J4_append_15ec4 mi_J4_append_15ec4 h.o (by decide) rfl lk_J4_23 rfl rfl rfl rfl rfl (Nat.le_of_ble_eq_true rfl) rfl (c_J4_append_15ec4 h ht hs hl (fun I' S' hp => (cpR ?_)))
  exact r_aret dJ4_append_cf1ce_5 rfl (Or.inl ⟨_, rfl⟩) (Or.inr ⟨_, rfl⟩) (by decide) (by decide) (hQ _ _ hp)
