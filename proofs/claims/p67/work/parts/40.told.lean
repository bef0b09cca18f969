/-! calls by an interface; bytes in words -/
section CF
variable {Ω : JO} {Y Z : JM} {F : JF} {k n k' n' pc pc' : Nat} {lv lv' : List (Nat × Value)} {st : List Value} {I : JI} {S : JS}
theorem r_callF {idx count nn b : Nat} {As rest : List Value} {x : MethodName} (hd : decode Y.2.1 pc = .ok (.invokeinterface idx count, 5)) (hc : Cond.code Z.1 Z.2.1 Z.2.2.1 Z.2.2.2.1 ∈ gTbl) (hlk : Cond.methodLink Y.1.cls idx x ∈ gTbl) (hsel : Cond.selects "java/lang/String" x Z.1 ∈ gTbl) (hin : Cond.instanceMethod Z.1 ∈ gTbl) (hini : Cond.initialized Z.1.cls ∈ gTbl) (hF : ∀ U H, EvX Ω U H → va_Fw "java/lang/String" x Z.1 U) (hx : x.cls ≠ "java/lang/invoke/MethodHandle" ∧ x.cls ≠ "java/lang/invoke/VarHandle" ∧ (parseMethodDescriptor x.desc).map (fun d => d.parameters.length) = some nn) (hinst : Cond.instantiable "java/lang/String" 4 ∈ gTbl) (ho : b ∈ sL S ∧ sK S b = 17) (hAs : As.length = nn) (hst : st = As.reverse ++ .ref b :: rest) (hro : roomB Y Z k n = true) (hk : k + Z.2.2.2.2.2.cells = k') (hn : n + Z.2.2.2.2.2.slots = n') (hrs : (rest.map fun v => v.category).sum ≤ 8) (hp : pc + 5 = pc') (h : Call Ω Z (.ref b :: As) I S (jn fun r I' S' => AA Ω Y F k' n' pc' lv (r.toList ++ rest) I' S')) : AA Ω Y F k n pc lv st I S := by
  subst hst
  intro p e s m args below meth c H locs ls C w hS hl
  obtain ⟨r1, r2, r3, r4⟩ := roomB_of hro
  have hts := C.2.2.2.2.2.1
  obtain ⟨cC, kC, hfc, hkC, hkind, -⟩ := Cond.instantiable_spec (hts _ hinst)
  have hin2 : ∀ w ∈ va_wsF Y.1.cls idx "java/lang/String" x Z.1 (Cond.code Z.1 Z.2.1 Z.2.2.1 Z.2.2.2.1 :: gTbl), w ∈ gTbl := fun w hw => by
    unfold va_wsF at hw
    simp only [List.cons_append, List.nil_append, List.mem_cons] at hw
    rcases hw with rfl | rfl | rfl | rfl | rfl | hw
    · exact hlk
    · exact hsel
    · exact hin
    · exact hini
    · exact hc
    · exact hw
  have cw := va_cwF (own := Y.1.cls) (C := "java/lang/String") (index := idx) (maxL := Z.2.2.1) (mc := Z.2.2.2.2.2.cells) (ms := Z.2.2.2.2.2.slots) (x := x) (y := Z.1) (bytes := Z.2.1) (ret := Z.2.2.2.1) (Ts := gTbl) (ws := Cond.code Z.1 Z.2.1 Z.2.2.1 Z.2.2.2.1 :: gTbl) (ws' := gTbl) (rm := Z.2.2.2.2.2) (R := Y.2.2.2.2.2) (s := s) (args := args) nn hts (goodIn_g hin2) rfl rfl rfl (hF _ _ (evx C)) hx ⟨r1, r2⟩
  exact aa_run5 C hS hl hp hk hn (va_runF ⟨hfc, kC, hkC, hkind⟩ ⟨C.1, C.2.1, C.2.2.1, C.2.2.2.2.1, C.2.2.2.2.2.1⟩ (met_n h) cw (preV_g C w hS ho (by decide) (by rfl)) rfl hAs hl.1 rfl (lv_room hrs) hd ⟨r3, r4⟩) (fun _ _ _ h => h)
end CF
theorem bt_sar {x : Int32} {s k : Nat} (hs : s < 32) (h : s + k < 32) : bt (x >>> (nI s &&& 31)) k = bt x (s + k) := by
  have h1 : ∀ k : Fin 32, (nI k &&& 31) = nI k ∧ (nI k).toBitVec.smod 32 = BitVec.ofNat 32 k.val ∧ (BitVec.ofNat 32 k.val).toNat = k.val := by decide +kernel
  have h2 := h1 ⟨s, hs⟩
  unfold bt
  rw [h2.1, Int32.toBitVec_shiftRight, show (nI s).toBitVec.smod 32 = BitVec.ofNat 32 s from h2.2.1, BitVec.sshiftRight', show (BitVec.ofNat 32 s).toNat = s from h2.2.2, BitVec.getLsbD_sshiftRight, if_pos h]
  simp only [show ¬ 32 ≤ k by omega, decide_false, Bool.not_false, Bool.true_and]
theorem bt_shl8 {x : Int32} {k : Nat} (hk : k < 32) : bt (x <<< ((8 : Int32) &&& 31)) k = (decide (8 ≤ k) && bt x (k - 8)) := by
  have h2 : ((8 : Int32) &&& 31) = 8 ∧ (8 : Int32).toBitVec.smod 32 = BitVec.ofNat 32 8 ∧ (BitVec.ofNat 32 8).toNat = 8 := by decide +kernel
  unfold bt
  rw [h2.1, Int32.toBitVec_shiftLeft, h2.2.1, BitVec.shiftLeft_eq', h2.2.2, BitVec.getLsbD_shiftLeft]
  by_cases h : k < 8
  · simp [h, show ¬ 8 ≤ k by omega]
  · simp [h, hk, show 8 ≤ k by omega]
/-- the i-th byte of a word, the lowest first -/
def byx (m : Int32) (i : Nat) : Int32 := (m >>> (nI (8 * i) &&& 31)) &&& 255
theorem bt_255 {k : Nat} (h : k < 32) : bt 255 k = decide (k < 8) := by
  rw [show (255 : Int32) = nI (2 ^ 8 - 1) from rfl, bt_nI h, Nat.testBit_two_pow_sub_one]
theorem byx_bt {m : Int32} {i k : Nat} (hi : i < 4) (hk : k < 32) : bt (byx m i) k = (decide (k < 8) && bt m (8 * i + k)) := by
  unfold byx
  rw [bt_and, bt_255 hk]
  by_cases h : k < 8
  · rw [bt_sar (by omega) (by omega), decide_eq_true h, Bool.and_true, Bool.true_and]
  · rw [decide_eq_false h, Bool.and_false, Bool.false_and]
theorem nI_hi {c k : Nat} (hc : c < 128) (h8 : 8 ≤ k) (hk : k < 32) : bt (nI c) k = false := by
  rw [bt_nI hk]; exact Nat.testBit_lt_two_pow (Nat.lt_of_lt_of_le (by omega : c < 2 ^ 7) (Nat.pow_le_pow_right (by decide) (by omega)))
theorem byx_put0 {m : Int32} {c : Nat} (hc : c < 128) : byx ((m <<< ((8 : Int32) &&& 31)) ||| nI c) 0 = nI c := by
  refine bt_ext fun k hk => ?_
  rw [byx_bt (by decide) hk, Nat.mul_zero, Nat.zero_add, bt_or, bt_shl8 hk]
  by_cases h : k < 8
  · simp [h, show ¬ 8 ≤ k by omega]
  · rw [nI_hi hc (by omega) hk]; simp [h]
theorem byx_putS {m : Int32} {c i : Nat} (hc : c < 128) (hi : i < 3) : byx ((m <<< ((8 : Int32) &&& 31)) ||| nI c) (i + 1) = byx m i := by
  refine bt_ext fun k hk => ?_
  rw [byx_bt (by omega) hk, byx_bt (by omega) hk]
  by_cases h : k < 8
  · rw [bt_or, bt_shl8 (by omega), nI_hi hc (by omega) (by omega), Bool.or_false, decide_eq_true (show 8 ≤ 8 * (i + 1) + k by omega), Bool.true_and, show 8 * (i + 1) + k - 8 = 8 * i + k by omega]
  · simp [h]
/-- four bytes more in the input -/
theorem af_step {a f : Nat} {q w : Int32} {I : JI} {n : Nat} (hw : ¬ w < 0) (h1 : I a 1 = nI n) (hn : n < 500) : s_X2_addFourBytes_L3 a q (f + 1) w I = s_X2_addFourBytes_L3 a q f (w + (-8)) (stI (stI I (a + 1) n ((q >>> (w &&& 31)) &&& 255)) a 1 (nI (n + 1))) := by
  rw [s_X2_addFourBytes_L3, if_neg hw]
  simp only [lx_s]
  rw [h1, ptI_nI hn (by omega), stI_o (show a ≠ a + 1 by omega), h1, show nI n + 1 = nI (n + 1) from (nI_succ n).symm]
theorem af_ok {a : Nat} {q : Int32} {I : JI} {n : Nat} (h1 : I a 1 = nI n) (hn : n + 4 ≤ 500) : ∃ J, s_X2_addFourBytes I a q = some J ∧ J a 1 = nI (n + 4) ∧ (∀ j, j < n → J (a + 1) j = I (a + 1) j) ∧ (∀ i, i < 4 → J (a + 1) (n + i) = byx q (3 - i)) ∧ ∀ z, z ≠ a → z ≠ a + 1 → J z = I z := by
  have e1 : stI (stI I (a + 1) n ((q >>> ((24 : Int32) &&& 31)) &&& 255)) a 1 (nI (n + 1)) a 1 = nI (n + 1) := stI_at
  unfold s_X2_addFourBytes
  rw [show lf = 19995 + 1 + 1 + 1 + 1 + 1 from rfl, af_step (by decide) h1 (by omega), af_step (by decide) stI_at (by omega), af_step (by decide) stI_at (by omega), af_step (by decide) stI_at (by omega), s_X2_addFourBytes_L3, if_pos (by decide)]
  refine ⟨_, rfl, stI_at, fun j hj => ?_, fun i hi => ?_, fun z hz hz1 => ?_⟩
  · simp only [stI_o (show a + 1 ≠ a by omega)]
    rw [stI_aj (by omega), stI_o (show a + 1 ≠ a by omega), stI_aj (by omega), stI_o (show a + 1 ≠ a by omega), stI_aj (by omega), stI_o (show a + 1 ≠ a by omega), stI_aj (by omega)]
  · rcases (show i = 0 ∨ i = 1 ∨ i = 2 ∨ i = 3 by omega) with rfl | rfl | rfl | rfl
    · rw [stI_o (show a + 1 ≠ a by omega), stI_aj (by omega), stI_o (show a + 1 ≠ a by omega), stI_aj (by omega), stI_o (show a + 1 ≠ a by omega), stI_aj (by omega), stI_o (show a + 1 ≠ a by omega)]
      exact stI_at
    · rw [stI_o (show a + 1 ≠ a by omega), stI_aj (by omega), stI_o (show a + 1 ≠ a by omega), stI_aj (by omega), stI_o (show a + 1 ≠ a by omega)]
      exact stI_at
    · rw [stI_o (show a + 1 ≠ a by omega), stI_aj (by omega), stI_o (show a + 1 ≠ a by omega)]
      exact stI_at
    · rw [stI_o (show a + 1 ≠ a by omega)]
      exact stI_at
  · rw [stI_ne hz, stI_ne hz1, stI_ne hz, stI_ne hz1, stI_ne hz, stI_ne hz1, stI_ne hz, stI_ne hz1]
theorem ap_ok {I : JI} {c L P n : Nat} {x1 x2 x3 x4 x5 : Int32} (h1 : I (c + 2) 1 = nI n) (hn : n + 20 ≤ 500) : ∃ J r, s_X8_append I c L P x1 x2 x3 x4 x5 = some (r, J) ∧ J (c + 2) 1 = nI (n + 20) ∧ (∀ j, j < n → J (c + 3) j = I (c + 3) j) ∧ (∀ i, i < 4 → J (c + 3) (n + i) = byx x1 (3 - i) ∧ J (c + 3) (n + 4 + i) = byx x2 (3 - i) ∧ J (c + 3) (n + 8 + i) = byx x3 (3 - i) ∧ J (c + 3) (n + 12 + i) = byx x4 (3 - i) ∧ J (c + 3) (n + 16 + i) = byx x5 (3 - i)) ∧ ∀ z, z ≠ c + 2 → z ≠ c + 3 → J z = I z := by
  obtain ⟨J1, e1, a1, b1, c1, d1⟩ := af_ok (q := x1) h1 (by omega)
  obtain ⟨J2, e2, a2, b2, c2, d2⟩ := af_ok (q := x2) a1 (by omega)
  obtain ⟨J3, e3, a3, b3, c3, d3⟩ := af_ok (q := x3) a2 (by omega)
  obtain ⟨J4, e4, a4, b4, c4, d4⟩ := af_ok (q := x4) a3 (by omega)
  obtain ⟨J5, e5, a5, b5, c5, d5⟩ := af_ok (q := x5) a4 (by omega)
  refine ⟨J5, J5 (c + 2) 1, ?_, a5, fun j hj => ?_, fun i hi => ⟨?_, ?_, ?_, ?_, ?_⟩, fun z z1 z2 => ?_⟩
  · unfold s_X8_append
    show (if I (c + 2) 1 ≤ 480 then _ else _) = _
    rw [if_pos (by rw [h1]; exact show nI n ≤ nI 480 from nI_le (by omega) (by decide))]
    rw [show c + 1 + 1 = c + 2 from rfl, e1, bd_some, e2, bd_some, e3, bd_some, e4, bd_some, e5, bd_some]
  · show J5 (c + 2 + 1) j = I (c + 2 + 1) j
    rw [b5 j (by omega), b4 j (by omega), b3 j (by omega), b2 j (by omega), b1 j hj]
  · show J5 (c + 2 + 1) (n + i) = _
    rw [b5 _ (by omega), b4 _ (by omega), b3 _ (by omega), b2 _ (by omega), c1 i hi]
  · show J5 (c + 2 + 1) (n + 4 + i) = _
    rw [b5 _ (by omega), b4 _ (by omega), b3 _ (by omega), c2 i hi]
  · show J5 (c + 2 + 1) (n + 8 + i) = _
    rw [b5 _ (by omega), b4 _ (by omega)]; exact c3 i hi
  · show J5 (c + 2 + 1) (n + 12 + i) = _
    rw [b5 _ (by omega)]; exact c4 i hi
  · exact c5 i hi
  · rw [d5 z z1 z2, d4 z z1 z2, d3 z z1 z2, d2 z z1 z2, d1 z z1 z2]
/-- n bytes of tx are said: the full twenties lie in the input, the rest in the words of M -/
def PU (I : JI) (M c : Nat) (tx : Nat → Nat) (n : Nat) : Prop := n ≤ 500 ∧ I (c + 2) 1 = nI (20 * (n / 20)) ∧ (∀ j, j < 20 * (n / 20) → I (c + 3) j = nI (tx j)) ∧ I M 5 = nI (n % 20) ∧ I M 6 = nI n ∧ ∀ i, i < n % 20 → byx (I M (i / 4)) (min 4 (n % 20 - 4 * (i / 4)) - 1 - i % 4) = nI (tx (20 * (n / 20) + i))
/-- what telling writes -/
def PUf (I I' : JI) (M c : Nat) : Prop := ∀ z, z ≠ c + 2 → z ≠ c + 3 → z ≠ M → I' z = I z
theorem PU.k {I : JI} {M c n : Nat} {tx : Nat → Nat} (h : PU I M c tx n) (hM : M ≠ c + 2 ∧ M ≠ c + 3) (hx : tx n < 128) (hk : n % 20 < 19) (hn : n + 1 ≤ 500) : PU (stI (stI (stI I M (n % 20 / 4) ((I M (n % 20 / 4) <<< ((8 : Int32) &&& 31)) ||| nI (tx n))) M 5 (nI (n % 20 + 1))) M 6 (nI (n + 1))) M c tx (n + 1) := by
  obtain ⟨h1, h2, h3, h4, h5, h6⟩ := h
  have e1 : (n + 1) / 20 = n / 20 := by omega
  have e2 : (n + 1) % 20 = n % 20 + 1 := by omega
  refine ⟨by omega, by rw [e1, stI_o hM.1.symm, stI_o hM.1.symm, stI_o hM.1.symm]; exact h2, fun j hj => by rw [e1] at hj; rw [stI_o hM.2.symm, stI_o hM.2.symm, stI_o hM.2.symm]; exact h3 j hj, by rw [stI_aj (by decide), stI_at, e2], stI_at, fun i hi => ?_⟩
  rw [e2] at hi ⊢
  rw [e1]
  rw [stI_aj (by omega), stI_aj (by omega)]
  by_cases hq : i / 4 = n % 20 / 4
  · rw [hq, stI_at]
    by_cases hi2 : i = n % 20
    · rw [show min 4 (n % 20 + 1 - 4 * (n % 20 / 4)) - 1 - i % 4 = 0 by omega, byx_put0 hx, hi2, show 20 * (n / 20) + n % 20 = n by omega]
    · have := h6 i (by omega)
      rw [hq] at this
      rw [show min 4 (n % 20 + 1 - 4 * (n % 20 / 4)) - 1 - i % 4 = (min 4 (n % 20 - 4 * (n % 20 / 4)) - 1 - i % 4) + 1 by omega, byx_putS hx (by omega)]
      exact this
  · rw [stI_aj hq]
    have := h6 i (by omega)
    rw [show min 4 (n % 20 + 1 - 4 * (i / 4)) - 1 - i % 4 = min 4 (n % 20 - 4 * (i / 4)) - 1 - i % 4 by omega]
    exact this
theorem PU.full {I J : JI} {M c n : Nat} {tx : Nat → Nat} (h : PU I M c tx n) (hM : M ≠ c + 2 ∧ M ≠ c + 3) (hx : tx n < 128) (hk : n % 20 = 19) (hn : n + 1 ≤ 500) (w : Nat → Int32) (hw : ∀ j, w j = stI I M 4 ((I M 4 <<< ((8 : Int32) &&& 31)) ||| nI (tx n)) M j) (j1 : J (c + 2) 1 = nI (20 * (n / 20) + 20)) (j2 : ∀ j, j < 20 * (n / 20) → J (c + 3) j = I (c + 3) j) (j3 : ∀ i, i < 4 → J (c + 3) (20 * (n / 20) + i) = byx (w 0) (3 - i) ∧ J (c + 3) (20 * (n / 20) + 4 + i) = byx (w 1) (3 - i) ∧ J (c + 3) (20 * (n / 20) + 8 + i) = byx (w 2) (3 - i) ∧ J (c + 3) (20 * (n / 20) + 12 + i) = byx (w 3) (3 - i) ∧ J (c + 3) (20 * (n / 20) + 16 + i) = byx (w 4) (3 - i)) (j4 : J M 5 = 0) (j5 : J M 6 = nI (n + 1)) : PU J M c tx (n + 1) := by
  obtain ⟨h1, h2, h3, h4, h5, h6⟩ := h
  have e1 : (n + 1) / 20 = n / 20 + 1 := by omega
  have e2 : (n + 1) % 20 = 0 := by omega
  refine ⟨hn, by rw [e1, j1]; congr 1, fun j hj => ?_, by rw [e2, j4]; rfl, j5, fun i hi => by rw [e2] at hi; exact absurd hi (Nat.not_lt_zero i)⟩
  by_cases hlo : j < 20 * (n / 20)
  · rw [j2 j hlo, h3 j hlo]
  · obtain ⟨q, r, hr, hq5, rfl⟩ : ∃ q r, r < 4 ∧ q < 5 ∧ j = 20 * (n / 20) + (4 * q + r) := ⟨(j - 20 * (n / 20)) / 4, (j - 20 * (n / 20)) % 4, by omega, by omega, by omega⟩
    have g := j3 r hr
    have hb : byx (w q) (3 - r) = nI (tx (20 * (n / 20) + (4 * q + r))) := by
      rw [hw q]
      by_cases hq : q = 4
      · subst hq
        rw [stI_at]
        by_cases hr3 : r = 3
        · subst hr3; rw [byx_put0 hx]; congr 2; omega
        · have := h6 (16 + r) (by omega)
          rw [show (16 + r) / 4 = 4 by omega, show min 4 (n % 20 - 4 * 4) - 1 - (16 + r) % 4 = 2 - r by omega] at this
          rw [show 3 - r = (2 - r) + 1 by omega, byx_putS hx (by omega)]
          exact this
      · rw [stI_aj hq]
        have := h6 (4 * q + r) (by omega)
        rw [show (4 * q + r) / 4 = q by omega, show min 4 (n % 20 - 4 * q) - 1 - (4 * q + r) % 4 = 3 - r by omega] at this
        exact this
    rcases (show q = 0 ∨ q = 1 ∨ q = 2 ∨ q = 3 ∨ q = 4 by omega) with rfl | rfl | rfl | rfl | rfl
    · rw [show 20 * (n / 20) + (4 * 0 + r) = 20 * (n / 20) + r by omega]; rw [show 20 * (n / 20) + (4 * 0 + r) = 20 * (n / 20) + r by omega] at hb; exact g.1.trans hb
    · rw [show 20 * (n / 20) + (4 * 1 + r) = 20 * (n / 20) + 4 + r by omega]; rw [show 20 * (n / 20) + (4 * 1 + r) = 20 * (n / 20) + 4 + r by omega] at hb; exact g.2.1.trans hb
    · rw [show 20 * (n / 20) + (4 * 2 + r) = 20 * (n / 20) + 8 + r by omega]; rw [show 20 * (n / 20) + (4 * 2 + r) = 20 * (n / 20) + 8 + r by omega] at hb; exact g.2.2.1.trans hb
    · rw [show 20 * (n / 20) + (4 * 3 + r) = 20 * (n / 20) + 12 + r by omega]; rw [show 20 * (n / 20) + (4 * 3 + r) = 20 * (n / 20) + 12 + r by omega] at hb; exact g.2.2.2.1.trans hb
    · rw [show 20 * (n / 20) + (4 * 4 + r) = 20 * (n / 20) + 16 + r by omega]; rw [show 20 * (n / 20) + (4 * 4 + r) = 20 * (n / 20) + 16 + r by omega] at hb; exact g.2.2.2.2.trans hb
set_option maxHeartbeats 2000000 in
theorem c_L_flush {Ω : JO} {I : JI} {S : JS} {Q : JQ} {c L P M n : Nat} (hc : Is8 S c L P) (hM : ArE 11 S M 7) (h1 : I (c + 2) 1 = nI n) (hn : n + 20 ≤ 500) (hne : M ≠ c + 3) (hQ : ∀ J, J (c + 2) 1 = nI (n + 20) → (∀ j, j < n → J (c + 3) j = I (c + 3) j) → (∀ i, i < 4 → J (c + 3) (n + i) = byx (I M 0) (3 - i) ∧ J (c + 3) (n + 4 + i) = byx (I M 1) (3 - i) ∧ J (c + 3) (n + 8 + i) = byx (I M 2) (3 - i) ∧ J (c + 3) (n + 12 + i) = byx (I M 3) (3 - i) ∧ J (c + 3) (n + 16 + i) = byx (I M 4) (3 - i)) → (∀ z, z ≠ c + 2 → z ≠ c + 3 → J z = I z) → (M ≠ c + 2 ∧ M ≠ c + 3) → Q (.inl none) (stI J M 5 0) S) : Call Ω m_L_flush [.ref c, .ref M] I S Q := by
  refine call_of (by decide +kernel) rfl (Nat.le_of_ble_eq_true rfl) ?_
  change AA Ω m_L_flush (FQ Ω m_L_flush Q) 0 0 0 [(0, .ref c), (1, .ref M)] [] I S
  have hM1 : M ≠ c + 2 := kne hM.2.1 hc.c0.c0.o.2 (by decide)
  have hM3 : M ≠ c + 3 := hne
  obtain ⟨J, r, e, a1, a2, a3, a4⟩ := ap_ok (L := L) (P := P) (x1 := I M 0) (x2 := I M 1) (x3 := I M 2) (x4 := I M 3) (x5 := I M 4) h1 hn
  refine r_aload_n (pc' := 1) dL_flush_0 rfl 0 rfl rfl ?_
  refine r_aload_n (pc' := 2) dL_flush_1 rfl 1 rfl rfl ?_
  refine r_iconst (pc' := 3) (v := 0) dL_flush_2 (by decide) rfl ?_
  refine r_ialoadN (pc' := 4) dL_flush_3 hM (show 0 < 7 by decide) (by omega) rfl rfl ?_
  refine r_aload_n (pc' := 5) dL_flush_4 rfl 1 rfl rfl ?_
  refine r_iconst (pc' := 6) (v := 1) dL_flush_5 (by decide) rfl ?_
  refine r_ialoadN (pc' := 7) dL_flush_6 hM (show 1 < 7 by decide) (by omega) rfl rfl ?_
  refine r_aload_n (pc' := 8) dL_flush_7 rfl 1 rfl rfl ?_
  refine r_iconst (pc' := 9) (v := 2) dL_flush_8 (by decide) rfl ?_
  refine r_ialoadN (pc' := 10) dL_flush_9 hM (show 2 < 7 by decide) (by omega) rfl rfl ?_
  refine r_aload_n (pc' := 11) dL_flush_10 rfl 1 rfl rfl ?_
  refine r_iconst (pc' := 12) (v := 3) dL_flush_11 (by decide) rfl ?_
  refine r_ialoadN (pc' := 13) dL_flush_12 hM (show 3 < 7 by decide) (by omega) rfl rfl ?_
  refine r_aload_n (pc' := 14) dL_flush_13 rfl 1 rfl rfl ?_
  refine r_iconst (pc' := 15) (v := 4) dL_flush_14 (by decide) rfl ?_
  refine r_ialoadN (pc' := 16) dL_flush_15 hM (show 4 < 7 by decide) (by omega) rfl rfl ?_
  refine r_callV (pc' := 19) (k' := 0) (n' := 0) (nn := 5) (As := [_, _, _, _, _]) (rest := []) dL_flush_16 mb_X8_append mi_X8_append hc.o (by decide) rfl lk_L_13 rfl rfl rfl rfl rfl (Nat.le_of_ble_eq_true rfl) rfl (c_X8_append hc e (cpI ?_))
  refine r_istore_n (pc' := 20) (lv' := [(2, _), (0, _), (1, _)]) dL_flush_19 rfl (by decide) rfl rfl ?_
  refine r_aload_n (pc' := 21) dL_flush_20 rfl 2 rfl rfl ?_
  refine r_iconst (pc' := 22) (v := 5) dL_flush_21 (by decide) rfl ?_
  refine r_iconst (pc' := 23) (v := 0) dL_flush_22 (by decide) rfl ?_
  refine r_iastN (pc' := 24) (d := 5) dL_flush_23 hM rfl (by decide) (by decide) rfl ?_
  exact r_ret dL_flush_24 rfl (by decide) (by decide) (hQ J a1 a2 a3 a4 ⟨hM1, hM3⟩)
set_option maxHeartbeats 2000000 in
theorem c_L_put {Ω : JO} {I : JI} {S : JS} {Q : JQ} {c L P M n : Nat} {tx : Nat → Nat} (hc : Is8 S c L P) (hM : ArE 11 S M 7) (hne : M ≠ c + 3) (h : PU I M c tx n) (hx : tx n < 128) (hn : n + 1 ≤ 500) (hQ : ∀ J, PU J M c tx (n + 1) → PUf I J M c → Q (.inl none) J S) : Call Ω m_L_put [.ref c, .ref M, .int (nI (tx n))] I S Q := by
  refine call_of (by decide +kernel) rfl (Nat.le_of_ble_eq_true rfl) ?_
  change AA Ω m_L_put (FQ Ω m_L_put Q) 0 0 0 [(0, .ref c), (1, .ref M), (2, .int (nI (tx n)))] [] I S
  have hM1 : M ≠ c + 2 := kne hM.2.1 hc.c0.c0.o.2 (by decide)
  obtain ⟨p1, p2, p3, p4, p5, p6⟩ := id h
  have hk : n % 20 / 4 < 5 := by omega
  refine r_aload_n (pc' := 1) dL_put_0 rfl 1 rfl rfl ?_
  refine r_iconst (pc' := 2) (v := 5) dL_put_1 (by decide) rfl ?_
  refine r_ialoadN (pc' := 3) dL_put_2 hM (show 5 < 7 by decide) (by omega) p4 rfl ?_
  refine r_istore_n (pc' := 4) (lv' := [(3, _), (0, _), (1, _), (2, _)]) dL_put_3 rfl (by decide) rfl rfl ?_
  refine r_aload_n (pc' := 5) dL_put_4 rfl 2 rfl rfl ?_
  refine r_iload_n (pc' := 6) dL_put_5 rfl 0 rfl rfl ?_
  refine r_iconst (pc' := 7) (v := 4) dL_put_6 (by decide) rfl ?_
  refine r_idivv (pc' := 8) dL_put_7 (by decide) (nI_divt (b := 4) (by omega) (by decide) (by decide)) rfl ?_
  refine r_aload_n (pc' := 9) dL_put_8 rfl 2 rfl rfl ?_
  refine r_iload_n (pc' := 10) dL_put_9 rfl 0 rfl rfl ?_
  refine r_iconst (pc' := 11) (v := 4) dL_put_10 (by decide) rfl ?_
  refine r_idivv (pc' := 12) dL_put_11 (by decide) (nI_divt (b := 4) (by omega) (by decide) (by decide)) rfl ?_
  refine r_ialoadN (pc' := 13) dL_put_12 hM (show n % 20 / 4 < 7 by omega) (by omega) rfl rfl ?_
  refine r_bipush (pc' := 15) (v := 8) dL_put_13 (by decide) rfl ?_
  refine r_ishl (pc' := 16) dL_put_15 rfl ?_
  refine r_iload_n (pc' := 17) dL_put_16 rfl 3 rfl rfl ?_
  refine r_ior (pc' := 18) dL_put_17 rfl ?_
  refine r_iastN (pc' := 19) (d := n % 20 / 4) dL_put_18 hM rfl (by omega) (by decide) rfl ?_
  refine r_aload_n (pc' := 20) dL_put_19 rfl 2 rfl rfl ?_
  refine r_iconst (pc' := 21) (v := 5) dL_put_20 (by decide) rfl ?_
  refine r_dup2 (pc' := 22) dL_put_21 rfl rfl rfl ?_
  refine r_ialoadN (pc' := 23) dL_put_22 hM (show 5 < 7 by decide) (by omega) (show stI I M (n % 20 / 4) _ M 5 = nI (n % 20) from (stI_aj (by omega)).trans p4) rfl ?_
  refine r_iconst (pc' := 24) (v := 1) dL_put_23 (by decide) rfl ?_
  refine r_iaddv (pc' := 25) dL_put_24 (nI_add (n % 20) 1) rfl ?_
  refine r_iastN (pc' := 26) (d := 5) dL_put_25 hM rfl (by decide) (by decide) rfl ?_
  refine r_aload_n (pc' := 27) dL_put_26 rfl 2 rfl rfl ?_
  refine r_bipush (pc' := 29) (v := 6) dL_put_27 (by decide) rfl ?_
  refine r_dup2 (pc' := 30) dL_put_29 rfl rfl rfl ?_
  refine r_ialoadN (pc' := 31) dL_put_30 hM (show 6 < 7 by decide) (by omega) (show stI (stI I M (n % 20 / 4) _) M 5 _ M 6 = nI n from ((stI_aj (by decide)).trans (stI_aj (by omega))).trans p5) rfl ?_
  refine r_iconst (pc' := 32) (v := 1) dL_put_31 (by decide) rfl ?_
  refine r_iaddv (pc' := 33) dL_put_32 (nI_add n 1) rfl ?_
  refine r_iastN (pc' := 34) (d := 6) dL_put_33 hM rfl (by decide) (by decide) rfl ?_
  refine r_aload_n (pc' := 35) dL_put_34 rfl 2 rfl rfl ?_
  refine r_iconst (pc' := 36) (v := 5) dL_put_35 (by decide) rfl ?_
  refine r_ialoadN (pc' := 37) dL_put_36 hM (show 5 < 7 by decide) (by omega) (show stI (stI (stI I M (n % 20 / 4) _) M 5 (nI (n % 20 + 1))) M 6 _ M 5 = nI (n % 20 + 1) from (stI_aj (by decide)).trans stI_at) rfl ?_
  refine r_bipush (pc' := 39) (v := 20) dL_put_37 (by decide) rfl ?_
  refine r_icmp_ne (tgt := 47) (pc' := 42) dL_put_39 rfl rfl (fun h39 => ?_) (fun h39 => ?_)
  · exact r_ret dL_put_47 rfl (by decide) (by decide) (hQ _ (h.k ⟨hM1, hne⟩ hx (by have : ¬ n % 20 + 1 = 20 := fun e => h39 (by rw [e]; rfl); omega) hn) (fun z z1 z2 z3 => by rw [stI_ne z3, stI_ne z3, stI_ne z3]))
  · have hk19 : n % 20 = 19 := by
      have := (nI_eq (a := n % 20 + 1) (b := 20) (by omega) (by decide)).mp h39
      omega
    have wv : ∀ q, q < 5 → stI (stI (stI I M (n % 20 / 4) ((I M (n % 20 / 4) <<< ((8 : Int32) &&& 31)) ||| nI (tx n))) M 5 (nI (n % 20 + 1))) M 6 (nI (n + 1)) M q = stI I M 4 ((I M 4 <<< ((8 : Int32) &&& 31)) ||| nI (tx n)) M q := fun q hq => by rw [stI_aj (by omega), stI_aj (by omega), show n % 20 / 4 = 4 by omega]
    refine r_aload_n (pc' := 43) dL_put_42 rfl 1 rfl rfl ?_
    refine r_aload_n (pc' := 44) dL_put_43 rfl 2 rfl rfl ?_
    refine r_callS (pc' := 47) (k' := 0) (n' := 0) (nn := 2) (As := [_, _]) (rest := []) dL_put_44 mb_L_flush ms_L_flush lk_L_7 rfl rfl rfl rfl rfl (Nat.le_of_ble_eq_true rfl) rfl (c_L_flush (n := 20 * (n / 20)) hc hM (by rw [stI_o hM1.symm, stI_o hM1.symm, stI_o hM1.symm]; exact p2) (by omega) hne (fun J a1 a2 a3 a4 a5 => (cpV ?_)))
    exact r_ret dL_put_47 rfl (by decide) (by decide) (hQ _ (h.full ⟨hM1, hne⟩ hx hk19 hn (fun j => stI I M 4 ((I M 4 <<< ((8 : Int32) &&& 31)) ||| nI (tx n)) M j) (fun j => rfl) (by rw [stI_o hM1.symm]; exact a1) (fun j hj => by rw [stI_o hne.symm, a2 j hj, stI_o hne.symm, stI_o hne.symm, stI_o hne.symm]) (fun i hi => by have g := a3 i hi; rw [wv 0 (by decide), wv 1 (by decide), wv 2 (by decide), wv 3 (by decide), wv 4 (by decide)] at g; simp only [stI_o hne.symm]; exact g) stI_at (by rw [stI_aj (by decide), a4 M hM1 hne, stI_at])) (fun z z1 z2 z3 => by rw [stI_ne z3, a4 z z1 z2, stI_ne z3, stI_ne z3, stI_ne z3]))
set_option maxHeartbeats 2000000 in
theorem l_L_said {Ω : JO} {S : JS} {Q : JQ} {c L P M q : Nat} {tx : Nat → Nat} {I0 : JI} {n0 : Nat} (hc : Is8 S c L P) (hM : ArE 11 S M 7) (hne : M ≠ c + 3) (hx : ∀ j, n0 ≤ j → tx j = 32) (hq : n0 ≤ 480) (hQ : ∀ n J, n0 ≤ n → n % 20 = 0 → n ≤ 500 → PU J M c tx n → PUf I0 J M c → Q (.inl (some (.int (nI n0)))) (stI J M 6 0) S) : ∀ (m : Nat) (n : Nat) (I : JI), n0 ≤ n → (m = 0 → n % 20 = 0) → (0 < m → m = 20 - n % 20 ∧ n % 20 ≠ 0 ∧ n < 500) → PU I M c tx n → PUf I0 I M c → AA Ω m_L_said (FQ Ω m_L_said Q) 0 0 5 [(2, .int (nI n0)), (0, .ref c), (1, .ref M)] [] I S := by
  intro m
  induction m with
  | zero =>
    intro n I h0 hm hm2 h hf
    obtain ⟨p1, p2, p3, p4, p5, p6⟩ := id h
    have hn0 := hm rfl
    refine r_aload_n (pc' := 6) dL_said_5 rfl 2 rfl rfl ?_
    refine r_iconst (pc' := 7) (v := 5) dL_said_6 (by decide) rfl ?_
    refine r_ialoadN (pc' := 8) dL_said_7 hM (show 5 < 7 by decide) (by omega) p4 rfl ?_
    refine r_if_le (tgt := 21) (pc' := 11) dL_said_8 rfl rfl (fun h8 => ?_) (fun h8 => ?_)
    · refine r_aload_n (pc' := 22) dL_said_21 rfl 2 rfl rfl ?_
      refine r_bipush (pc' := 24) (v := 6) dL_said_22 (by decide) rfl ?_
      refine r_iconst (pc' := 25) (v := 0) dL_said_24 (by decide) rfl ?_
      refine r_iastN (pc' := 26) (d := 6) dL_said_25 hM rfl (by decide) (by decide) rfl ?_
      refine r_iload_n (pc' := 27) dL_said_26 rfl 0 rfl rfl ?_
      exact r_iret dL_said_27 rfl (by decide) (by decide) (hQ n _ h0 hn0 p1 h hf)
    · exact absurd (show nI (n % 20) ≤ 0 by rw [hn0]; decide) h8
  | succ m ih =>
    intro n I h0 hm hm2 h hf
    obtain ⟨p1, p2, p3, p4, p5, p6⟩ := id h
    obtain ⟨m1, m2, m3⟩ := hm2 (by omega)
    refine r_aload_n (pc' := 6) dL_said_5 rfl 2 rfl rfl ?_
    refine r_iconst (pc' := 7) (v := 5) dL_said_6 (by decide) rfl ?_
    refine r_ialoadN (pc' := 8) dL_said_7 hM (show 5 < 7 by decide) (by omega) p4 rfl ?_
    refine r_if_le (tgt := 21) (pc' := 11) dL_said_8 rfl rfl (fun h8 => ?_) (fun h8 => ?_)
    · exact absurd h8 (nI_nle (by omega) (by omega))
    · refine r_aload_n (pc' := 12) dL_said_11 rfl 1 rfl rfl ?_
      refine r_aload_n (pc' := 13) dL_said_12 rfl 2 rfl rfl ?_
      refine r_bipush (pc' := 15) (v := 32) dL_said_13 (by decide) rfl ?_
      have e32 : (32 : Int32) = nI (tx n) := by rw [hx n h0]; rfl
      rw [e32]
      refine r_callS (pc' := 18) (k' := 0) (n' := 0) (nn := 3) (As := [_, _, _]) (rest := []) dL_said_15 mb_L_put ms_L_put lk_L_21 rfl rfl rfl rfl rfl (Nat.le_of_ble_eq_true rfl) rfl (c_L_put hc hM hne h (by rw [hx n h0]; decide) (by omega) (fun I' h' hf' => (cpV ?_)))
      refine r_goto (tgt := 5) dL_said_18 rfl ?_
      exact ih (n + 1) _ (by omega) (fun e => by have := hm2 (by omega); omega) (fun e => by have := hm2 (by omega); exact ⟨by omega, by omega, by omega⟩) h' (fun z z1 z2 z3 => (hf' z z1 z2 z3).trans (hf z z1 z2 z3))
set_option maxHeartbeats 2000000 in
theorem c_L_said {Ω : JO} {I : JI} {S : JS} {Q : JQ} {c L P M n0 : Nat} {tx : Nat → Nat} (hc : Is8 S c L P) (hM : ArE 11 S M 7) (hne : M ≠ c + 3) (h : PU I M c tx n0) (hx : ∀ j, n0 ≤ j → tx j = 32) (hq : n0 ≤ 480) (hQ : ∀ n J, n0 ≤ n → n % 20 = 0 → n ≤ 500 → PU J M c tx n → PUf I J M c → Q (.inl (some (.int (nI n0)))) (stI J M 6 0) S) : Call Ω m_L_said [.ref c, .ref M] I S Q := by
  refine call_of (by decide +kernel) rfl (Nat.le_of_ble_eq_true rfl) ?_
  change AA Ω m_L_said (FQ Ω m_L_said Q) 0 0 0 [(0, .ref c), (1, .ref M)] [] I S
  obtain ⟨p1, p2, p3, p4, p5, p6⟩ := id h
  refine r_aload_n (pc' := 1) dL_said_0 rfl 1 rfl rfl ?_
  refine r_bipush (pc' := 3) (v := 6) dL_said_1 (by decide) rfl ?_
  refine r_ialoadN (pc' := 4) dL_said_3 hM (show 6 < 7 by decide) (by omega) p5 rfl ?_
  refine r_istore_n (pc' := 5) (lv' := [(2, _), (0, _), (1, _)]) dL_said_4 rfl (by decide) rfl rfl ?_
  exact l_L_said (q := 0) hc hM hne hx hq hQ (if n0 % 20 = 0 then 0 else 20 - n0 % 20) n0 I (Nat.le_refl _) (fun e => by by_cases q : n0 % 20 = 0; exact q; rw [if_neg q] at e; omega) (fun e => by by_cases q : n0 % 20 = 0; rw [if_pos q] at e; exact absurd e (by decide); rw [if_neg q]; exact ⟨rfl, q, by omega⟩) h (fun z _ _ _ => rfl)
set_option maxHeartbeats 2000000 in
theorem l_L_told {Ω : JO} {S : JS} {Q : JQ} {c L P M z : Nat} {t : List Nat} {I0 : JI} (hc : Is8 S c L P) (hM : ArE 11 S M 7) (hne : M ≠ c + 3) (ht : t.length ≤ 480) (hz : ∀ I, PUf I0 I M c → STk S I z t) (hk : ∀ I, PU I M c (fun j => t.getD j 32) t.length → PUf I0 I M c → AA Ω m_L_told (FQ Ω m_L_told Q) 0 0 30 [(0, .ref c), (1, .ref M), (2, .ref z)] [] I S) : ∀ (m : Nat) (n : Nat) (I : JI), n + m = t.length → PU I M c (fun j => t.getD j 32) n → PUf I0 I M c → AA Ω m_L_told (FQ Ω m_L_told Q) 0 0 2 [(3, .int (nI n)), (0, .ref c), (1, .ref M), (2, .ref z)] [] I S := by
  intro m
  induction m with
  | zero =>
    intro n I hn h hf
    have hs := hz I hf
    refine r_iload_n (pc' := 3) dL_told_2 rfl 0 rfl rfl ?_
    refine r_aload_n (pc' := 4) dL_told_3 rfl 3 rfl rfl ?_
    refine r_callF (pc' := 9) (k' := 0) (n' := 0) (nn := 0) (As := []) (rest := [.int _]) (x := ⟨"java/lang/CharSequence", "length", "()I"⟩) (Z := m_J0_length_8abf5) dL_told_4 (gm 525 (by decide +kernel) rfl) (gm 1552 (by decide +kernel) rfl) (gm 1556 (by decide +kernel) rfl) (gm 523 (by decide +kernel) rfl) nw_J0 (fun _ _ h => h.2.2.2.2.2.2.2.1) (by decide +kernel) iw_4_java_lang_String hs.1 rfl rfl rfl rfl rfl (Nat.le_of_ble_eq_true rfl) rfl (c_J0_length_S hs ?_)
    refine r_icmp_ge (tgt := 30) (pc' := 12) dL_told_9 rfl rfl (fun h9 => ?_) (fun h9 => ?_)
    · refine aa_locs (ks := [1, 2, 3]) (lv' := [(0, _), (1, _), (2, _)]) rfl ?_
      exact hk _ ((show n = t.length by omega) ▸ h) hf
    · exact absurd (show nI t.length ≤ nI n from nI_le (by omega) (by omega)) h9
  | succ m ih =>
    intro n I hn h hf
    have hs := hz I hf
    have hlt : n < t.length := by omega
    have eg : t.getD n 0 = t.getD n 32 := by rw [List.getD_eq_getElem?_getD, List.getD_eq_getElem?_getD, List.getElem?_eq_getElem hlt]; rfl
    refine r_iload_n (pc' := 3) dL_told_2 rfl 0 rfl rfl ?_
    refine r_aload_n (pc' := 4) dL_told_3 rfl 3 rfl rfl ?_
    refine r_callF (pc' := 9) (k' := 0) (n' := 0) (nn := 0) (As := []) (rest := [.int _]) (x := ⟨"java/lang/CharSequence", "length", "()I"⟩) (Z := m_J0_length_8abf5) dL_told_4 (gm 525 (by decide +kernel) rfl) (gm 1552 (by decide +kernel) rfl) (gm 1556 (by decide +kernel) rfl) (gm 523 (by decide +kernel) rfl) nw_J0 (fun _ _ h => h.2.2.2.2.2.2.2.1) (by decide +kernel) iw_4_java_lang_String hs.1 rfl rfl rfl rfl rfl (Nat.le_of_ble_eq_true rfl) rfl (c_J0_length_S hs ?_)
    refine r_icmp_ge (tgt := 30) (pc' := 12) dL_told_9 rfl rfl (fun h9 => ?_) (fun h9 => ?_)
    · exact absurd h9 (show ¬ nI t.length ≤ nI n from nI_ge hlt (by omega))
    · refine r_aload_n (pc' := 13) dL_told_12 rfl 1 rfl rfl ?_
      refine r_aload_n (pc' := 14) dL_told_13 rfl 2 rfl rfl ?_
      refine r_aload_n (pc' := 15) dL_told_14 rfl 3 rfl rfl ?_
      refine r_iload_n (pc' := 16) dL_told_15 rfl 0 rfl rfl ?_
      refine r_callF (pc' := 21) (k' := 0) (n' := 0) (nn := 1) (As := [_]) (rest := [.ref _, .ref _]) (x := ⟨"java/lang/CharSequence", "charAt", "(I)C"⟩) (Z := m_J0_charAt_5068e) dL_told_16 (gm 535 (by decide +kernel) rfl) (gm 1564 (by decide +kernel) rfl) (gm 1567 (by decide +kernel) rfl) (gm 533 (by decide +kernel) rfl) nw_J0 (fun _ _ h => h.2.2.2.2.2.2.2.2.1) (by decide +kernel) iw_4_java_lang_String hs.1 rfl rfl rfl rfl rfl (Nat.le_of_ble_eq_true rfl) rfl (c_J0_charAt_S hs (show n < t.length by omega) ?_)
      rw [eg]
      refine r_callS (pc' := 24) (k' := 0) (n' := 0) (nn := 3) (As := [_, _, _]) (rest := []) dL_told_21 mb_L_put ms_L_put lk_L_21 rfl rfl rfl rfl rfl (Nat.le_of_ble_eq_true rfl) rfl (c_L_put (tx := fun j => t.getD j 32) hc hM hne h (by have := hs.2; obtain ⟨w, _, _, _, _, g, _⟩ := this; exact eg ▸ g _ (getD_mem hlt)) (by omega) (fun I' h' hf' => (cpV ?_)))
      refine r_iinc (pc' := 27) (lv' := [(3, _), (0, _), (1, _), (2, _)]) dL_told_24 0 rfl rfl (by decide) rfl rfl ?_
      refine r_goto (tgt := 2) dL_told_27 rfl ?_
      exact aa_lv (lv' := [(3, .int (nI (n + 1))), (0, .ref c), (1, .ref M), (2, .ref z)]) (by rw [nI_succ]; rfl) (ih (n + 1) _ (by omega) h' (fun q z1 z2 z3 => (hf' q z1 z2 z3).trans (hf q z1 z2 z3)))
set_option maxHeartbeats 2000000 in
theorem c_L_told {Ω : JO} {I : JI} {S : JS} {Q : JQ} {c L P M z : Nat} {t : List Nat} (hc : Is8 S c L P) (hM : ArE 11 S M 7) (hne : M ≠ c + 3) (ht : t.length ≤ 480) (hz : ∀ J, PUf I J M c → STk S J z t) (h : PU I M c (fun j => t.getD j 32) 0) (hQ : ∀ n J, t.length ≤ n → n ≤ 500 → J (c + 2) 1 = nI n → (∀ j, j < n → J (c + 3) j = nI (t.getD j 32)) → PUf I J M c → Q (.inl (some (.int (nI t.length)))) J S) : Call Ω m_L_told [.ref c, .ref M, .ref z] I S Q := by
  refine call_of (by decide +kernel) rfl (Nat.le_of_ble_eq_true rfl) ?_
  change AA Ω m_L_told (FQ Ω m_L_told Q) 0 0 0 [(0, .ref c), (1, .ref M), (2, .ref z)] [] I S
  have hM1 : M ≠ c + 2 := kne hM.2.1 hc.c0.c0.o.2 (by decide)
  refine r_iconst (pc' := 1) (v := 0) dL_told_0 (by decide) rfl ?_
  refine r_istore_n (pc' := 2) (lv' := [(3, _), (0, _), (1, _), (2, _)]) dL_told_1 rfl (by decide) rfl rfl ?_
  refine l_L_told hc hM hne ht hz (fun I1 h1 hf1 => ?_) t.length 0 I (by omega) h (fun q _ _ _ => rfl)
  refine r_aload_n (pc' := 31) dL_told_30 rfl 0 rfl rfl ?_
  refine r_aload_n (pc' := 32) dL_told_31 rfl 1 rfl rfl ?_
  refine r_callS (pc' := 35) (k' := 0) (n' := 0) (nn := 2) (As := [_, _]) (rest := []) dL_told_32 mb_L_said ms_L_said lk_L_150 rfl rfl rfl rfl rfl (Nat.le_of_ble_eq_true rfl) rfl (c_L_said hc hM hne h1 (fun j hj => ?_) ht (fun n J g1 g2 g3 g4 g5 => cpI ?_))
  · show t.getD j 32 = 32
    rw [List.getD_eq_getElem?_getD, List.getElem?_eq_none hj]; rfl
  · have e20 : 20 * (n / 20) = n := by omega
    refine r_iret dL_told_35 rfl (by decide) (by decide) (hQ n _ g1 g3 ?_ ?_ (fun q z1 z2 z3 => by rw [stI_ne z3]; exact (g5 q z1 z2 z3).trans (hf1 q z1 z2 z3)))
    · rw [stI_o hM1.symm, g4.2.1, e20]
    · intro j hj
      rw [stI_o hne.symm]
      exact g4.2.2.1 j (by omega)
