/-! the law's own end; the world at its entry -/
def LX (Ω : JO) (b : Nat) (args : Array Value) (s : State) : Prop := args = #[Value.ref b] ∧ Ω.2.2.2.1 = s.heap.size
def LF (Ω : JO) (b : Nat) : JF := fun below args s t => LX Ω b args s → lw_Z below args s t
theorem r_lend {Ω : JO} {b k n pc : Nat} {lv : List (Nat × Value)} {I : JI} {S : JS} (hd : decode cL_law pc = .ok (.ireturn, 1)) (hk : k ≤ 600086) (hn : n ≤ 7301442) : AA Ω m_L_law (LF Ω b) k n pc lv [.int 1] I S := by
  intro p e s m args below meth cc H locs ls C w hS hl
  by_cases q : LX Ω b args s
  · obtain ⟨q1, q4⟩ := id q
    subst q1
    refine va_forget (fun z hz => by have h9 := hS.2.2 z hz; rw [← q4]; exact h9) ?_
    refine W.widen hk hn ?_
    have h9 := lw_ret (p := p) (l := Ω.1) (e := e) (s := s) (m := m) (below := below) (meth := meth) (c := cc) (b := b) (H := H) (ls := ls) (pc := pc) C.1 C.2.1 C.2.2.2.1 C.2.2.2.2.2.2.1 hd
    intro T hT X
    obtain ⟨t, a1, b1⟩ := h9 T hT X
    exact ⟨t, a1, fun _ => b1⟩
  · exact fun T hT X => ⟨_, Steps.refl _, fun z => absurd z q⟩
theorem kn_of {args : Array Value} {s : State} {ci : Nat} {C : String} (hts : ∀ w ∈ gTbl, w.before args s = true) (h : NW ci C) : ∃ d : ClassId × (Nat → Nat), ∀ q, vwCl[ci]? = some q → u_Kn s q.1 q.2.1 q.2.2 d.1 d.2 := by
  obtain ⟨T, N, ty, f1, f2, f3, f4, f5, f6, f7, f8⟩ := h
  obtain ⟨c, iS, hK⟩ := u_known hts f4 (hts _ f7)
  exact ⟨(c, iS), fun q hq => by rw [f1] at hq; cases hq; exact hK⟩
theorem kn_all {args : Array Value} {s : State} (hts : ∀ w ∈ gTbl, w.before args s = true) (ci : Nat) : ∃ d : ClassId × (Nat → Nat), ∀ q, vwCl[ci]? = some q → u_Kn s q.1 q.2.1 q.2.2 d.1 d.2 := by
  obtain ⟨d6, h6⟩ := kn_of hts nwX6
  match ci with
  | 0 => exact kn_of hts nwX0
  | 1 => exact kn_of hts nwX1
  | 2 => exact kn_of hts nwX2
  | 3 => exact kn_of hts nwX3
  | 4 => exact kn_of hts nwX4
  | 5 => exact kn_of hts nwX5
  | 6 => exact kn_of hts nwX6
  | 7 => exact kn_of hts nwX7
  | 8 => exact kn_of hts nwX8
  | 9 => exact kn_of hts nwX9
  | 10 => exact ⟨d6, fun q hq => h6 q hq⟩
  | 11 => exact ⟨d6, fun q hq => h6 q hq⟩
  | 12 => exact ⟨d6, fun q hq => h6 q hq⟩
  | 13 => exact ⟨d6, fun q hq => h6 q hq⟩
  | 14 => exact ⟨d6, fun q hq => h6 q hq⟩
  | 15 => exact ⟨d6, fun q hq => h6 q hq⟩
  | 16 => exact kn_of hts nwJ4
  | 17 => exact kn_of hts nwJ0
  | 18 => exact kn_of hts nwJx4a65c
  | n + 19 => exact ⟨(0, fun _ => 0), fun q hq => by cases hq⟩
theorem ar_byte {args : Array Value} {s : State} (h : (Cond.arrayClass .byte).before args s = true) : ∃ c : ClassId, ArrOfT s c .byte ∧ va_RA s c .byte := by
  obtain ⟨c, k, comp, h1, h2, h3⟩ := Cond.arrayClass_spec h
  exact ⟨c, fun n z => ⟨fun k h => (by cases h), k, h2, comp, h3⟩, h1⟩
theorem ar_int {args : Array Value} {s : State} (h : (Cond.arrayClass .int).before args s = true) : ∃ c : ClassId, ArrOfT s c .int ∧ va_RA s c .int := by
  obtain ⟨c, k, comp, h1, h2, h3⟩ := Cond.arrayClass_spec h
  exact ⟨c, fun n z => ⟨fun k h => (by cases h), k, h2, comp, h3⟩, h1⟩
theorem ar_boolean {args : Array Value} {s : State} (h : (Cond.arrayClass .boolean).before args s = true) : ∃ c : ClassId, ArrOfT s c .boolean ∧ va_RA s c .boolean := by
  obtain ⟨c, k, comp, h1, h2, h3⟩ := Cond.arrayClass_spec h
  exact ⟨c, fun n z => ⟨fun k h => (by cases h), k, h2, comp, h3⟩, h1⟩
theorem ar_long {args : Array Value} {s : State} (h : (Cond.arrayClass .long).before args s = true) : ∃ c : ClassId, ArrOfT s c .long ∧ va_RA s c .long := by
  obtain ⟨c, k, comp, h1, h2, h3⟩ := Cond.arrayClass_spec h
  exact ⟨c, fun n z => ⟨fun k h => (by cases h), k, h2, comp, h3⟩, h1⟩
theorem ar_obj {args : Array Value} {s : State} {C : String} (h : (Cond.arrayOver (.object C)).before args s = true) : ∃ c : ClassId, ArrOfT s c (.object C) ∧ va_RA s c (.object C) := by
  obtain ⟨comp, c, k, h1, h2, h3, h4, h5⟩ := Cond.arrayOver_spec h
  exact ⟨c, fun n z => ⟨fun k h => (by cases h), k, h3, comp, h4⟩, k, comp, h3, h4, h1, h5⟩
theorem ar_arr {args : Array Value} {s : State} (h : (Cond.arrayOver (.array .int)).before args s = true) : ∃ c : ClassId, ArrOfT s c (.array .int) ∧ va_RA s c (.array .int) := by
  obtain ⟨comp, c, k, h1, h2, h3, h4, h5⟩ := arrayOverA_spec h
  exact ⟨c, fun n z => ⟨fun k h => (by cases h), k, h3, comp, h4⟩, h5⟩
theorem ty_byte : Cond.arrayClass .byte ∈ lw_tbl := List.mem_of_getElem? (i := 462) (by decide +kernel)
theorem ty_int : Cond.arrayClass .int ∈ lw_tbl := List.mem_of_getElem? (i := 136) (by decide +kernel)
theorem ty_bool : Cond.arrayClass .boolean ∈ lw_tbl := List.mem_of_getElem? (i := 1155) (by decide +kernel)
theorem ty_long : Cond.arrayClass .long ∈ lw_tbl := List.mem_of_getElem? (i := 1808) (by decide +kernel)
theorem aw_S : Cond.arrayOver (.object RX7) ∈ lw_tbl := List.mem_of_getElem? (i := 337) (by decide +kernel)
theorem aw_O : Cond.arrayOver (.object "java/lang/Object") ∈ lw_tbl := List.mem_of_getElem? (i := 1423) (by decide +kernel)
theorem aw_I : Cond.arrayOver (.array .int) ∈ lw_tbl := List.mem_of_getElem? (i := 1154) (by decide +kernel)
theorem in_T : Cond.initialized "java/lang/Throwable" ∈ lw_tbl := List.mem_of_getElem? (i := 80) (by decide +kernel)
theorem in_S : Cond.initialized "java/lang/String" ∈ lw_tbl := List.mem_of_getElem? (i := 68) (by decide +kernel)
theorem in_P : Cond.initialized "jdk/internal/util/Preconditions" ∈ lw_tbl := List.mem_of_getElem? (i := 74) (by decide +kernel)
theorem in_A : Cond.initialized "java/util/ArrayList" ∈ lw_tbl := List.mem_of_getElem? (i := 65) (by decide +kernel)
theorem in_I : Cond.initialized "java/lang/Integer" ∈ lw_tbl := List.mem_of_getElem? (i := 77) (by decide +kernel)
theorem in_C : Cond.initialized "java/lang/Integer$IntegerCache" ∈ lw_tbl := List.mem_of_getElem? (i := 79) (by decide +kernel)
theorem in_U : Cond.initialized "jdk/internal/misc/Unsafe" ∈ lw_tbl := List.mem_of_getElem? (i := 86) (by decide +kernel)
theorem in_Y : Cond.initialized "jdk/internal/util/ArraysSupport" ∈ lw_tbl := List.mem_of_getElem? (i := 70) (by decide +kernel)
theorem ls_U : Cond.laysStatic Bundle.tN "UNASSIGNED_STACK" Bundle.steD ∈ lw_tbl := List.mem_of_getElem? (i := 422) (by decide +kernel)
theorem ls_N : Cond.laysStatic Bundle.tN "SUPPRESSED_SENTINEL" Bundle.listD ∈ lw_tbl := List.mem_of_getElem? (i := 424) (by decide +kernel)
theorem ls_C : Cond.laysStatic "java/lang/String" "COMPACT_STRINGS" "Z" ∈ lw_tbl := List.mem_of_getElem? (i := 531) (by decide +kernel)
theorem ls_F : Cond.laysStatic "jdk/internal/util/Preconditions" "SIOOBE_FORMATTER" "Ljava/util/function/BiFunction;" ∈ lw_tbl := List.mem_of_getElem? (i := 547) (by decide +kernel)
theorem ls_E : Cond.laysStatic "java/util/ArrayList" "DEFAULTCAPACITY_EMPTY_ELEMENTDATA" "[Ljava/lang/Object;" ∈ lw_tbl := List.mem_of_getElem? (i := 1081) (by decide +kernel)
theorem ls_D1 : Cond.laysStatic "java/lang/Integer" "DigitOnes" "[B" ∈ lw_tbl := List.mem_of_getElem? (i := 1305) (by decide +kernel)
theorem ls_D2 : Cond.laysStatic "java/lang/Integer" "DigitTens" "[B" ∈ lw_tbl := List.mem_of_getElem? (i := 1307) (by decide +kernel)
theorem ls_H : Cond.laysStatic "java/lang/Integer$IntegerCache" "high" "I" ∈ lw_tbl := List.mem_of_getElem? (i := 1452) (by decide +kernel)
theorem ls_K : Cond.laysStatic "java/lang/Integer$IntegerCache" "cache" "[Ljava/lang/Integer;" ∈ lw_tbl := List.mem_of_getElem? (i := 1454) (by decide +kernel)
theorem ls_B : Cond.laysStatic "jdk/internal/misc/Unsafe" "ARRAY_LONG_BASE_OFFSET" "I" ∈ lw_tbl := List.mem_of_getElem? (i := 1710) (by decide +kernel)
theorem ls_L : Cond.laysStatic "jdk/internal/util/ArraysSupport" "LOG2_ARRAY_LONG_INDEX_SCALE" "I" ∈ lw_tbl := List.mem_of_getElem? (i := 1712) (by decide +kernel)
theorem ls_M : Cond.laysStatic "jdk/internal/util/ArraysSupport" "U" "Ljdk/internal/misc/Unsafe;" ∈ lw_tbl := List.mem_of_getElem? (i := 1717) (by decide +kernel)
theorem ls_J : Cond.laysStatic "jdk/internal/util/ArraysSupport" "LOG2_ARRAY_INT_INDEX_SCALE" "I" ∈ lw_tbl := List.mem_of_getElem? (i := 1788) (by decide +kernel)
theorem cs_d1 : Cond.declares ⟨"java/lang/CharSequence", "length", "()I"⟩ ∈ lw_tbl := List.mem_of_getElem? (i := 1554) (by decide +kernel)
theorem cs_i1 : Cond.interfaceMethod "java/lang/CharSequence" "java/lang/CharSequence" "length" "()I" ∈ lw_tbl := List.mem_of_getElem? (i := 1553) (by decide +kernel)
theorem cs_p1 : Cond.publicMethod ⟨"java/lang/String", "length", "()I"⟩ ∈ lw_tbl := List.mem_of_getElem? (i := 1558) (by decide +kernel)
theorem cs_u1 : Cond.unhidden "java/lang/String" "length" "()I" ∈ lw_tbl := List.mem_of_getElem? (i := 1557) (by decide +kernel)
theorem cs_c : Cond.castable "java/lang/String" "java/lang/CharSequence" ∈ lw_tbl := List.mem_of_getElem? (i := 1555) (by decide +kernel)
theorem cs_d2 : Cond.declares ⟨"java/lang/CharSequence", "charAt", "(I)C"⟩ ∈ lw_tbl := List.mem_of_getElem? (i := 1566) (by decide +kernel)
theorem cs_i2 : Cond.interfaceMethod "java/lang/CharSequence" "java/lang/CharSequence" "charAt" "(I)C" ∈ lw_tbl := List.mem_of_getElem? (i := 1565) (by decide +kernel)
theorem cs_p2 : Cond.publicMethod ⟨"java/lang/String", "charAt", "(I)C"⟩ ∈ lw_tbl := List.mem_of_getElem? (i := 1569) (by decide +kernel)
theorem cs_u2 : Cond.unhidden "java/lang/String" "charAt" "(I)C" ∈ lw_tbl := List.mem_of_getElem? (i := 1568) (by decide +kernel)
theorem xs_0 : Cond.selects RJ4 yJ5_isLatin1_aae02 yJ5_isLatin1_aae02 ∈ lw_tbl := List.mem_of_getElem? (i := 1228) (by decide +kernel)
theorem xp_0 : Cond.privateMethod yJ5_ensureCapacityInternal_d00df ∈ lw_tbl := List.mem_of_getElem? (i := 1198) (by decide +kernel)
theorem xi_0 : Cond.instanceMethod yJ5_ensureCapacityInternal_d00df ∈ lw_tbl := List.mem_of_getElem? (i := 1199) (by decide +kernel)
theorem xp_1 : Cond.privateMethod yJ5_newCapacity_0f7a4 ∈ lw_tbl := List.mem_of_getElem? (i := 1202) (by decide +kernel)
theorem xi_1 : Cond.instanceMethod yJ5_newCapacity_0f7a4 ∈ lw_tbl := List.mem_of_getElem? (i := 1203) (by decide +kernel)
theorem xp_2 : Cond.privateMethod yJ5_putStringAt_47b60 ∈ lw_tbl := List.mem_of_getElem? (i := 1247) (by decide +kernel)
theorem xi_2 : Cond.instanceMethod yJ5_putStringAt_47b60 ∈ lw_tbl := List.mem_of_getElem? (i := 1248) (by decide +kernel)
theorem xp_3 : Cond.privateMethod yJ5_inflateIfNeededFor_a7421 ∈ lw_tbl := List.mem_of_getElem? (i := 1251) (by decide +kernel)
theorem xi_3 : Cond.instanceMethod yJ5_inflateIfNeededFor_a7421 ∈ lw_tbl := List.mem_of_getElem? (i := 1252) (by decide +kernel)
theorem fl_U : Cond.isRef (.static Bundle.tN "UNASSIGNED_STACK" Bundle.steD) ∈ flatC (Jvm.Cond.and given_1 narrow_1) := List.mem_of_getElem? (i := 4) (by decide +kernel)
theorem fl_N : Cond.isRef (.static Bundle.tN "SUPPRESSED_SENTINEL" Bundle.listD) ∈ flatC (Jvm.Cond.and given_1 narrow_1) := List.mem_of_getElem? (i := 5) (by decide +kernel)
theorem fl_C : Cond.eq (.static "java/lang/String" "COMPACT_STRINGS" "Z") (.int 1) ∈ flatC (Jvm.Cond.and given_1 narrow_1) := List.mem_of_getElem? (i := 6) (by decide +kernel)
theorem fl_F : Cond.isRef (.static "jdk/internal/util/Preconditions" "SIOOBE_FORMATTER" "Ljava/util/function/BiFunction;") ∈ flatC (Jvm.Cond.and given_1 narrow_1) := List.mem_of_getElem? (i := 7) (by decide +kernel)
theorem fl_E1 : Cond.arrayOf (.static "java/util/ArrayList" "DEFAULTCAPACITY_EMPTY_ELEMENTDATA" "[Ljava/lang/Object;") (.object "java/lang/Object") ∈ flatC (Jvm.Cond.and given_1 narrow_1) := List.mem_of_getElem? (i := 12) (by decide +kernel)
theorem fl_E2 : Cond.eq (.length (.static "java/util/ArrayList" "DEFAULTCAPACITY_EMPTY_ELEMENTDATA" "[Ljava/lang/Object;")) (.int 0) ∈ flatC (Jvm.Cond.and given_1 narrow_1) := List.mem_of_getElem? (i := 14) (by decide +kernel)
theorem fl_D1 : Cond.arrayOf (.static "java/lang/Integer" "DigitOnes" "[B") .byte ∈ flatC (Jvm.Cond.and given_1 narrow_1) := List.mem_of_getElem? (i := 16) (by decide +kernel)
theorem fl_D2 : Cond.eq (.length (.static "java/lang/Integer" "DigitOnes" "[B")) (.int 100) ∈ flatC (Jvm.Cond.and given_1 narrow_1) := List.mem_of_getElem? (i := 17) (by decide +kernel)
theorem fl_D3 : Cond.arrayOf (.static "java/lang/Integer" "DigitTens" "[B") .byte ∈ flatC (Jvm.Cond.and given_1 narrow_1) := List.mem_of_getElem? (i := 119) (by decide +kernel)
theorem fl_D4 : Cond.eq (.length (.static "java/lang/Integer" "DigitTens" "[B")) (.int 100) ∈ flatC (Jvm.Cond.and given_1 narrow_1) := List.mem_of_getElem? (i := 120) (by decide +kernel)
theorem fl_H : Cond.eq (.static "java/lang/Integer$IntegerCache" "high" "I") (.int 127) ∈ flatC (Jvm.Cond.and given_1 narrow_1) := List.mem_of_getElem? (i := 221) (by decide +kernel)
theorem fl_K1 : Cond.arrayOf (.static "java/lang/Integer$IntegerCache" "cache" "[Ljava/lang/Integer;") (.object "java/lang/Integer") ∈ flatC (Jvm.Cond.and given_1 narrow_1) := List.mem_of_getElem? (i := 223) (by decide +kernel)
theorem fl_K2 : Cond.eq (.length (.static "java/lang/Integer$IntegerCache" "cache" "[Ljava/lang/Integer;")) (.int 256) ∈ flatC (Jvm.Cond.and given_1 narrow_1) := List.mem_of_getElem? (i := 224) (by decide +kernel)
theorem fl_K3 : Cond.all (.static "java/lang/Integer$IntegerCache" "cache" "[Ljava/lang/Integer;") ((Cond.exactly (.elem (.static "java/lang/Integer$IntegerCache" "cache" "[Ljava/lang/Integer;") (.index 0)) "java/lang/Integer").and (Cond.eq (.field (.elem (.static "java/lang/Integer$IntegerCache" "cache" "[Ljava/lang/Integer;") (.index 0)) "java/lang/Integer" "value" "I") (.sub (.index 0) (.int 128)))) ∈ flatC (Jvm.Cond.and given_1 narrow_1) := List.mem_of_getElem? (i := 225) (by decide +kernel)
theorem fl_B : Cond.eq (.static "jdk/internal/misc/Unsafe" "ARRAY_LONG_BASE_OFFSET" "I") (.int 16) ∈ flatC (Jvm.Cond.and given_1 narrow_1) := List.mem_of_getElem? (i := 226) (by decide +kernel)
theorem fl_L : Cond.eq (.static "jdk/internal/util/ArraysSupport" "LOG2_ARRAY_LONG_INDEX_SCALE" "I") (.int 3) ∈ flatC (Jvm.Cond.and given_1 narrow_1) := List.mem_of_getElem? (i := 227) (by decide +kernel)
theorem fl_M : Cond.exactly (.static "jdk/internal/util/ArraysSupport" "U" "Ljdk/internal/misc/Unsafe;") "jdk/internal/misc/Unsafe" ∈ flatC (Jvm.Cond.and given_1 narrow_1) := List.mem_of_getElem? (i := 228) (by decide +kernel)
theorem fl_J : Cond.eq (.static "jdk/internal/util/ArraysSupport" "LOG2_ARRAY_INT_INDEX_SCALE" "I") (.int 2) ∈ flatC (Jvm.Cond.and given_1 narrow_1) := List.mem_of_getElem? (i := 232) (by decide +kernel)
theorem no_tr {l : Launch} (h : l.flags = flags0) : l.stackTraces = false := by
  show (!(l.flags.contains Jvm.noTraceFlag)) = false
  rw [h]
  decide +kernel
theorem g_all {args : Array Value} {s : State} (hts : ∀ w ∈ lw_tbl, w.before args s = true) : ∀ w ∈ gTbl, w.before args s = true := by
  intro w hw
  rcases List.mem_append.mp (gTbl_good hw).1 with h | h
  · exact hts w h
  · have h0 := hts _ xs_0
    unfold xTbl at h
    simp only [List.mem_cons, List.not_mem_nil, or_false] at h
    rcases h with rfl | rfl | rfl | rfl
    · exact sel_priv (y0 := yJ5_isLatin1_aae02) (by decide +kernel) rfl h0 (hts _ xp_0) (hts _ xi_0)
    · exact sel_priv (y0 := yJ5_isLatin1_aae02) (by decide +kernel) rfl h0 (hts _ xp_1) (hts _ xi_1)
    · exact sel_priv (y0 := yJ5_isLatin1_aae02) (by decide +kernel) rfl h0 (hts _ xp_2) (hts _ xi_2)
    · exact sel_priv (y0 := yJ5_isLatin1_aae02) (by decide +kernel) rfl h0 (hts _ xp_3) (hts _ xi_3)
theorem scr_T {b L : Nat} {xs : Nat → Int32} {s : State} {A : Nat → Prop} (hX : va_X b L xs s s.heap) (hA : ¬ A b) : va_T .int b L (fun j => .int (xs j)) A s s.heap := by
  obtain ⟨scr, h1, h2, h3, h4, h5⟩ := hX
  exact ⟨scr, h1, h2, h3, by omega, by rw [h4], h5, hA⟩
set_option maxHeartbeats 4000000 in
theorem whole_start {p : Program} {e : Env} {s : State} {m : MethodId} {below : List Frame} {meth : Method} {c : Code} (l : Launch) (hflags : l.flags = flags0) {b L : Nat} {xs : Nat → Int32} (hL : L ≤ 260) (C0 : lw_At p s m meth c b L xs) (hnm : meth.name = "law") (htb : c.exceptionTable.toList = []) : W p l e room_1 s m #[Value.ref b] below meth c s.heap [] 0 0 (lw_Z below #[Value.ref b] s) (entryFrame m ([Value.ref b] : List Value).toArray 18) := by
  obtain ⟨hx, hb, hr, hml, hown, hts, hX, hbl, hlocks, hgv⟩ := id C0
  have hg : ∀ w ∈ gTbl, w.before #[Value.ref b] s = true := g_all hts
  have hf := flat_of_before _ hgv
  obtain ⟨dK, hdK⟩ := Classical.axiomOfChoice (kn_all hg)
  obtain ⟨cB, aB⟩ := ar_byte (hts _ ty_byte)
  obtain ⟨cI, aI⟩ := ar_int (hts _ ty_int)
  obtain ⟨cZ, aZ⟩ := ar_boolean (hts _ ty_bool)
  obtain ⟨cS, aS⟩ := ar_obj (hts _ aw_S)
  obtain ⟨cL, aL⟩ := ar_long (hts _ ty_long)
  obtain ⟨cO, aO⟩ := ar_obj (hts _ aw_O)
  obtain ⟨cA, aA⟩ := ar_arr (hts _ aw_I)
  let AR0 : Nat → Prop := fun q => s.heap.size ≤ q
  have hA0 : ∀ a : Nat, a < s.heap.size → ¬ AR0 a := fun a ha z => absurd z (Nat.not_le.mpr ha)
  obtain ⟨zE, eE, tE⟩ := va_Tof (N := 0) (f := fun _ => .null) (A := AR0) (by decide) (hf _ fl_E1) (va_eqt (hf _ fl_E2)) (fun j hj => absurd hj (Nat.not_lt_zero j)) hA0
  obtain ⟨z1, e1, t1⟩ := va_Tof (N := 100) (f := fun j => .int (nI (48 + j % 10))) (A := AR0) (by decide) (hf _ fl_D1) (va_eqt (hf _ fl_D2)) (fun j hj => va_eqt (hf _ (digM1 hj))) hA0
  obtain ⟨z2, e2, t2⟩ := va_Tof (N := 100) (f := fun j => .int (nI (48 + j / 10))) (A := AR0) (by decide) (hf _ fl_D3) (va_eqt (hf _ fl_D4)) (fun j hj => va_eqt (hf _ (digM2 hj))) hA0
  obtain ⟨ad, bC, eC⟩ := vb_Cof (A := AR0) (by decide) (va_eqt (hf _ fl_K2)) (hf _ fl_K3) hA0
  obtain ⟨zC, eK, tK⟩ := va_Tof (N := 256) (f := fun j => .ref (ad j)) (A := AR0) (by decide) (hf _ fl_K1) (va_eqt (hf _ fl_K2)) eC hA0
  obtain ⟨zU, cU, cellU, kU, eU, -⟩ := Cond.exactly_spec (hf _ fl_M)
  have oU0 := va_Oof (A := AR0) (hf _ fl_M) eU hA0
  let Ω : JO := (l, (fun k => (dK k).1, fun k => (dK k).2), fun k => if k = 0 then cB else if k = 1 then cI else if k = 2 then cZ else if k = 3 then cS else if k = 4 then cL else if k = 6 then cO else cA, s.heap.size, fun own k => strA #[Value.ref b] s own k, (b, L, xs), zE, zC, ad, zU, z1, z2)
  have hA : ∀ a : Nat, a < s.heap.size → ¬ AR Ω a := hA0
  have hevx : EvX Ω s s.heap := ⟨scr_T hX (hA b hbl), ⟨va_Zof (hts _ ls_E) (hts _ in_A) eE hA, tE⟩, ⟨va_Zof (hts _ ls_H) (hts _ in_C) (va_eqi (hf _ fl_H)) hA, va_Zof (hts _ ls_K) (hts _ in_C) eK hA, tK, bC⟩, ⟨va_Zof (hts _ ls_B) (hts _ in_U) (va_eqi (hf _ fl_B)) hA, va_Zof (hts _ ls_L) (hts _ in_Y) (va_eqi (hf _ fl_L)) hA, va_Zof (hts _ ls_J) (hts _ in_Y) (va_eqi (hf _ fl_J)) hA, va_Zof (hts _ ls_M) (hts _ in_Y) eU hA, oU0⟩, fun a i r n d h hw => va_Nw.of rfl (hts _ hw), va_AO.of (hts _ aw_O), hts _ aw_I, va_Fw.of (hts _ cs_d1) (hts _ cs_i1) (hts _ cs_p1) (hts _ cs_u1) (hts _ cs_c), va_Fw.of (hts _ cs_d2) (hts _ cs_i2) (hts _ cs_p2) (hts _ cs_u2) (hts _ cs_c), ⟨va_Zof (hts _ ls_D1) (hts _ in_I) e1 hA, t1⟩, va_Zof (hts _ ls_D2) (hts _ in_I) e2 hA, t2⟩
  have hev : Ev Ω s s.heap := by
    refine ⟨⟨fun k q hq => hdK k q hq, fun k q hq => ?_⟩, vx_Zqof (hts _ ls_U) (hts _ in_T) (hf _ fl_U) hA, vx_Zqof (hts _ ls_N) (hts _ in_T) (hf _ fl_N) hA, fun a i x h hw => va_Nw.of rfl (hts _ hw), ⟨fun a b hw => va_Nw.of rfl (hts _ hw), fun y hw => va_Nw.of rfl (hts _ hw)⟩, fun q hq => absurd hq (List.not_mem_nil), fun own k tx hw => strOf hts hgv hA hw, ⟨va_AO.of (hts _ aw_S), hevx⟩, Nat.le_refl _, no_tr hflags, va_Zof (hts _ ls_C) (hts _ in_S) (va_eqi (hf _ fl_C)) hA, va_Zqof (hts _ ls_F) (hts _ in_P) (hf _ fl_F) hA⟩
    match k, hq with
    | 0, hq => cases hq; exact aB
    | 1, hq => cases hq; exact aI
    | 2, hq => cases hq; exact aZ
    | 3, hq => cases hq; exact aS
    | 4, hq => cases hq; exact aL
    | 5, hq => cases hq; exact aO
    | 6, hq => cases hq; exact aA
    | n + 7, hq => cases hq
  have hw : Wd Ω (fun _ _ => 0) (jS0 s.heap.size) s.heap := ⟨fun k q h => (by cases h), ⟨fun i j p q h => (by cases h), fun k q h => (by cases h)⟩, fun z hz => (by cases hz; rfl)⟩
  have hC : Cx Ω m_L_law p s m #[Value.ref b] meth c := ⟨hx, hb, hml, hr, hown, hg, hlocks, hnm, htb, hev⟩
  rw [lg_entry_eq]
  have h9 := law_start (Ω := Ω) (F := LF Ω b) (c := s.heap.size) (I := fun _ _ => 0) (fun k n lv I S hk hn => r_lend dL_law_683 hk hn) p e s m #[Value.ref b] below meth c s.heap [] _ hC hw va_S.rf (lv_entry [.ref b] (Nat.le_of_ble_eq_true rfl))
  intro T hT X
  obtain ⟨t, a1, b1⟩ := h9 T hT X
  exact ⟨t, a1, b1 ⟨rfl, rfl⟩⟩
