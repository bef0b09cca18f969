/-! the world at the law's entry -/
theorem kn_of {args : Array Value} {s : State} {ci : Nat} {C : String} (hts : ∀ w ∈ gTbl, w.before args s = true) (h : NW ci C) : ∃ d : ClassId × (Nat → Nat), ∀ q, vwCl[ci]? = some q → u_Kn s q.1 q.2.1 q.2.2 d.1 d.2 := by
  obtain ⟨T, N, ty, f1, f2, f3, f4, f5, f6, f7, f8⟩ := h
  obtain ⟨c, iS, hK⟩ := u_known hts f4 (hts _ f7)
  exact ⟨(c, iS), fun q hq => by rw [f1] at hq; cases hq; exact hK⟩
theorem kn_all {args : Array Value} {s : State} (hts : ∀ w ∈ gTbl, w.before args s = true) (ci : Nat) : ∃ d : ClassId × (Nat → Nat), ∀ q, vwCl[ci]? = some q → u_Kn s q.1 q.2.1 q.2.2 d.1 d.2 := by
  match ci with
  | 0 => exact kn_of hts nwX0
  | 1 => exact kn_of hts nwX1
  | 2 => exact kn_of hts nwX2
  | 3 => exact kn_of hts nwX3
  | 4 => exact kn_of hts nwX4
  | 5 => exact kn_of hts nwX5
  | 6 => exact kn_of hts nwX6
  | 7 => exact kn_of hts nwX7
  | 8 => exact kn_of hts nwX8
  | 9 => exact kn_of hts nwX9
  | n + 10 => exact ⟨(0, fun _ => 0), fun q hq => by cases hq⟩
theorem ar_byte {args : Array Value} {s : State} (h : (Cond.arrayClass .byte).before args s = true) : ∃ c : ClassId, ArrOfT s c .byte ∧ va_RA s c .byte := by
  obtain ⟨c, k, comp, h1, h2, h3⟩ := Cond.arrayClass_spec h
  exact ⟨c, fun n z => ⟨fun k h => (by cases h), k, h2, comp, h3⟩, h1⟩
theorem ar_int {args : Array Value} {s : State} (h : (Cond.arrayClass .int).before args s = true) : ∃ c : ClassId, ArrOfT s c .int ∧ va_RA s c .int := by
  obtain ⟨c, k, comp, h1, h2, h3⟩ := Cond.arrayClass_spec h
  exact ⟨c, fun n z => ⟨fun k h => (by cases h), k, h2, comp, h3⟩, h1⟩
theorem ar_boolean {args : Array Value} {s : State} (h : (Cond.arrayClass .boolean).before args s = true) : ∃ c : ClassId, ArrOfT s c .boolean ∧ va_RA s c .boolean := by
  obtain ⟨c, k, comp, h1, h2, h3⟩ := Cond.arrayClass_spec h
  exact ⟨c, fun n z => ⟨fun k h => (by cases h), k, h2, comp, h3⟩, h1⟩
theorem ar_long {args : Array Value} {s : State} (h : (Cond.arrayClass .long).before args s = true) : ∃ c : ClassId, ArrOfT s c .long ∧ va_RA s c .long := by
  obtain ⟨c, k, comp, h1, h2, h3⟩ := Cond.arrayClass_spec h
  exact ⟨c, fun n z => ⟨fun k h => (by cases h), k, h2, comp, h3⟩, h1⟩
theorem ar_double {args : Array Value} {s : State} (h : (Cond.arrayClass .double).before args s = true) : ∃ c : ClassId, ArrOfT s c .double ∧ va_RA s c .double := by
  obtain ⟨c, k, comp, h1, h2, h3⟩ := Cond.arrayClass_spec h
  exact ⟨c, fun n z => ⟨fun k h => (by cases h), k, h2, comp, h3⟩, h1⟩
theorem ar_obj {args : Array Value} {s : State} {C : String} (h : (Cond.arrayOver (.object C)).before args s = true) : ∃ c : ClassId, ArrOfT s c (.object C) ∧ va_RA s c (.object C) := by
  obtain ⟨comp, c, k, h1, h2, h3, h4, h5⟩ := Cond.arrayOver_spec h
  exact ⟨c, fun n z => ⟨fun k h => (by cases h), k, h3, comp, h4⟩, k, comp, h3, h4, h1, h5⟩
theorem aw_S : Cond.arrayOver (.object RX7) ∈ lw_tbl := List.mem_of_getElem? (i := 436) (by decide +kernel)
theorem in_T : Cond.initialized "java/lang/Throwable" ∈ lw_tbl := List.mem_of_getElem? (i := 163) (by decide +kernel)
theorem in_S : Cond.initialized "java/lang/String" ∈ lw_tbl := List.mem_of_getElem? (i := 169) (by decide +kernel)
theorem in_P : Cond.initialized "jdk/internal/util/Preconditions" ∈ lw_tbl := List.mem_of_getElem? (i := 171) (by decide +kernel)
theorem ls_U : Cond.laysStatic Bundle.tN "UNASSIGNED_STACK" Bundle.steD ∈ lw_tbl := List.mem_of_getElem? (i := 553) (by decide +kernel)
theorem ls_N : Cond.laysStatic Bundle.tN "SUPPRESSED_SENTINEL" Bundle.listD ∈ lw_tbl := List.mem_of_getElem? (i := 555) (by decide +kernel)
theorem ls_C : Cond.laysStatic "java/lang/String" "COMPACT_STRINGS" "Z" ∈ lw_tbl := List.mem_of_getElem? (i := 662) (by decide +kernel)
theorem ls_F : Cond.laysStatic "jdk/internal/util/Preconditions" "SIOOBE_FORMATTER" "Ljava/util/function/BiFunction;" ∈ lw_tbl := List.mem_of_getElem? (i := 678) (by decide +kernel)
theorem fl_U : Cond.isRef (.static Bundle.tN "UNASSIGNED_STACK" Bundle.steD) ∈ flatC (Jvm.Cond.and given_1 narrow_1) := List.mem_of_getElem? (i := 4) (by decide +kernel)
theorem fl_N : Cond.isRef (.static Bundle.tN "SUPPRESSED_SENTINEL" Bundle.listD) ∈ flatC (Jvm.Cond.and given_1 narrow_1) := List.mem_of_getElem? (i := 5) (by decide +kernel)
theorem fl_C : Cond.eq (.static "java/lang/String" "COMPACT_STRINGS" "Z") (.int 1) ∈ flatC (Jvm.Cond.and given_1 narrow_1) := List.mem_of_getElem? (i := 6) (by decide +kernel)
theorem fl_F : Cond.isRef (.static "jdk/internal/util/Preconditions" "SIOOBE_FORMATTER" "Ljava/util/function/BiFunction;") ∈ flatC (Jvm.Cond.and given_1 narrow_1) := List.mem_of_getElem? (i := 7) (by decide +kernel)
theorem fl_nc : ∀ q ∈ ncE, Cond.not (.castable q.1 q.2) ∈ flatC (Jvm.Cond.and given_1 narrow_1) := by decide +kernel
theorem no_tr {l : Launch} (h : l.flags = flags0) : l.stackTraces = false := by
  show (!(l.flags.contains Jvm.noTraceFlag)) = false
  rw [h]
  decide +kernel
set_option maxHeartbeats 4000000 in
theorem whole_start {p : Program} {e : Env} {s : State} {m : MethodId} {below : List Frame} {meth : Method} {c : Code} (l : Launch) (hflags : l.flags = flags0) {b L : Nat} {xs : Nat → Int32} (hL : L ≤ 3072) (C0 : lw_At p s m meth c b L xs) (hnm : meth.name = "law") (htb : c.exceptionTable.toList = []) : W p l e room_1 s m #[Value.ref b] below meth c s.heap [] 0 0 (lw_Z below #[Value.ref b] s) (entryFrame m ([Value.ref b] : List Value).toArray 9) := by
  obtain ⟨hx, hb, hr, hml, hown, hts, hX, hbl, hlocks, hgv⟩ := id C0
  have hg : ∀ w ∈ gTbl, w.before #[Value.ref b] s = true := fun w hw => hts w (gTbl_good hw).1
  have hf := flat_of_before _ hgv
  obtain ⟨dK, hdK⟩ := Classical.axiomOfChoice (kn_all hg)
  obtain ⟨cB, aB⟩ := ar_byte (hg _ yw_byte)
  obtain ⟨cI, aI⟩ := ar_int (hg _ yw_int)
  obtain ⟨cZ, aZ⟩ := ar_boolean (hg _ yw_boolean)
  obtain ⟨cS, aS⟩ := ar_obj (hts _ aw_S)
  obtain ⟨cL, aL⟩ := ar_long (hg _ yw_long)
  obtain ⟨cD, aD⟩ := ar_double (hg _ yw_double)
  let Ω : JO := (l, (fun k => (dK k).1, fun k => (dK k).2), fun k => if k = 0 then cB else if k = 1 then cI else if k = 2 then cZ else if k = 3 then cS else if k = 4 then cL else cD, s.heap.size, fun own k => strA #[Value.ref b] s own k)
  have hA : ∀ a : Nat, a < s.heap.size → ¬ AR Ω a := fun a ha z => absurd z (Nat.not_le.mpr ha)
  have hev : Ev Ω s s.heap := by
    refine ⟨⟨fun k q hq => hdK k q hq, fun k q hq => ?_⟩, vx_Zqof (hts _ ls_U) (hts _ in_T) (hf _ fl_U) hA, vx_Zqof (hts _ ls_N) (hts _ in_T) (hf _ fl_N) hA, fun a i x h hw => va_Nw.of rfl (hts _ hw), ⟨fun a b hw => va_Nw.of rfl (hts _ hw), fun y hw => va_Nw.of rfl (hts _ hw)⟩, fun q hq => va_Nc.of (hf _ (fl_nc q hq)), fun own k tx hw => strOf hts hgv hA hw, va_AO.of (hts _ aw_S), Nat.le_refl _, no_tr hflags, va_Zof (hts _ ls_C) (hts _ in_S) (va_eqi (hf _ fl_C)) hA, va_Zqof (hts _ ls_F) (hts _ in_P) (hf _ fl_F) hA⟩
    match k, hq with
    | 0, hq => cases hq; exact aB
    | 1, hq => cases hq; exact aI
    | 2, hq => cases hq; exact aZ
    | 3, hq => cases hq; exact aS
    | 4, hq => cases hq; exact aL
    | 5, hq => cases hq; exact aD
    | n + 6, hq => cases hq
  have hw : Wd Ω (fun _ _ => 0) (jS0 s.heap.size) s.heap := ⟨fun k q h => (by cases h), ⟨fun i j p q h => (by cases h), fun k q h => (by cases h)⟩, fun z hz => (by cases hz; rfl)⟩
  have hC : Cx Ω m_L_law p s m #[Value.ref b] meth c := ⟨hx, hb, hml, hr, hown, hg, hlocks, hnm, htb, hev⟩
  rw [lg_entry_eq]
  have h9 := law_start (Ω := Ω) (b := b) (N := L) (c := s.heap.size) (xs := xs) (I := fun _ _ => 0) hL p e s m #[Value.ref b] below meth c s.heap [] _ hC hw va_S.rf (lv_entry [.ref b] (Nat.le_of_ble_eq_true rfl))
  intro T hT X
  obtain ⟨t, a1, b1⟩ := h9 T hT X
  exact ⟨t, a1, b1 ⟨rfl, hX, hbl, rfl⟩⟩
