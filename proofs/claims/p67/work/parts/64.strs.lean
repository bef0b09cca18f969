/-! the premise: its literals, its digits -/
def strL : List (String × Nat × String) := [("CardLoom", 67, "the buffer does not hold as many bytes"), ("CardLoom$Parser", 91, "loom"), ("CardLoom$Parser", 102, "warp"), ("CardLoom$Parser", 107, "card"), ("CardLoom$Parser", 112, "deck"), ("CardLoom$Parser", 205, "repeat"), ("CardLoom$Parser", 207, "mirror"), ("CardLoom$Parser", 209, "back"), ("CardLoom$Parser", 117, "yarn"), ("CardLoom$Parser", 122, "weave"), ("CardLoom$Parser", 127, "unweave"), ("CardLoom$Parser", 132, "swap"), ("CardLoom$Parser", 137, "punch"), ("CardLoom$Parser", 142, "dye"), ("CardLoom$Parser", 147, "oil"), ("CardLoom$Parser", 152, "invert"), ("CardLoom$Parser", 157, "strain"), ("CardLoom$Parser", 162, "motor"), ("CardLoom$Parser", 167, "mend"), ("CardLoom", 78, "the setup is invalid"), ("CardLoom", 338, "no setup has been loaded"), ("CardLoom", 340, "there is none with this index"), ("CardLoom", 342, "the argument is out of range"), ("CardLoom", 336, "no state is saved in the slot"), ("CardLoomLaw", 81, "loom "), ("CardLoomLaw", 86, ";strain "), ("CardLoomLaw", 91, ";motor "), ("CardLoomLaw", 93, ";warp "), ("CardLoomLaw", 95, ";card "), ("CardLoomLaw", 101, ";yarn "), ("CardLoomLaw", 103, ";deck "), ("CardLoomLaw", 105, " repeat "), ("CardLoomLaw", 107, " ("), ("CardLoomLaw", 109, ");deck mirror ("), ("CardLoomLaw", 111, ") back ("), ("CardLoomLaw", 113, " repeat 2 ("), ("CardLoomLaw", 115, "))"), ("CardLoomLaw", 132, ";weave "), ("CardLoomLaw", 134, ";unweave 1")]
def strV (q : String × Nat × String) : Term := .field (.string q.1 q.2.1) "java/lang/String" "value" "[B"
def strW (q : String × Nat × String) : List Cond := [.exactly (.string q.1 q.2.1) "java/lang/String", .eq (.field (.string q.1 q.2.1) "java/lang/String" "coder" "B") (.int 0), .arrayOf (strV q) .byte, .eq (.length (strV q)) (.int (Int32.ofNat q.2.2.toList.length))] ++ (List.range q.2.2.toList.length).map fun j => .eq (.elem (strV q) (.int (Int32.ofNat j))) (.int (chE q.2.2 j))
set_option maxRecDepth 100000 in
theorem strF : ((flatC (Jvm.Cond.and given_1 narrow_1)).drop 252).take 515 = strL.flatMap strW := by decide +kernel
theorem strM {q : String × Nat × String} (hq : q ∈ strL) {w : Cond} (hw : w ∈ strW q) : w ∈ flatC (Jvm.Cond.and given_1 narrow_1) := by
  have h : w ∈ strL.flatMap strW := List.mem_flatMap.mpr ⟨q, hq, hw⟩
  rw [← strF] at h
  exact List.mem_of_mem_drop (List.mem_of_mem_take h)
def isStr (w : Cond) : Bool := match w with
  | .stringRef own k tx => decide ((own, k, tx) ∈ strL)
  | _ => true
set_option maxRecDepth 100000 in
theorem strT : lw_tbl.all isStr = true := by decide +kernel
theorem strIn {own tx : String} {k : Nat} (h : Cond.stringRef own k tx ∈ lw_tbl) : (own, k, tx) ∈ strL := by
  have h1 := List.all_eq_true.mp strT _ h
  exact of_decide_eq_true h1
set_option maxRecDepth 100000 in
theorem strN : ∀ q ∈ strL, q.2.2.toList.length < 2 ^ 31 := by decide +kernel
def adr (v : Option Value) : Nat := match v with
  | some (.ref a) => a
  | _ => 0
/-- where a literal and its bytes lie -/
def strA (args : Array Value) (s : State) (own : String) (k : Nat) : Nat × Nat := (adr ((Term.string own k).eval args s none [] s), adr ((Term.field (.string own k) "java/lang/String" "value" "[B").eval args s none [] s))
theorem strOf {args : Array Value} {s : State} {A : Nat → Prop} (hts : ∀ w ∈ lw_tbl, w.before args s = true) (hg : (Jvm.Cond.and given_1 narrow_1).before args s = true) (hA : ∀ a : Nat, a < s.heap.size → ¬ A a) {own tx : String} {k : Nat} (hw : Cond.stringRef own k tx ∈ lw_tbl) :
    vk_R own k tx (strA args s own k).1 s ∧ va_O "java/lang/String" (strA args s own k).1 A s s.heap ∧ va_OF "java/lang/String" "coder" "B" (.int 0) (strA args s own k).1 A s s.heap ∧ va_OF "java/lang/String" "value" "[B" (.ref (strA args s own k).2) (strA args s own k).1 A s s.heap ∧ va_T .byte (strA args s own k).2 tx.toList.length (fun j => .int (chE tx j)) A s s.heap := by
  have hq := strIn hw
  have hf := flat_of_before _ hg
  have h1 : (Cond.exactly (.string own k) "java/lang/String").before args s = true := hf _ (strM hq (by unfold strW; simp))
  have h2 : (Cond.eq (.field (.string own k) "java/lang/String" "coder" "B") (.int 0)).before args s = true := hf _ (strM hq (by unfold strW; simp))
  have h3 : (Cond.arrayOf (.field (.string own k) "java/lang/String" "value" "[B") .byte).before args s = true := hf _ (strM hq (by unfold strW strV; simp))
  have h4 : (Cond.eq (.length (.field (.string own k) "java/lang/String" "value" "[B")) (.int (Int32.ofNat tx.toList.length))).before args s = true := hf _ (strM hq (by unfold strW strV; simp))
  have h5 : ∀ j : Nat, j < tx.toList.length → (Cond.eq (.elem (.field (.string own k) "java/lang/String" "value" "[B") (.int (Int32.ofNat j))) (.int (chE tx j))).before args s = true := fun j hj => hf _ (strM hq (by
    unfold strW strV
    refine List.mem_append_right _ (List.mem_map.mpr ⟨j, List.mem_range.mpr hj, rfl⟩)))
  have hN : tx.toList.length < 2 ^ 31 := strN _ hq
  obtain ⟨a, c, cA, kA, q1, q2, q3, q4, q5, q6, -⟩ := Cond.exactly_spec (args := args) (first := s) (o := none) (s := s) (idx := []) (t := .string own k) (cls := "java/lang/String") h1
  obtain ⟨t, ht, hT⟩ := va_Tof (f := fun j => .int (chE tx j)) (A := A) hN h3 (va_eqt h4) (fun j hj => va_eqt (h5 j hj)) hA
  have e1 : (strA args s own k).1 = a := by
    show adr ((Term.string own k).eval args s none [] s) = a
    rw [q1]
    rfl
  have e2 : (strA args s own k).2 = t := by
    show adr ((Term.field (.string own k) "java/lang/String" "value" "[B").eval args s none [] s) = t
    rw [ht]
    rfl
  rw [e1, e2]
  exact ⟨vk_R.of (hts _ hw) q1, va_Oof h1 q1 hA, vk_OFof q1 (va_eqt h2) hA, vk_OFof q1 ht hA, hT⟩
def digW (nm : String) (f : Nat → Nat) : List Cond := (List.range 100).map fun j => .eq (.elem (.static "java/lang/Integer" nm "[B") (.int (Int32.ofNat j))) (.int (nI (f j)))
set_option maxRecDepth 100000 in
theorem digF1 : ((flatC (Jvm.Cond.and given_1 narrow_1)).drop 18).take 100 = digW "DigitOnes" (fun j => 48 + j % 10) := by decide +kernel
set_option maxRecDepth 100000 in
theorem digF2 : ((flatC (Jvm.Cond.and given_1 narrow_1)).drop 121).take 100 = digW "DigitTens" (fun j => 48 + j / 10) := by decide +kernel
theorem digM1 {j : Nat} (h : j < 100) : Cond.eq (.elem (.static "java/lang/Integer" "DigitOnes" "[B") (.int (Int32.ofNat j))) (.int (nI (48 + j % 10))) ∈ flatC (Jvm.Cond.and given_1 narrow_1) := by
  have h1 : Cond.eq (.elem (.static "java/lang/Integer" "DigitOnes" "[B") (.int (Int32.ofNat j))) (.int (nI (48 + j % 10))) ∈ digW "DigitOnes" (fun j => 48 + j % 10) := List.mem_map.mpr ⟨j, List.mem_range.mpr h, rfl⟩
  rw [← digF1] at h1
  exact List.mem_of_mem_drop (List.mem_of_mem_take h1)
theorem digM2 {j : Nat} (h : j < 100) : Cond.eq (.elem (.static "java/lang/Integer" "DigitTens" "[B") (.int (Int32.ofNat j))) (.int (nI (48 + j / 10))) ∈ flatC (Jvm.Cond.and given_1 narrow_1) := by
  have h1 : Cond.eq (.elem (.static "java/lang/Integer" "DigitTens" "[B") (.int (Int32.ofNat j))) (.int (nI (48 + j / 10))) ∈ digW "DigitTens" (fun j => 48 + j / 10) := List.mem_map.mpr ⟨j, List.mem_range.mpr h, rfl⟩
  rw [← digF2] at h1
  exact List.mem_of_mem_drop (List.mem_of_mem_take h1)
