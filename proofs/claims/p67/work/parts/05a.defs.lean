/-! what the tables are asked for -/
abbrev JM : Type := MethodName × ByteArray × Nat × Option FieldType × List (Nat × Nat × Nat × Nat) × Room
def nFd (k : Nat) : Nat := [8, 3, 7, 13, 2, 5, 2, 12, 7, 15, 0, 0, 0, 0, 0, 0, 4, 4, 3].getD k 0
abbrev oK (ci : Nat) : Prop := ci < 10 ∨ (16 ≤ ci ∧ ci < 19)
/-- what the tables give beside: a private method of a superclass is selected as itself -/
def xTbl : List Cond := [.selects RJ4 yJ5_ensureCapacityInternal_d00df yJ5_ensureCapacityInternal_d00df, .selects RJ4 yJ5_newCapacity_0f7a4 yJ5_newCapacity_0f7a4, .selects RJ4 yJ5_putStringAt_47b60 yJ5_putStringAt_47b60, .selects RJ4 yJ5_inflateIfNeededFor_a7421 yJ5_inflateIfNeededFor_a7421]
def gTbl : List Cond := (lw_tbl ++ xTbl).filter goodWord
theorem gx {w : Cond} (i : Nat) (h : xTbl[i]? = some w) (hg : goodWord w = true) : w ∈ gTbl := List.mem_filter.mpr ⟨List.mem_append_right _ (List.mem_of_getElem? h), hg⟩
theorem gm {w : Cond} (i : Nat) (h : lw_tbl[i]? = some w) (hg : goodWord w = true) : w ∈ gTbl := List.mem_filter.mpr ⟨List.mem_append_left _ (List.mem_of_getElem? h), hg⟩
theorem gTbl_good {w : Cond} (h : w ∈ gTbl) : w ∈ lw_tbl ++ xTbl ∧ goodWord w = true := List.mem_filter.mp h
def FA (own : String) (idx ci k : Nat) (t : FieldType) (fin : Bool) : Prop := ∃ (C : String) (T : u_T) (N : Nat) (ty : Nat → FieldType), vwCl[ci]? = some (C, T, N) ∧ N = nFd ci ∧ oK ci ∧ k < N ∧ (∀ w ∈ u_ws C T N, w ∈ gTbl) ∧ Cond.fieldLink own idx (T k).1 (T k).2.1 (T k).2.2.1 ∈ gTbl ∧ (∀ j, j < N → parseFieldDescriptor (T j).2.2.1 = some (ty j)) ∧ (∀ a, a < N → ∀ b, b < N → a ≠ b → (T a).2.1 ≠ (T b).2.1) ∧ (T k).2.2.2 = fin ∧ ty k = t
def FN (own : String) (idx ci k : Nat) (t : FieldType) (fin : Bool) : Prop := ∃ (C : String) (T : u_T) (N : Nat) (ty : Nat → FieldType) (host : String), vwCl[ci]? = some (C, T, N) ∧ N = nFd ci ∧ oK ci ∧ k < N ∧ (∀ w ∈ u_ws C T N, w ∈ gTbl) ∧ Cond.fieldLinkNest own idx (T k).1 (T k).2.1 (T k).2.2.1 host ∈ lw_tbl ∧ (∀ j, j < N → parseFieldDescriptor (T j).2.2.1 = some (ty j)) ∧ (∀ a, a < N → ∀ b, b < N → a ≠ b → (T a).2.1 ≠ (T b).2.1) ∧ (T k).2.2.2 = fin ∧ ty k = t
def FS (own : String) (idx ci k : Nat) (t : FieldType) (fin : Bool) : Prop := ∃ (C : String) (T : u_T) (N : Nat) (ty : Nat → FieldType) (ref : String), vwCl[ci]? = some (C, T, N) ∧ N = nFd ci ∧ oK ci ∧ k < N ∧ (∀ w ∈ u_ws C T N, w ∈ gTbl) ∧ Cond.fieldLink own idx ref (T k).2.1 (T k).2.2.1 ∈ gTbl ∧ (∀ j, j < N → parseFieldDescriptor (T j).2.2.1 = some (ty j)) ∧ (∀ a, a < N → ∀ b, b < N → a ≠ b → (T a).2.1 ≠ (T b).2.1) ∧ (T k).2.2.2 = fin ∧ ty k = t ∧ Cond.sameField ref (T k).1 (T k).2.1 (T k).2.2.1 ∈ gTbl
def FD (own : String) (ci k : Nat) : Prop := ∃ (C : String) (T : u_T) (N : Nat), vwCl[ci]? = some (C, T, N) ∧ (T k).1 = own
def SB (Z : JM) (nn : Nat) : Prop := Cond.code Z.1 Z.2.1 Z.2.2.1 Z.2.2.2.1 ∈ gTbl ∧ Cond.initialized Z.1.cls ∈ gTbl ∧ (Z.1.cls ≠ "java/lang/invoke/MethodHandle" ∧ Z.1.cls ≠ "java/lang/invoke/VarHandle") ∧ (parseMethodDescriptor Z.1.desc).map (fun d => d.parameters.length) = some nn
def SI (Z : JM) : Prop := Cond.instanceMethod Z.1 ∈ gTbl ∧ Cond.selects Z.1.cls Z.1 Z.1 ∈ gTbl
def SS (Z : JM) : Prop := Cond.static Z.1 ∈ gTbl
def SC (Z : JM) : Prop := Cond.instanceMethod Z.1 ∈ gTbl ∧ Z.1.name = "<init>" ∧ Z.2.2.2.1 = none
def LK (own : String) (idx : Nat) (Z : JM) : Prop := Cond.methodLink own idx Z.1 ∈ gTbl
def LN (own : String) (idx : Nat) (Z : JM) : Prop := ∃ host : String, Cond.methodLinkNest own idx Z.1 host ∈ lw_tbl
def isCD : Cond → Bool
  | .castable _ _ => true
  | .declares _ => true
  | _ => false
def TH (own : String) (ik is ic : Nat) (cls text : String) : Prop := Cond.classLink own ik cls ∈ gTbl ∧ Cond.initialized cls ∈ gTbl ∧ Cond.stringRef own is text ∈ lw_tbl ∧ (∀ w ∈ vx_atS own ic cls ["java/lang/RuntimeException", "java/lang/Exception"], w ∈ gTbl ∨ (w ∈ lw_tbl ∧ isCD w = true)) ∧ (∀ w ∈ Cond.classLink own ik cls :: Cond.initialized cls :: vx_atS own ic cls ["java/lang/RuntimeException", "java/lang/Exception"], vx_ot w = true) ∧ Bundle.fit cls = true ∧ (∀ z ∈ ["java/lang/RuntimeException", "java/lang/Exception"], Bundle.fit z = true)
theorem th_all {L : List Cond} (h : L.all (fun w => decide (w ∈ gTbl) || (decide (w ∈ lw_tbl) && isCD w)) = true) : ∀ w ∈ L, w ∈ gTbl ∨ (w ∈ lw_tbl ∧ isCD w = true) := by
  intro w hw
  have h1 := List.all_eq_true.mp h w hw
  simp only [Bool.or_eq_true, Bool.and_eq_true, decide_eq_true_eq] at h1
  exact h1
def MW (own : String) (idx : Nat) (nm : MethodName) (cd : ByteArray) (ml : Nat) : Prop := Cond.methodLink own idx nm ∈ gTbl ∧ Cond.static nm ∈ gTbl ∧ Cond.initialized "java/lang/Math" ∈ gTbl ∧ Cond.code nm cd ml (some .int) ∈ gTbl
def AW (own : String) (idx : Nat) : Prop := Cond.methodLink own idx arraycopyName ∈ gTbl ∧ Cond.native arraycopyName ∈ gTbl ∧ Cond.static arraycopyName ∈ gTbl ∧ Cond.initialized "java/lang/System" ∈ gTbl
