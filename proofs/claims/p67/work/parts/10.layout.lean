/-! where the objects of the world lie, by their offsets; call rules by the number of arguments -/
def Is0 (S : JS) (a : Nat) : Prop := (a ∈ sL S ∧ sK S a = 0) ∧ (sR S a 0 = some (a + 1) ∧ ArE 11 S (a + 1) 500) ∧ (sR S a 2 = some (a + 2) ∧ ArE 11 S (a + 2) 400) ∧ (sR S a 5 = some (a + 3) ∧ ArE 11 S (a + 3) 3) ∧ (sR S a 6 = some (a + 4) ∧ ArE 11 S (a + 4) 3)
theorem Is0.o {S : JS} {a : Nat} (h : Is0 S a) : a ∈ sL S ∧ sK S a = 0 := h.1
theorem Is0.r0 {S : JS} {a : Nat} (h : Is0 S a) : sR S a 0 = some (a + 1) := h.2.1.1
theorem Is0.c0 {S : JS} {a : Nat} (h : Is0 S a) : ArE 11 S (a + 1) 500 := h.2.1.2
theorem Is0.r2 {S : JS} {a : Nat} (h : Is0 S a) : sR S a 2 = some (a + 2) := h.2.2.1.1
theorem Is0.c2 {S : JS} {a : Nat} (h : Is0 S a) : ArE 11 S (a + 2) 400 := h.2.2.1.2
theorem Is0.r5 {S : JS} {a : Nat} (h : Is0 S a) : sR S a 5 = some (a + 3) := h.2.2.2.1.1
theorem Is0.c5 {S : JS} {a : Nat} (h : Is0 S a) : ArE 11 S (a + 3) 3 := h.2.2.2.1.2
theorem Is0.r6 {S : JS} {a : Nat} (h : Is0 S a) : sR S a 6 = some (a + 4) := h.2.2.2.2.1
theorem Is0.c6 {S : JS} {a : Nat} (h : Is0 S a) : ArE 11 S (a + 4) 3 := h.2.2.2.2.2
def Is2 (S : JS) (a : Nat) : Prop := (a ∈ sL S ∧ sK S a = 2) ∧ (sR S a 0 = some (a + 1) ∧ ArE 11 S (a + 1) 500)
theorem Is2.o {S : JS} {a : Nat} (h : Is2 S a) : a ∈ sL S ∧ sK S a = 2 := h.1
theorem Is2.r0 {S : JS} {a : Nat} (h : Is2 S a) : sR S a 0 = some (a + 1) := h.2.1
theorem Is2.c0 {S : JS} {a : Nat} (h : Is2 S a) : ArE 11 S (a + 1) 500 := h.2.2
def Is4 (S : JS) (a : Nat) : Prop := (a ∈ sL S ∧ sK S a = 4) ∧ (sR S a 0 = some (a + 1) ∧ ArE 11 S (a + 1) 500)
theorem Is4.o {S : JS} {a : Nat} (h : Is4 S a) : a ∈ sL S ∧ sK S a = 4 := h.1
theorem Is4.r0 {S : JS} {a : Nat} (h : Is4 S a) : sR S a 0 = some (a + 1) := h.2.1
theorem Is4.c0 {S : JS} {a : Nat} (h : Is4 S a) : ArE 11 S (a + 1) 500 := h.2.2
def Is7 (S : JS) (a : Nat) : Prop := (a ∈ sL S ∧ sK S a = 7) ∧ (sR S a 6 = some (a + 1) ∧ ArE 11 S (a + 1) 8) ∧ (sR S a 7 = some (a + 2) ∧ ArE 11 S (a + 2) 6) ∧ (sR S a 8 = some (a + 3) ∧ ArE 11 S (a + 3) 12) ∧ (sR S a 9 = some (a + 4) ∧ ArE 11 S (a + 4) 12) ∧ (sR S a 10 = some (a + 5) ∧ ArE 11 S (a + 5) 60) ∧ (sR S a 11 = some (a + 6) ∧ ArE 11 S (a + 6) 60)
theorem Is7.o {S : JS} {a : Nat} (h : Is7 S a) : a ∈ sL S ∧ sK S a = 7 := h.1
theorem Is7.r6 {S : JS} {a : Nat} (h : Is7 S a) : sR S a 6 = some (a + 1) := h.2.1.1
theorem Is7.c6 {S : JS} {a : Nat} (h : Is7 S a) : ArE 11 S (a + 1) 8 := h.2.1.2
theorem Is7.r7 {S : JS} {a : Nat} (h : Is7 S a) : sR S a 7 = some (a + 2) := h.2.2.1.1
theorem Is7.c7 {S : JS} {a : Nat} (h : Is7 S a) : ArE 11 S (a + 2) 6 := h.2.2.1.2
theorem Is7.r8 {S : JS} {a : Nat} (h : Is7 S a) : sR S a 8 = some (a + 3) := h.2.2.2.1.1
theorem Is7.c8 {S : JS} {a : Nat} (h : Is7 S a) : ArE 11 S (a + 3) 12 := h.2.2.2.1.2
theorem Is7.r9 {S : JS} {a : Nat} (h : Is7 S a) : sR S a 9 = some (a + 4) := h.2.2.2.2.1.1
theorem Is7.c9 {S : JS} {a : Nat} (h : Is7 S a) : ArE 11 S (a + 4) 12 := h.2.2.2.2.1.2
theorem Is7.r10 {S : JS} {a : Nat} (h : Is7 S a) : sR S a 10 = some (a + 5) := h.2.2.2.2.2.1.1
theorem Is7.c10 {S : JS} {a : Nat} (h : Is7 S a) : ArE 11 S (a + 5) 60 := h.2.2.2.2.2.1.2
theorem Is7.r11 {S : JS} {a : Nat} (h : Is7 S a) : sR S a 11 = some (a + 6) := h.2.2.2.2.2.2.1
theorem Is7.c11 {S : JS} {a : Nat} (h : Is7 S a) : ArE 11 S (a + 6) 60 := h.2.2.2.2.2.2.2
def Is6 (S : JS) (a : Nat) : Prop := (a ∈ sL S ∧ sK S a = 6) ∧ (sR S a 0 = some (a + 1) ∧ Is7 S (a + 1))
theorem Is6.o {S : JS} {a : Nat} (h : Is6 S a) : a ∈ sL S ∧ sK S a = 6 := h.1
theorem Is6.r0 {S : JS} {a : Nat} (h : Is6 S a) : sR S a 0 = some (a + 1) := h.2.1
theorem Is6.c0 {S : JS} {a : Nat} (h : Is6 S a) : Is7 S (a + 1) := h.2.2
def Is3 (S : JS) (a : Nat) : Prop := (a ∈ sL S ∧ sK S a = 3) ∧ (sR S a 5 = some (a + 1) ∧ ArE 11 S (a + 1) 24) ∧ (sR S a 6 = some (a + 2) ∧ ArE 11 S (a + 2) 24) ∧ (sR S a 8 = some (a + 3) ∧ ArE 11 S (a + 3) 12) ∧ (sR S a 9 = some (a + 4) ∧ ArE 11 S (a + 4) 12) ∧ (sR S a 10 = some (a + 5) ∧ Is0 S (a + 5)) ∧ (sR S a 11 = some (a + 10) ∧ Is7 S (a + 10)) ∧ (sR S a 12 = some (a + 17) ∧ Is7 S (a + 17))
theorem Is3.o {S : JS} {a : Nat} (h : Is3 S a) : a ∈ sL S ∧ sK S a = 3 := h.1
theorem Is3.r5 {S : JS} {a : Nat} (h : Is3 S a) : sR S a 5 = some (a + 1) := h.2.1.1
theorem Is3.c5 {S : JS} {a : Nat} (h : Is3 S a) : ArE 11 S (a + 1) 24 := h.2.1.2
theorem Is3.r6 {S : JS} {a : Nat} (h : Is3 S a) : sR S a 6 = some (a + 2) := h.2.2.1.1
theorem Is3.c6 {S : JS} {a : Nat} (h : Is3 S a) : ArE 11 S (a + 2) 24 := h.2.2.1.2
theorem Is3.r8 {S : JS} {a : Nat} (h : Is3 S a) : sR S a 8 = some (a + 3) := h.2.2.2.1.1
theorem Is3.c8 {S : JS} {a : Nat} (h : Is3 S a) : ArE 11 S (a + 3) 12 := h.2.2.2.1.2
theorem Is3.r9 {S : JS} {a : Nat} (h : Is3 S a) : sR S a 9 = some (a + 4) := h.2.2.2.2.1.1
theorem Is3.c9 {S : JS} {a : Nat} (h : Is3 S a) : ArE 11 S (a + 4) 12 := h.2.2.2.2.1.2
theorem Is3.r10 {S : JS} {a : Nat} (h : Is3 S a) : sR S a 10 = some (a + 5) := h.2.2.2.2.2.1.1
theorem Is3.c10 {S : JS} {a : Nat} (h : Is3 S a) : Is0 S (a + 5) := h.2.2.2.2.2.1.2
theorem Is3.r11 {S : JS} {a : Nat} (h : Is3 S a) : sR S a 11 = some (a + 10) := h.2.2.2.2.2.2.1.1
theorem Is3.c11 {S : JS} {a : Nat} (h : Is3 S a) : Is7 S (a + 10) := h.2.2.2.2.2.2.1.2
theorem Is3.r12 {S : JS} {a : Nat} (h : Is3 S a) : sR S a 12 = some (a + 17) := h.2.2.2.2.2.2.2.1
theorem Is3.c12 {S : JS} {a : Nat} (h : Is3 S a) : Is7 S (a + 17) := h.2.2.2.2.2.2.2.2
def Is1 (S : JS) (a : Nat) : Prop := (a ∈ sL S ∧ sK S a = 1) ∧ (sR S a 0 = some (a + 1) ∧ ArE 13 S (a + 1) 8) ∧ ∀ i : Nat, i < 8 → sR S (a + 1) i = some (a + 2 + 7 * i) ∧ Is7 S (a + 2 + 7 * i)
theorem Is1.o {S : JS} {a : Nat} (h : Is1 S a) : a ∈ sL S ∧ sK S a = 1 := h.1
theorem Is1.r0 {S : JS} {a : Nat} (h : Is1 S a) : sR S a 0 = some (a + 1) := h.2.1.1
theorem Is1.c0 {S : JS} {a : Nat} (h : Is1 S a) : ArE 13 S (a + 1) 8 := h.2.1.2
theorem Is1.at {S : JS} {a i : Nat} (h : Is1 S a) (hi : i < 8) : sR S (a + 1) i = some (a + 2 + 7 * i) ∧ Is7 S (a + 2 + 7 * i) := h.2.2 i hi
def Is5 (S : JS) (a P : Nat) : Prop := (a ∈ sL S ∧ sK S a = 5) ∧ (sR S a 0 = some (a + 1) ∧ Is2 S (a + 1)) ∧ (sR S a 1 = some P ∧ Is3 S P)
theorem Is5.o {S : JS} {a P : Nat} (h : Is5 S a P) : a ∈ sL S ∧ sK S a = 5 := h.1
theorem Is5.r0 {S : JS} {a P : Nat} (h : Is5 S a P) : sR S a 0 = some (a + 1) := h.2.1.1
theorem Is5.c0 {S : JS} {a P : Nat} (h : Is5 S a P) : Is2 S (a + 1) := h.2.1.2
theorem Is5.r1 {S : JS} {a P : Nat} (h : Is5 S a P) : sR S a 1 = some P := h.2.2.1
theorem Is5.c1 {S : JS} {a P : Nat} (h : Is5 S a P) : Is3 S P := h.2.2.2
/-- the loom's object: its own loom L, the parser's spare one P -/
def Is8 (S : JS) (a L P : Nat) : Prop := (a ∈ sL S ∧ sK S a = 8) ∧ (sR S a 0 = some (a + 1) ∧ Is5 S (a + 1) P) ∧ (sR S a 1 = some (a + 28) ∧ Is4 S (a + 28)) ∧ (sR S a 2 = some (a + 30) ∧ Is1 S (a + 30)) ∧ (sR S a 3 = some (a + 88) ∧ Is6 S (a + 88)) ∧ (sR S a 4 = some (a + 96) ∧ Is6 S (a + 96)) ∧ (sR S a 5 = some L ∧ Is3 S L) ∧ ((L = a + 104 ∧ P = a + 4) ∨ (L = a + 4 ∧ P = a + 104)) ∧ sT S = none
theorem Is8.o {S : JS} {a L P : Nat} (h : Is8 S a L P) : a ∈ sL S ∧ sK S a = 8 := h.1
theorem Is8.r0 {S : JS} {a L P : Nat} (h : Is8 S a L P) : sR S a 0 = some (a + 1) := h.2.1.1
theorem Is8.c0 {S : JS} {a L P : Nat} (h : Is8 S a L P) : Is5 S (a + 1) P := h.2.1.2
theorem Is8.r1 {S : JS} {a L P : Nat} (h : Is8 S a L P) : sR S a 1 = some (a + 28) := h.2.2.1.1
theorem Is8.c1 {S : JS} {a L P : Nat} (h : Is8 S a L P) : Is4 S (a + 28) := h.2.2.1.2
theorem Is8.r2 {S : JS} {a L P : Nat} (h : Is8 S a L P) : sR S a 2 = some (a + 30) := h.2.2.2.1.1
theorem Is8.c2 {S : JS} {a L P : Nat} (h : Is8 S a L P) : Is1 S (a + 30) := h.2.2.2.1.2
theorem Is8.r3 {S : JS} {a L P : Nat} (h : Is8 S a L P) : sR S a 3 = some (a + 88) := h.2.2.2.2.1.1
theorem Is8.c3 {S : JS} {a L P : Nat} (h : Is8 S a L P) : Is6 S (a + 88) := h.2.2.2.2.1.2
theorem Is8.r4 {S : JS} {a L P : Nat} (h : Is8 S a L P) : sR S a 4 = some (a + 96) := h.2.2.2.2.2.1.1
theorem Is8.c4 {S : JS} {a L P : Nat} (h : Is8 S a L P) : Is6 S (a + 96) := h.2.2.2.2.2.1.2
theorem Is8.r5 {S : JS} {a L P : Nat} (h : Is8 S a L P) : sR S a 5 = some L := h.2.2.2.2.2.2.1.1
theorem Is8.c5 {S : JS} {a L P : Nat} (h : Is8 S a L P) : Is3 S L := h.2.2.2.2.2.2.1.2
theorem Is8.e {S : JS} {a L P : Nat} (h : Is8 S a L P) : (L = a + 104 ∧ P = a + 4) ∨ (L = a + 4 ∧ P = a + 104) := h.2.2.2.2.2.2.2.1
theorem Is8.t {S : JS} {a L P : Nat} (h : Is8 S a L P) : sT S = none := h.2.2.2.2.2.2.2.2
section LAYOUT
variable {Ω : JO} {Y Z : JM} {F : JF} {k n k' n' pc pc' : Nat} {lv lv' : List (Nat × Value)} {st rest : List Value} {I : JI} {S : JS} {Q : JQ} {a1 a2 a3 a4 a5 : Value}
theorem r_getO {ci j idx a v : Nat} {t : FieldType} {fin : Bool} (hd : decode Y.2.1 pc = .ok (.getfield idx, 3)) (hf : FA Y.1.cls idx ci j t fin) (ho : a ∈ sL S ∧ sK S a = ci) (hr : isR ci j = true) (hv : sR S a j = some v) (hp : pc + 3 = pc') (h : AA Ω Y F k n pc' lv (.ref v :: st) I S) : AA Ω Y F k n pc lv (.ref a :: st) I S :=
  r_getR hd hf ho hr hv hp h
theorem r_aaloadO {a N v : Nat} {i : Int32} (hd : decode Y.2.1 pc = .ok (.aaload, 1)) (hA : ArE 13 S a N) (hin : vp_in i N) (hv : sR S a i.toNatClampNeg = some v) (hp : pc + 1 = pc') (h : AA Ω Y F k n pc' lv (.ref v :: st) I S) : AA Ω Y F k n pc lv (.int i :: .ref a :: st) I S :=
  r_aaload hd hA hin hp (by rw [hv]; exact h)
theorem r_callS0 {idx : Nat} (hd : decode Y.2.1 pc = .ok (.invokestatic idx, 3)) (hb : SB Z 0) (hs : SS Z) (hlk : LK Y.1.cls idx Z) (hro : roomB Y Z k n = true) (hk : k + Z.2.2.2.2.2.cells = k') (hn : n + Z.2.2.2.2.2.slots = n') (hrs : (rest.map fun v => v.category).sum ≤ 8) (hp : pc + 3 = pc') (h : Call Ω Z [] I S (CP Ω Y F k' n' pc pc' lv rest)) : AA Ω Y F k n pc lv (rest) I S :=
  r_callS (As := []) hd hb hs hlk rfl rfl hro hk hn hrs hp h
theorem r_callV0 {idx b ci N : Nat} {T : u_T} (hd : decode Y.2.1 pc = .ok (.invokevirtual idx, 3)) (hb : SB Z 0) (hs : SI Z) (ho : b ∈ sL S ∧ sK S b = ci) (hci : oK ci) (hc : vwCl[ci]? = some (Z.1.cls, T, N)) (hlk : LK Y.1.cls idx Z) (hro : roomB Y Z k n = true) (hk : k + Z.2.2.2.2.2.cells = k') (hn : n + Z.2.2.2.2.2.slots = n') (hrs : (rest.map fun v => v.category).sum ≤ 8) (hp : pc + 3 = pc') (h : Call Ω Z (.ref b :: []) I S (CP Ω Y F k' n' pc pc' lv rest)) : AA Ω Y F k n pc lv (.ref b :: rest) I S :=
  r_callV (As := []) hd hb hs ho hci hc hlk rfl rfl hro hk hn hrs hp h
theorem r_callI0 {idx b : Nat} (hd : decode Y.2.1 pc = .ok (.invokespecial idx, 3)) (hb : SB Z 0) (hs : SC Z) (hlk : LK Y.1.cls idx Z) (hro : roomB Y Z k n = true) (hk : k + Z.2.2.2.2.2.cells = k') (hn : n + Z.2.2.2.2.2.slots = n') (hrs : (rest.map fun v => v.category).sum ≤ 8) (hp : pc + 3 = pc') (h : Call Ω Z (.ref b :: []) I S (CP Ω Y F k' n' pc pc' lv rest)) : AA Ω Y F k n pc lv (.ref b :: rest) I S :=
  r_callI (As := []) hd hb hs hlk rfl rfl hro hk hn hrs hp h
theorem r_callSN0 {idx : Nat} (hd : decode Y.2.1 pc = .ok (.invokestatic idx, 3)) (hb : SB Z 0) (hs : SS Z) (hlk : LN Y.1.cls idx Z) (hro : roomB Y Z k n = true) (hk : k + Z.2.2.2.2.2.cells = k') (hn : n + Z.2.2.2.2.2.slots = n') (hrs : (rest.map fun v => v.category).sum ≤ 8) (hp : pc + 3 = pc') (h : Call Ω Z [] I S (CP Ω Y F k' n' pc pc' lv rest)) : AA Ω Y F k n pc lv (rest) I S :=
  r_callSN (As := []) hd hb hs hlk rfl rfl hro hk hn hrs hp h
theorem r_callVN0 {idx b ci N : Nat} {T : u_T} (hd : decode Y.2.1 pc = .ok (.invokevirtual idx, 3)) (hb : SB Z 0) (hs : SI Z) (ho : b ∈ sL S ∧ sK S b = ci) (hci : oK ci) (hc : vwCl[ci]? = some (Z.1.cls, T, N)) (hlk : LN Y.1.cls idx Z) (hro : roomB Y Z k n = true) (hk : k + Z.2.2.2.2.2.cells = k') (hn : n + Z.2.2.2.2.2.slots = n') (hrs : (rest.map fun v => v.category).sum ≤ 8) (hp : pc + 3 = pc') (h : Call Ω Z (.ref b :: []) I S (CP Ω Y F k' n' pc pc' lv rest)) : AA Ω Y F k n pc lv (.ref b :: rest) I S :=
  r_callVN (As := []) hd hb hs ho hci hc hlk rfl rfl hro hk hn hrs hp h
theorem r_callIN0 {idx b : Nat} (hd : decode Y.2.1 pc = .ok (.invokespecial idx, 3)) (hb : SB Z 0) (hs : SC Z) (hlk : LN Y.1.cls idx Z) (hro : roomB Y Z k n = true) (hk : k + Z.2.2.2.2.2.cells = k') (hn : n + Z.2.2.2.2.2.slots = n') (hrs : (rest.map fun v => v.category).sum ≤ 8) (hp : pc + 3 = pc') (h : Call Ω Z (.ref b :: []) I S (CP Ω Y F k' n' pc pc' lv rest)) : AA Ω Y F k n pc lv (.ref b :: rest) I S :=
  r_callIN (As := []) hd hb hs hlk rfl rfl hro hk hn hrs hp h
theorem r_callS1 {idx : Nat} (hd : decode Y.2.1 pc = .ok (.invokestatic idx, 3)) (hb : SB Z 1) (hs : SS Z) (hlk : LK Y.1.cls idx Z) (hro : roomB Y Z k n = true) (hk : k + Z.2.2.2.2.2.cells = k') (hn : n + Z.2.2.2.2.2.slots = n') (hrs : (rest.map fun v => v.category).sum ≤ 8) (hp : pc + 3 = pc') (h : Call Ω Z [a1] I S (CP Ω Y F k' n' pc pc' lv rest)) : AA Ω Y F k n pc lv (a1 :: rest) I S :=
  r_callS (As := [a1]) hd hb hs hlk rfl rfl hro hk hn hrs hp h
theorem r_callV1 {idx b ci N : Nat} {T : u_T} (hd : decode Y.2.1 pc = .ok (.invokevirtual idx, 3)) (hb : SB Z 1) (hs : SI Z) (ho : b ∈ sL S ∧ sK S b = ci) (hci : oK ci) (hc : vwCl[ci]? = some (Z.1.cls, T, N)) (hlk : LK Y.1.cls idx Z) (hro : roomB Y Z k n = true) (hk : k + Z.2.2.2.2.2.cells = k') (hn : n + Z.2.2.2.2.2.slots = n') (hrs : (rest.map fun v => v.category).sum ≤ 8) (hp : pc + 3 = pc') (h : Call Ω Z (.ref b :: [a1]) I S (CP Ω Y F k' n' pc pc' lv rest)) : AA Ω Y F k n pc lv (a1 :: .ref b :: rest) I S :=
  r_callV (As := [a1]) hd hb hs ho hci hc hlk rfl rfl hro hk hn hrs hp h
theorem r_callSN1 {idx : Nat} (hd : decode Y.2.1 pc = .ok (.invokestatic idx, 3)) (hb : SB Z 1) (hs : SS Z) (hlk : LN Y.1.cls idx Z) (hro : roomB Y Z k n = true) (hk : k + Z.2.2.2.2.2.cells = k') (hn : n + Z.2.2.2.2.2.slots = n') (hrs : (rest.map fun v => v.category).sum ≤ 8) (hp : pc + 3 = pc') (h : Call Ω Z [a1] I S (CP Ω Y F k' n' pc pc' lv rest)) : AA Ω Y F k n pc lv (a1 :: rest) I S :=
  r_callSN (As := [a1]) hd hb hs hlk rfl rfl hro hk hn hrs hp h
theorem r_callVN1 {idx b ci N : Nat} {T : u_T} (hd : decode Y.2.1 pc = .ok (.invokevirtual idx, 3)) (hb : SB Z 1) (hs : SI Z) (ho : b ∈ sL S ∧ sK S b = ci) (hci : oK ci) (hc : vwCl[ci]? = some (Z.1.cls, T, N)) (hlk : LN Y.1.cls idx Z) (hro : roomB Y Z k n = true) (hk : k + Z.2.2.2.2.2.cells = k') (hn : n + Z.2.2.2.2.2.slots = n') (hrs : (rest.map fun v => v.category).sum ≤ 8) (hp : pc + 3 = pc') (h : Call Ω Z (.ref b :: [a1]) I S (CP Ω Y F k' n' pc pc' lv rest)) : AA Ω Y F k n pc lv (a1 :: .ref b :: rest) I S :=
  r_callVN (As := [a1]) hd hb hs ho hci hc hlk rfl rfl hro hk hn hrs hp h
theorem r_callS2 {idx : Nat} (hd : decode Y.2.1 pc = .ok (.invokestatic idx, 3)) (hb : SB Z 2) (hs : SS Z) (hlk : LK Y.1.cls idx Z) (hro : roomB Y Z k n = true) (hk : k + Z.2.2.2.2.2.cells = k') (hn : n + Z.2.2.2.2.2.slots = n') (hrs : (rest.map fun v => v.category).sum ≤ 8) (hp : pc + 3 = pc') (h : Call Ω Z [a1, a2] I S (CP Ω Y F k' n' pc pc' lv rest)) : AA Ω Y F k n pc lv (a2 :: a1 :: rest) I S :=
  r_callS (As := [a1, a2]) hd hb hs hlk rfl rfl hro hk hn hrs hp h
theorem r_callV2 {idx b ci N : Nat} {T : u_T} (hd : decode Y.2.1 pc = .ok (.invokevirtual idx, 3)) (hb : SB Z 2) (hs : SI Z) (ho : b ∈ sL S ∧ sK S b = ci) (hci : oK ci) (hc : vwCl[ci]? = some (Z.1.cls, T, N)) (hlk : LK Y.1.cls idx Z) (hro : roomB Y Z k n = true) (hk : k + Z.2.2.2.2.2.cells = k') (hn : n + Z.2.2.2.2.2.slots = n') (hrs : (rest.map fun v => v.category).sum ≤ 8) (hp : pc + 3 = pc') (h : Call Ω Z (.ref b :: [a1, a2]) I S (CP Ω Y F k' n' pc pc' lv rest)) : AA Ω Y F k n pc lv (a2 :: a1 :: .ref b :: rest) I S :=
  r_callV (As := [a1, a2]) hd hb hs ho hci hc hlk rfl rfl hro hk hn hrs hp h
theorem r_callSN2 {idx : Nat} (hd : decode Y.2.1 pc = .ok (.invokestatic idx, 3)) (hb : SB Z 2) (hs : SS Z) (hlk : LN Y.1.cls idx Z) (hro : roomB Y Z k n = true) (hk : k + Z.2.2.2.2.2.cells = k') (hn : n + Z.2.2.2.2.2.slots = n') (hrs : (rest.map fun v => v.category).sum ≤ 8) (hp : pc + 3 = pc') (h : Call Ω Z [a1, a2] I S (CP Ω Y F k' n' pc pc' lv rest)) : AA Ω Y F k n pc lv (a2 :: a1 :: rest) I S :=
  r_callSN (As := [a1, a2]) hd hb hs hlk rfl rfl hro hk hn hrs hp h
theorem r_callVN2 {idx b ci N : Nat} {T : u_T} (hd : decode Y.2.1 pc = .ok (.invokevirtual idx, 3)) (hb : SB Z 2) (hs : SI Z) (ho : b ∈ sL S ∧ sK S b = ci) (hci : oK ci) (hc : vwCl[ci]? = some (Z.1.cls, T, N)) (hlk : LN Y.1.cls idx Z) (hro : roomB Y Z k n = true) (hk : k + Z.2.2.2.2.2.cells = k') (hn : n + Z.2.2.2.2.2.slots = n') (hrs : (rest.map fun v => v.category).sum ≤ 8) (hp : pc + 3 = pc') (h : Call Ω Z (.ref b :: [a1, a2]) I S (CP Ω Y F k' n' pc pc' lv rest)) : AA Ω Y F k n pc lv (a2 :: a1 :: .ref b :: rest) I S :=
  r_callVN (As := [a1, a2]) hd hb hs ho hci hc hlk rfl rfl hro hk hn hrs hp h
theorem r_callS3 {idx : Nat} (hd : decode Y.2.1 pc = .ok (.invokestatic idx, 3)) (hb : SB Z 3) (hs : SS Z) (hlk : LK Y.1.cls idx Z) (hro : roomB Y Z k n = true) (hk : k + Z.2.2.2.2.2.cells = k') (hn : n + Z.2.2.2.2.2.slots = n') (hrs : (rest.map fun v => v.category).sum ≤ 8) (hp : pc + 3 = pc') (h : Call Ω Z [a1, a2, a3] I S (CP Ω Y F k' n' pc pc' lv rest)) : AA Ω Y F k n pc lv (a3 :: a2 :: a1 :: rest) I S :=
  r_callS (As := [a1, a2, a3]) hd hb hs hlk rfl rfl hro hk hn hrs hp h
theorem r_callV3 {idx b ci N : Nat} {T : u_T} (hd : decode Y.2.1 pc = .ok (.invokevirtual idx, 3)) (hb : SB Z 3) (hs : SI Z) (ho : b ∈ sL S ∧ sK S b = ci) (hci : oK ci) (hc : vwCl[ci]? = some (Z.1.cls, T, N)) (hlk : LK Y.1.cls idx Z) (hro : roomB Y Z k n = true) (hk : k + Z.2.2.2.2.2.cells = k') (hn : n + Z.2.2.2.2.2.slots = n') (hrs : (rest.map fun v => v.category).sum ≤ 8) (hp : pc + 3 = pc') (h : Call Ω Z (.ref b :: [a1, a2, a3]) I S (CP Ω Y F k' n' pc pc' lv rest)) : AA Ω Y F k n pc lv (a3 :: a2 :: a1 :: .ref b :: rest) I S :=
  r_callV (As := [a1, a2, a3]) hd hb hs ho hci hc hlk rfl rfl hro hk hn hrs hp h
theorem r_callSN3 {idx : Nat} (hd : decode Y.2.1 pc = .ok (.invokestatic idx, 3)) (hb : SB Z 3) (hs : SS Z) (hlk : LN Y.1.cls idx Z) (hro : roomB Y Z k n = true) (hk : k + Z.2.2.2.2.2.cells = k') (hn : n + Z.2.2.2.2.2.slots = n') (hrs : (rest.map fun v => v.category).sum ≤ 8) (hp : pc + 3 = pc') (h : Call Ω Z [a1, a2, a3] I S (CP Ω Y F k' n' pc pc' lv rest)) : AA Ω Y F k n pc lv (a3 :: a2 :: a1 :: rest) I S :=
  r_callSN (As := [a1, a2, a3]) hd hb hs hlk rfl rfl hro hk hn hrs hp h
theorem r_callVN3 {idx b ci N : Nat} {T : u_T} (hd : decode Y.2.1 pc = .ok (.invokevirtual idx, 3)) (hb : SB Z 3) (hs : SI Z) (ho : b ∈ sL S ∧ sK S b = ci) (hci : oK ci) (hc : vwCl[ci]? = some (Z.1.cls, T, N)) (hlk : LN Y.1.cls idx Z) (hro : roomB Y Z k n = true) (hk : k + Z.2.2.2.2.2.cells = k') (hn : n + Z.2.2.2.2.2.slots = n') (hrs : (rest.map fun v => v.category).sum ≤ 8) (hp : pc + 3 = pc') (h : Call Ω Z (.ref b :: [a1, a2, a3]) I S (CP Ω Y F k' n' pc pc' lv rest)) : AA Ω Y F k n pc lv (a3 :: a2 :: a1 :: .ref b :: rest) I S :=
  r_callVN (As := [a1, a2, a3]) hd hb hs ho hci hc hlk rfl rfl hro hk hn hrs hp h
theorem r_callS4 {idx : Nat} (hd : decode Y.2.1 pc = .ok (.invokestatic idx, 3)) (hb : SB Z 4) (hs : SS Z) (hlk : LK Y.1.cls idx Z) (hro : roomB Y Z k n = true) (hk : k + Z.2.2.2.2.2.cells = k') (hn : n + Z.2.2.2.2.2.slots = n') (hrs : (rest.map fun v => v.category).sum ≤ 8) (hp : pc + 3 = pc') (h : Call Ω Z [a1, a2, a3, a4] I S (CP Ω Y F k' n' pc pc' lv rest)) : AA Ω Y F k n pc lv (a4 :: a3 :: a2 :: a1 :: rest) I S :=
  r_callS (As := [a1, a2, a3, a4]) hd hb hs hlk rfl rfl hro hk hn hrs hp h
theorem r_callV4 {idx b ci N : Nat} {T : u_T} (hd : decode Y.2.1 pc = .ok (.invokevirtual idx, 3)) (hb : SB Z 4) (hs : SI Z) (ho : b ∈ sL S ∧ sK S b = ci) (hci : oK ci) (hc : vwCl[ci]? = some (Z.1.cls, T, N)) (hlk : LK Y.1.cls idx Z) (hro : roomB Y Z k n = true) (hk : k + Z.2.2.2.2.2.cells = k') (hn : n + Z.2.2.2.2.2.slots = n') (hrs : (rest.map fun v => v.category).sum ≤ 8) (hp : pc + 3 = pc') (h : Call Ω Z (.ref b :: [a1, a2, a3, a4]) I S (CP Ω Y F k' n' pc pc' lv rest)) : AA Ω Y F k n pc lv (a4 :: a3 :: a2 :: a1 :: .ref b :: rest) I S :=
  r_callV (As := [a1, a2, a3, a4]) hd hb hs ho hci hc hlk rfl rfl hro hk hn hrs hp h
theorem r_callSN4 {idx : Nat} (hd : decode Y.2.1 pc = .ok (.invokestatic idx, 3)) (hb : SB Z 4) (hs : SS Z) (hlk : LN Y.1.cls idx Z) (hro : roomB Y Z k n = true) (hk : k + Z.2.2.2.2.2.cells = k') (hn : n + Z.2.2.2.2.2.slots = n') (hrs : (rest.map fun v => v.category).sum ≤ 8) (hp : pc + 3 = pc') (h : Call Ω Z [a1, a2, a3, a4] I S (CP Ω Y F k' n' pc pc' lv rest)) : AA Ω Y F k n pc lv (a4 :: a3 :: a2 :: a1 :: rest) I S :=
  r_callSN (As := [a1, a2, a3, a4]) hd hb hs hlk rfl rfl hro hk hn hrs hp h
theorem r_callVN4 {idx b ci N : Nat} {T : u_T} (hd : decode Y.2.1 pc = .ok (.invokevirtual idx, 3)) (hb : SB Z 4) (hs : SI Z) (ho : b ∈ sL S ∧ sK S b = ci) (hci : oK ci) (hc : vwCl[ci]? = some (Z.1.cls, T, N)) (hlk : LN Y.1.cls idx Z) (hro : roomB Y Z k n = true) (hk : k + Z.2.2.2.2.2.cells = k') (hn : n + Z.2.2.2.2.2.slots = n') (hrs : (rest.map fun v => v.category).sum ≤ 8) (hp : pc + 3 = pc') (h : Call Ω Z (.ref b :: [a1, a2, a3, a4]) I S (CP Ω Y F k' n' pc pc' lv rest)) : AA Ω Y F k n pc lv (a4 :: a3 :: a2 :: a1 :: .ref b :: rest) I S :=
  r_callVN (As := [a1, a2, a3, a4]) hd hb hs ho hci hc hlk rfl rfl hro hk hn hrs hp h
theorem r_callS5 {idx : Nat} (hd : decode Y.2.1 pc = .ok (.invokestatic idx, 3)) (hb : SB Z 5) (hs : SS Z) (hlk : LK Y.1.cls idx Z) (hro : roomB Y Z k n = true) (hk : k + Z.2.2.2.2.2.cells = k') (hn : n + Z.2.2.2.2.2.slots = n') (hrs : (rest.map fun v => v.category).sum ≤ 8) (hp : pc + 3 = pc') (h : Call Ω Z [a1, a2, a3, a4, a5] I S (CP Ω Y F k' n' pc pc' lv rest)) : AA Ω Y F k n pc lv (a5 :: a4 :: a3 :: a2 :: a1 :: rest) I S :=
  r_callS (As := [a1, a2, a3, a4, a5]) hd hb hs hlk rfl rfl hro hk hn hrs hp h
theorem r_callV5 {idx b ci N : Nat} {T : u_T} (hd : decode Y.2.1 pc = .ok (.invokevirtual idx, 3)) (hb : SB Z 5) (hs : SI Z) (ho : b ∈ sL S ∧ sK S b = ci) (hci : oK ci) (hc : vwCl[ci]? = some (Z.1.cls, T, N)) (hlk : LK Y.1.cls idx Z) (hro : roomB Y Z k n = true) (hk : k + Z.2.2.2.2.2.cells = k') (hn : n + Z.2.2.2.2.2.slots = n') (hrs : (rest.map fun v => v.category).sum ≤ 8) (hp : pc + 3 = pc') (h : Call Ω Z (.ref b :: [a1, a2, a3, a4, a5]) I S (CP Ω Y F k' n' pc pc' lv rest)) : AA Ω Y F k n pc lv (a5 :: a4 :: a3 :: a2 :: a1 :: .ref b :: rest) I S :=
  r_callV (As := [a1, a2, a3, a4, a5]) hd hb hs ho hci hc hlk rfl rfl hro hk hn hrs hp h
theorem r_callSN5 {idx : Nat} (hd : decode Y.2.1 pc = .ok (.invokestatic idx, 3)) (hb : SB Z 5) (hs : SS Z) (hlk : LN Y.1.cls idx Z) (hro : roomB Y Z k n = true) (hk : k + Z.2.2.2.2.2.cells = k') (hn : n + Z.2.2.2.2.2.slots = n') (hrs : (rest.map fun v => v.category).sum ≤ 8) (hp : pc + 3 = pc') (h : Call Ω Z [a1, a2, a3, a4, a5] I S (CP Ω Y F k' n' pc pc' lv rest)) : AA Ω Y F k n pc lv (a5 :: a4 :: a3 :: a2 :: a1 :: rest) I S :=
  r_callSN (As := [a1, a2, a3, a4, a5]) hd hb hs hlk rfl rfl hro hk hn hrs hp h
theorem r_callVN5 {idx b ci N : Nat} {T : u_T} (hd : decode Y.2.1 pc = .ok (.invokevirtual idx, 3)) (hb : SB Z 5) (hs : SI Z) (ho : b ∈ sL S ∧ sK S b = ci) (hci : oK ci) (hc : vwCl[ci]? = some (Z.1.cls, T, N)) (hlk : LN Y.1.cls idx Z) (hro : roomB Y Z k n = true) (hk : k + Z.2.2.2.2.2.cells = k') (hn : n + Z.2.2.2.2.2.slots = n') (hrs : (rest.map fun v => v.category).sum ≤ 8) (hp : pc + 3 = pc') (h : Call Ω Z (.ref b :: [a1, a2, a3, a4, a5]) I S (CP Ω Y F k' n' pc pc' lv rest)) : AA Ω Y F k n pc lv (a5 :: a4 :: a3 :: a2 :: a1 :: .ref b :: rest) I S :=
  r_callVN (As := [a1, a2, a3, a4, a5]) hd hb hs ho hci hc hlk rfl rfl hro hk hn hrs hp h
end LAYOUT
def zb (b : Bool) : Int32 := if b then 1 else 0
theorem zb01 (b : Bool) : zb b = 0 ∨ zb b = 1 := by cases b <;> simp [zb]
theorem zb0 {b : Bool} (h : zb b = 0) : b = false := by cases b <;> simp_all [zb]
theorem zb1 {b : Bool} (h : ¬ zb b = 0) : b = true := by cases b <;> simp_all [zb]
theorem zbt : zb true = 1 := rfl
theorem zbf : zb false = 0 := rfl
