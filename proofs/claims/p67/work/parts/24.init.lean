/-! constructors: what they lay out -/
def Ar0 (ty : Nat) (S : JS) (a n : Nat) : Prop := a ∈ sL S ∧ sK S a = ty ∧ sN S a = n
/-- what stands below s is as it was -/
def EX (S S' : JS) (I I' : JI) (s : Nat) : Prop := ∀ b, b < s → ((b ∈ sL S → b ∈ sL S') ∧ sK S' b = sK S b ∧ sN S' b = sN S b ∧ ∀ j, sR S' b j = sR S b j) ∧ I' b = I b
def SD (S S' : JS) (lo hi : Nat) : Prop := ∀ b, lo ≤ b → b < hi → (b ∈ sL S → b ∈ sL S') ∧ sK S' b = sK S b ∧ sN S' b = sN S b ∧ ∀ j, sR S' b j = sR S b j
section LAYS
variable {S S' S0 : JS} {I I' I0 : JI} {a b s s' z k j ki n lo hi N ty ci : Nat} {r : Option Nat} {v : Int32}
theorem mem_nw (h : b ∈ sL S) : b ∈ sL (nwS S z ki n) := List.mem_append_left _ h
theorem mem_z : z ∈ sL (nwS S z ki n) := List.mem_append_right _ (List.mem_singleton.mpr rfl)
theorem o_nw (h : a ∈ sL S ∧ sK S a = ci) (hn : a ≠ z) : a ∈ sL (nwS S z ki n) ∧ sK (nwS S z ki n) a = ci := ⟨mem_nw h.1, by rw [nwS_K, if_neg hn]; exact h.2⟩
theorem o_z : z ∈ sL (nwS S z ki n) ∧ sK (nwS S z ki n) z = ki := ⟨mem_z, by rw [nwS_K, if_pos rfl]⟩
theorem o_ex (x : EX S S' I I' s) (h : a ∈ sL S ∧ sK S a = ci) (hn : a < s) : a ∈ sL S' ∧ sK S' a = ci := ⟨(x a hn).1.1 h.1, by rw [(x a hn).1.2.1]; exact h.2⟩
theorem stR_R1 : sR (stR S a k r) a k = r := by simp [stR, sR]
theorem stR_R2 (h : j ≠ k) : sR (stR S a k r) a j = sR S a j := by simp [stR, sR, h]
theorem stR_R3 (h : b ≠ a) : sR (stR S a k r) b j = sR S b j := by simp [stR, sR, h]
theorem nwS_Ro (h : b ≠ z) : sR (nwS S z ki n) b j = sR S b j := by rw [nwS_R, if_neg h]
theorem EX.R (x : EX S S' I I' s) (h : b < s) : sR S' b j = sR S b j := (x b h).1.2.2.2 j
theorem EX.Ib (x : EX S S' I I' s) (h : b < s) : I' b = I b := (x b h).2
theorem nwI_o (h : b ≠ z) : nwI I z b = I b := by funext q; simp [nwI, h]
theorem SD_rf : SD S S lo hi := fun _ _ _ => ⟨id, rfl, rfl, fun _ => rfl⟩
theorem SD_st (h : SD S0 S lo hi) (hc : a < lo ∨ hi ≤ a) : SD S0 (stR S a k r) lo hi := fun b h1 h2 => by
  obtain ⟨q1, q2, q3, q4⟩ := h b h1 h2
  exact ⟨q1, q2, q3, fun j => by rw [stR_R3 (by omega)]; exact q4 j⟩
theorem SD_nw (h : SD S0 S lo hi) (hc : z < lo ∨ hi ≤ z) : SD S0 (nwS S z ki n) lo hi := fun b h1 h2 => by
  obtain ⟨q1, q2, q3, q4⟩ := h b h1 h2
  exact ⟨fun q => mem_nw (q1 q), by rw [nwS_K, if_neg (by omega)]; exact q2, by rw [nwS_N, if_neg (by omega)]; exact q3, fun j => by rw [nwS_Ro (by omega)]; exact q4 j⟩
theorem SD_ex (x : EX S S' I I' s) (h : SD S0 S lo hi) (hc : hi ≤ s) : SD S0 S' lo hi := fun b h1 h2 => by
  obtain ⟨q1, q2, q3, q4⟩ := h b h1 h2
  obtain ⟨⟨p1, p2, p3, p4⟩, -⟩ := x b (by omega)
  exact ⟨fun q => p1 (q1 q), p2.trans q2, p3.trans q3, fun j => (p4 j).trans (q4 j)⟩
theorem EX_rf : EX S S I I s := fun _ _ => ⟨⟨id, rfl, rfl, fun _ => rfl⟩, rfl⟩
theorem EX_pI (h : EX S0 S I0 I s) (hc : s ≤ a) : EX S0 S I0 (stI I a k v) s := fun b hb => ⟨(h b hb).1, by rw [stI_ne (by omega)]; exact (h b hb).2⟩
theorem EX_st (h : EX S0 S I0 I s) (hc : s ≤ a) : EX S0 (stR S a k r) I0 I s := fun b hb => by
  obtain ⟨⟨q1, q2, q3, q4⟩, q5⟩ := h b hb
  exact ⟨⟨q1, q2, q3, fun j => by rw [stR_R3 (by omega)]; exact q4 j⟩, q5⟩
theorem EX_nw (h : EX S0 S I0 I s) (hc : s ≤ z) : EX S0 (nwS S z ki n) I0 (nwI I z) s := fun b hb => by
  obtain ⟨⟨q1, q2, q3, q4⟩, q5⟩ := h b hb
  exact ⟨⟨fun q => mem_nw (q1 q), by rw [nwS_K, if_neg (by omega)]; exact q2, by rw [nwS_N, if_neg (by omega)]; exact q3, fun j => by rw [nwS_Ro (by omega)]; exact q4 j⟩, by rw [nwI_o (by omega)]; exact q5⟩
theorem EX_ex (x : EX S S' I I' s') (h : EX S0 S I0 I s) (hc : s ≤ s') : EX S0 S' I0 I' s := fun b hb => by
  obtain ⟨⟨q1, q2, q3, q4⟩, q5⟩ := h b hb
  obtain ⟨⟨p1, p2, p3, p4⟩, p5⟩ := x b (by omega)
  exact ⟨⟨fun q => p1 (q1 q), p2.trans q2, p3.trans q3, fun j => (p4 j).trans (q4 j)⟩, p5.trans q5⟩
theorem Ar0_z : Ar0 ki (nwS S z ki n) z n := ⟨mem_z, by rw [nwS_K, if_pos rfl], by rw [nwS_N, if_pos rfl]⟩
theorem Ar0.dep (h : Ar0 ty S a N) (x : SD S S' a (a + 1)) : Ar0 ty S' a N := by
  obtain ⟨q1, q2, q3, -⟩ := x a (Nat.le_refl a) (Nat.lt_succ_self a)
  exact ⟨q1 h.1, q2.trans h.2.1, q3.trans h.2.2⟩
theorem o_dep (h : a ∈ sL S ∧ sK S a = ci) (x : SD S S' lo hi) (h1 : lo ≤ a) (h2 : a < hi) : a ∈ sL S' ∧ sK S' a = ci := by
  obtain ⟨q1, q2, -⟩ := x a h1 h2
  exact ⟨q1 h.1, q2.trans h.2⟩
theorem SD.sub {lo' hi' : Nat} (x : SD S S' lo hi) (h1 : lo ≤ lo') (h2 : hi' ≤ hi) : SD S S' lo' hi' := fun b q1 q2 => x b (by omega) (by omega)
theorem SD.R (x : SD S S' lo hi) (h1 : lo ≤ b) (h2 : b < hi) (h : sR S b j = r) : sR S' b j = r := ((x b h1 h2).2.2.2 j).trans h
theorem Ar0_st {x : Nat} (h : Ar0 ty S b N) : Ar0 ty (stR S x k r) b N := h
theorem Ar0.no (h : Ar0 ty S a N) : ArE ty (noT S) a N := ⟨h.1, h.2.1, h.2.2, rfl⟩
def Lay0 (S : JS) (a : Nat) : Prop := (a ∈ sL S ∧ sK S a = 0) ∧ (sR S a 0 = some (a + 1) ∧ Ar0 11 S (a + 1) 500) ∧ (sR S a 2 = some (a + 2) ∧ Ar0 11 S (a + 2) 400) ∧ (sR S a 5 = some (a + 3) ∧ Ar0 11 S (a + 3) 3) ∧ (sR S a 6 = some (a + 4) ∧ Ar0 11 S (a + 4) 3)
theorem Lay0.dep (h : Lay0 S a) (x : SD S S' a (a + 5)) : Lay0 S' a := by
  obtain ⟨h0, ⟨r0, c0⟩, ⟨r1, c1⟩, ⟨r2, c2⟩, ⟨r3, c3⟩⟩ := h
  exact ⟨o_dep h0 x (by omega) (by omega), ⟨x.R (by omega) (by omega) r0, c0.dep (x.sub (by omega) (by omega))⟩, ⟨x.R (by omega) (by omega) r1, c1.dep (x.sub (by omega) (by omega))⟩, ⟨x.R (by omega) (by omega) r2, c2.dep (x.sub (by omega) (by omega))⟩, ⟨x.R (by omega) (by omega) r3, c3.dep (x.sub (by omega) (by omega))⟩⟩
theorem Lay0.no (h : Lay0 S a) : Is0 (noT S) a := by
  obtain ⟨h0, ⟨r0, c0⟩, ⟨r1, c1⟩, ⟨r2, c2⟩, ⟨r3, c3⟩⟩ := h
  exact ⟨h0, ⟨r0, c0.no⟩, ⟨r1, c1.no⟩, ⟨r2, c2.no⟩, ⟨r3, c3.no⟩⟩
def Lay2 (S : JS) (a : Nat) : Prop := (a ∈ sL S ∧ sK S a = 2) ∧ (sR S a 0 = some (a + 1) ∧ Ar0 11 S (a + 1) 500)
theorem Lay2.dep (h : Lay2 S a) (x : SD S S' a (a + 2)) : Lay2 S' a := by
  obtain ⟨h0, ⟨r0, c0⟩⟩ := h
  exact ⟨o_dep h0 x (by omega) (by omega), ⟨x.R (by omega) (by omega) r0, c0.dep (x.sub (by omega) (by omega))⟩⟩
theorem Lay2.no (h : Lay2 S a) : Is2 (noT S) a := by
  obtain ⟨h0, ⟨r0, c0⟩⟩ := h
  exact ⟨h0, ⟨r0, c0.no⟩⟩
def Lay4 (S : JS) (a : Nat) : Prop := (a ∈ sL S ∧ sK S a = 4) ∧ (sR S a 0 = some (a + 1) ∧ Ar0 11 S (a + 1) 500)
theorem Lay4.dep (h : Lay4 S a) (x : SD S S' a (a + 2)) : Lay4 S' a := by
  obtain ⟨h0, ⟨r0, c0⟩⟩ := h
  exact ⟨o_dep h0 x (by omega) (by omega), ⟨x.R (by omega) (by omega) r0, c0.dep (x.sub (by omega) (by omega))⟩⟩
theorem Lay4.no (h : Lay4 S a) : Is4 (noT S) a := by
  obtain ⟨h0, ⟨r0, c0⟩⟩ := h
  exact ⟨h0, ⟨r0, c0.no⟩⟩
def Lay7 (S : JS) (a : Nat) : Prop := (a ∈ sL S ∧ sK S a = 7) ∧ (sR S a 6 = some (a + 1) ∧ Ar0 11 S (a + 1) 8) ∧ (sR S a 7 = some (a + 2) ∧ Ar0 11 S (a + 2) 6) ∧ (sR S a 8 = some (a + 3) ∧ Ar0 11 S (a + 3) 12) ∧ (sR S a 9 = some (a + 4) ∧ Ar0 11 S (a + 4) 12) ∧ (sR S a 10 = some (a + 5) ∧ Ar0 11 S (a + 5) 60) ∧ (sR S a 11 = some (a + 6) ∧ Ar0 11 S (a + 6) 60)
theorem Lay7.dep (h : Lay7 S a) (x : SD S S' a (a + 7)) : Lay7 S' a := by
  obtain ⟨h0, ⟨r0, c0⟩, ⟨r1, c1⟩, ⟨r2, c2⟩, ⟨r3, c3⟩, ⟨r4, c4⟩, ⟨r5, c5⟩⟩ := h
  exact ⟨o_dep h0 x (by omega) (by omega), ⟨x.R (by omega) (by omega) r0, c0.dep (x.sub (by omega) (by omega))⟩, ⟨x.R (by omega) (by omega) r1, c1.dep (x.sub (by omega) (by omega))⟩, ⟨x.R (by omega) (by omega) r2, c2.dep (x.sub (by omega) (by omega))⟩, ⟨x.R (by omega) (by omega) r3, c3.dep (x.sub (by omega) (by omega))⟩, ⟨x.R (by omega) (by omega) r4, c4.dep (x.sub (by omega) (by omega))⟩, ⟨x.R (by omega) (by omega) r5, c5.dep (x.sub (by omega) (by omega))⟩⟩
theorem Lay7.no (h : Lay7 S a) : Is7 (noT S) a := by
  obtain ⟨h0, ⟨r0, c0⟩, ⟨r1, c1⟩, ⟨r2, c2⟩, ⟨r3, c3⟩, ⟨r4, c4⟩, ⟨r5, c5⟩⟩ := h
  exact ⟨h0, ⟨r0, c0.no⟩, ⟨r1, c1.no⟩, ⟨r2, c2.no⟩, ⟨r3, c3.no⟩, ⟨r4, c4.no⟩, ⟨r5, c5.no⟩⟩
def Lay6 (S : JS) (a : Nat) : Prop := (a ∈ sL S ∧ sK S a = 6) ∧ (sR S a 0 = some (a + 1) ∧ Lay7 S (a + 1))
theorem Lay6.dep (h : Lay6 S a) (x : SD S S' a (a + 8)) : Lay6 S' a := by
  obtain ⟨h0, ⟨r0, c0⟩⟩ := h
  exact ⟨o_dep h0 x (by omega) (by omega), ⟨x.R (by omega) (by omega) r0, c0.dep (x.sub (by omega) (by omega))⟩⟩
theorem Lay6.no (h : Lay6 S a) : Is6 (noT S) a := by
  obtain ⟨h0, ⟨r0, c0⟩⟩ := h
  exact ⟨h0, ⟨r0, c0.no⟩⟩
def Lay3 (S : JS) (a : Nat) : Prop := (a ∈ sL S ∧ sK S a = 3) ∧ (sR S a 5 = some (a + 1) ∧ Ar0 11 S (a + 1) 24) ∧ (sR S a 6 = some (a + 2) ∧ Ar0 11 S (a + 2) 24) ∧ (sR S a 8 = some (a + 3) ∧ Ar0 11 S (a + 3) 12) ∧ (sR S a 9 = some (a + 4) ∧ Ar0 11 S (a + 4) 12) ∧ (sR S a 10 = some (a + 5) ∧ Lay0 S (a + 5)) ∧ (sR S a 11 = some (a + 10) ∧ Lay7 S (a + 10)) ∧ (sR S a 12 = some (a + 17) ∧ Lay7 S (a + 17))
theorem Lay3.dep (h : Lay3 S a) (x : SD S S' a (a + 24)) : Lay3 S' a := by
  obtain ⟨h0, ⟨r0, c0⟩, ⟨r1, c1⟩, ⟨r2, c2⟩, ⟨r3, c3⟩, ⟨r4, c4⟩, ⟨r5, c5⟩, ⟨r6, c6⟩⟩ := h
  exact ⟨o_dep h0 x (by omega) (by omega), ⟨x.R (by omega) (by omega) r0, c0.dep (x.sub (by omega) (by omega))⟩, ⟨x.R (by omega) (by omega) r1, c1.dep (x.sub (by omega) (by omega))⟩, ⟨x.R (by omega) (by omega) r2, c2.dep (x.sub (by omega) (by omega))⟩, ⟨x.R (by omega) (by omega) r3, c3.dep (x.sub (by omega) (by omega))⟩, ⟨x.R (by omega) (by omega) r4, c4.dep (x.sub (by omega) (by omega))⟩, ⟨x.R (by omega) (by omega) r5, c5.dep (x.sub (by omega) (by omega))⟩, ⟨x.R (by omega) (by omega) r6, c6.dep (x.sub (by omega) (by omega))⟩⟩
theorem Lay3.no (h : Lay3 S a) : Is3 (noT S) a := by
  obtain ⟨h0, ⟨r0, c0⟩, ⟨r1, c1⟩, ⟨r2, c2⟩, ⟨r3, c3⟩, ⟨r4, c4⟩, ⟨r5, c5⟩, ⟨r6, c6⟩⟩ := h
  exact ⟨h0, ⟨r0, c0.no⟩, ⟨r1, c1.no⟩, ⟨r2, c2.no⟩, ⟨r3, c3.no⟩, ⟨r4, c4.no⟩, ⟨r5, c5.no⟩, ⟨r6, c6.no⟩⟩
def Lay5 (S : JS) (a : Nat) : Prop := (a ∈ sL S ∧ sK S a = 5) ∧ (sR S a 0 = some (a + 1) ∧ Lay2 S (a + 1)) ∧ (sR S a 1 = some (a + 3) ∧ Lay3 S (a + 3))
theorem Lay5.dep (h : Lay5 S a) (x : SD S S' a (a + 27)) : Lay5 S' a := by
  obtain ⟨h0, ⟨r0, c0⟩, ⟨r1, c1⟩⟩ := h
  exact ⟨o_dep h0 x (by omega) (by omega), ⟨x.R (by omega) (by omega) r0, c0.dep (x.sub (by omega) (by omega))⟩, ⟨x.R (by omega) (by omega) r1, c1.dep (x.sub (by omega) (by omega))⟩⟩
theorem Lay5.no (h : Lay5 S a) : Is5 (noT S) a (a + 3) := by
  obtain ⟨h0, ⟨r0, c0⟩, ⟨r1, c1⟩⟩ := h
  exact ⟨h0, ⟨r0, c0.no⟩, ⟨r1, c1.no⟩⟩
def Lay1 (S : JS) (a : Nat) : Prop := (a ∈ sL S ∧ sK S a = 1) ∧ (sR S a 0 = some (a + 1) ∧ Ar0 13 S (a + 1) 8) ∧ ∀ i : Nat, i < 8 → sR S (a + 1) i = some (a + 2 + 7 * i) ∧ Lay7 S (a + 2 + 7 * i)
theorem Lay1.dep (h : Lay1 S a) (x : SD S S' a (a + 58)) : Lay1 S' a := by
  obtain ⟨h0, ⟨r0, c0⟩, hs⟩ := h
  exact ⟨o_dep h0 x (by omega) (by omega), ⟨x.R (by omega) (by omega) r0, c0.dep (x.sub (by omega) (by omega))⟩, fun i hi => ⟨x.R (by omega) (by omega) (hs i hi).1, (hs i hi).2.dep (x.sub (by omega) (by omega))⟩⟩
theorem Lay1.no (h : Lay1 S a) : Is1 (noT S) a := by
  obtain ⟨h0, ⟨r0, c0⟩, hs⟩ := h
  exact ⟨h0, ⟨r0, c0.no⟩, fun i hi => ⟨(hs i hi).1, (hs i hi).2.no⟩⟩
def Lay8 (S : JS) (a : Nat) : Prop := (a ∈ sL S ∧ sK S a = 8) ∧ (sR S a 0 = some (a + 1) ∧ Lay5 S (a + 1)) ∧ (sR S a 1 = some (a + 28) ∧ Lay4 S (a + 28)) ∧ (sR S a 2 = some (a + 30) ∧ Lay1 S (a + 30)) ∧ (sR S a 3 = some (a + 88) ∧ Lay6 S (a + 88)) ∧ (sR S a 4 = some (a + 96) ∧ Lay6 S (a + 96)) ∧ (sR S a 5 = some (a + 104) ∧ Lay3 S (a + 104))
theorem Lay8.dep (h : Lay8 S a) (x : SD S S' a (a + 128)) : Lay8 S' a := by
  obtain ⟨h0, ⟨r0, c0⟩, ⟨r1, c1⟩, ⟨r2, c2⟩, ⟨r3, c3⟩, ⟨r4, c4⟩, ⟨r5, c5⟩⟩ := h
  exact ⟨o_dep h0 x (by omega) (by omega), ⟨x.R (by omega) (by omega) r0, c0.dep (x.sub (by omega) (by omega))⟩, ⟨x.R (by omega) (by omega) r1, c1.dep (x.sub (by omega) (by omega))⟩, ⟨x.R (by omega) (by omega) r2, c2.dep (x.sub (by omega) (by omega))⟩, ⟨x.R (by omega) (by omega) r3, c3.dep (x.sub (by omega) (by omega))⟩, ⟨x.R (by omega) (by omega) r4, c4.dep (x.sub (by omega) (by omega))⟩, ⟨x.R (by omega) (by omega) r5, c5.dep (x.sub (by omega) (by omega))⟩⟩
theorem Lay8.no (h : Lay8 S a) : Is8 (noT S) a (a + 104) (a + 4) := by
  obtain ⟨h0, ⟨r0, c0⟩, ⟨r1, c1⟩, ⟨r2, c2⟩, ⟨r3, c3⟩, ⟨r4, c4⟩, ⟨r5, c5⟩⟩ := h
  exact ⟨h0, ⟨r0, c0.no⟩, ⟨r1, c1.no⟩, ⟨r2, c2.no⟩, ⟨r3, c3.no⟩, ⟨r4, c4.no⟩, ⟨r5, c5.no⟩, Or.inl ⟨rfl, rfl⟩, rfl⟩
end LAYS
theorem r_aast1 {Ω : JO} {Y : JM} {F : JF} {k n pc pc' : Nat} {lv : List (Nat × Value)} {st : List Value} {I : JI} {S : JS} {a N v j : Nat} {i : Int32} (hd : decode Y.2.1 pc = .ok (.aastore, 1)) (hA : a ∈ sL S ∧ sK S a = 13 ∧ sN S a = N) (hv : v ∈ sL S ∧ sK S v = 7) (hin : vp_in i N) (hj : i.toNatClampNeg = j) (hp : pc + 1 = pc') (h : AA Ω Y F k n pc' lv st I (stR S a j (some v))) : AA Ω Y F k n pc lv (.ref v :: .int i :: .ref a :: st) I S := by
  subst hj
  exact r_aast0 hd hA hv hin hp h
set_option maxHeartbeats 4000000 in
theorem c_X7_init {Ω : JO} {I : JI} {S : JS} {Q : JQ} {a : Nat} (ho : a ∈ sL S ∧ sK S a = 7) (hT : sT S = some (a + 1)) (hQ : ∀ (I' : JI) (S' : JS), Lay7 S' a → EX S S' I I' a → sT S' = some (a + 7) → Q (.inl none) I' S') : Call Ω m_X7_init [.ref a] I S Q := by
  refine call_of (by decide +kernel) rfl (Nat.le_of_ble_eq_true rfl) ?_
  change AA Ω m_X7_init (FQ Ω m_X7_init Q) 0 0 0 [(0, .ref a)] [] I S
  refine r_aload_n (pc' := 1) dX7_init_0 rfl 0 rfl rfl ?_
  refine r_objInit (pc' := 4) dX7_init_1 ow_X7_3 ow_i ow_c (by decide) (by decide) rfl ?_
  refine r_aload_n (pc' := 5) dX7_init_4 rfl 0 rfl rfl ?_
  refine r_iconst (pc' := 6) (v := 0) dX7_init_5 (by decide) rfl ?_
  refine r_putI (pc' := 9) dX7_init_6 fa_X7_9 ho rfl rfl ?_
  refine r_aload_n (pc' := 10) dX7_init_9 rfl 0 rfl rfl ?_
  refine r_iconst (pc' := 11) (v := 0) dX7_init_10 (by decide) rfl ?_
  refine r_putI (pc' := 14) dX7_init_11 fa_X7_15 ho rfl rfl ?_
  refine r_aload_n (pc' := 15) dX7_init_14 rfl 0 rfl rfl ?_
  refine r_iconst (pc' := 16) (v := 0) dX7_init_15 (by decide) rfl ?_
  refine r_putI (pc' := 19) dX7_init_16 fa_X7_18 ho rfl rfl ?_
  refine r_aload_n (pc' := 20) dX7_init_19 rfl 0 rfl rfl ?_
  refine r_iconst (pc' := 21) (v := 0) dX7_init_20 (by decide) rfl ?_
  refine r_putI (pc' := 24) dX7_init_21 fa_X7_21 ho rfl rfl ?_
  refine r_aload_n (pc' := 25) dX7_init_24 rfl 0 rfl rfl ?_
  refine r_iconst (pc' := 26) (v := 0) dX7_init_25 (by decide) rfl ?_
  refine r_putI (pc' := 29) dX7_init_26 fa_X7_24 ho rfl rfl ?_
  refine r_aload_n (pc' := 30) dX7_init_29 rfl 0 rfl rfl ?_
  refine r_iconst (pc' := 31) (v := 0) dX7_init_30 (by decide) rfl ?_
  refine r_putZ (pc' := 34) dX7_init_31 fa_X7_27 ho rfl (Or.inl rfl) rfl ?_
  refine r_aload_n (pc' := 35) dX7_init_34 rfl 0 rfl rfl ?_
  refine r_bipush (pc' := 37) (v := 8) dX7_init_35 (by decide) rfl ?_
  refine r_newI (z := a + 1) (N := 8) (pc' := 39) dX7_init_37 hT (by decide) (by decide) (by decide) (Nat.le_of_ble_eq_true rfl) (Nat.le_of_ble_eq_true rfl) rfl ?_
  have ho7 := o_nw (z := a + 1) (ki := 11) (n := 8) ho (by omega)
  refine r_putR (pc' := 42) dX7_init_39 fa_X7_31 ho7 rfl ⟨rfl, rfl⟩ (fun h => ⟨rfl, _, _, _, rfl, rfl⟩) rfl ?_
  refine r_aload_n (pc' := 43) dX7_init_42 rfl 0 rfl rfl ?_
  refine r_bipush (pc' := 45) (v := 6) dX7_init_43 (by decide) rfl ?_
  refine r_newI (z := a + 2) (N := 6) (pc' := 47) dX7_init_45 rfl (by decide) (by decide) (by decide) (Nat.le_of_ble_eq_true rfl) (Nat.le_of_ble_eq_true rfl) rfl ?_
  have ho9 := o_nw (z := a + 2) (ki := 11) (n := 6) ho7 (by omega)
  refine r_putR (pc' := 50) dX7_init_47 fa_X7_35 ho9 rfl ⟨rfl, rfl⟩ (fun h => ⟨rfl, _, _, _, rfl, rfl⟩) rfl ?_
  refine r_aload_n (pc' := 51) dX7_init_50 rfl 0 rfl rfl ?_
  refine r_bipush (pc' := 53) (v := 12) dX7_init_51 (by decide) rfl ?_
  refine r_newI (z := a + 3) (N := 12) (pc' := 55) dX7_init_53 rfl (by decide) (by decide) (by decide) (Nat.le_of_ble_eq_true rfl) (Nat.le_of_ble_eq_true rfl) rfl ?_
  have ho11 := o_nw (z := a + 3) (ki := 11) (n := 12) ho9 (by omega)
  refine r_putR (pc' := 58) dX7_init_55 fa_X7_38 ho11 rfl ⟨rfl, rfl⟩ (fun h => ⟨rfl, _, _, _, rfl, rfl⟩) rfl ?_
  refine r_aload_n (pc' := 59) dX7_init_58 rfl 0 rfl rfl ?_
  refine r_bipush (pc' := 61) (v := 12) dX7_init_59 (by decide) rfl ?_
  refine r_newI (z := a + 4) (N := 12) (pc' := 63) dX7_init_61 rfl (by decide) (by decide) (by decide) (Nat.le_of_ble_eq_true rfl) (Nat.le_of_ble_eq_true rfl) rfl ?_
  have ho13 := o_nw (z := a + 4) (ki := 11) (n := 12) ho11 (by omega)
  refine r_putR (pc' := 66) dX7_init_63 fa_X7_41 ho13 rfl ⟨rfl, rfl⟩ (fun h => ⟨rfl, _, _, _, rfl, rfl⟩) rfl ?_
  refine r_aload_n (pc' := 67) dX7_init_66 rfl 0 rfl rfl ?_
  refine r_bipush (pc' := 69) (v := 60) dX7_init_67 (by decide) rfl ?_
  refine r_newI (z := a + 5) (N := 60) (pc' := 71) dX7_init_69 rfl (by decide) (by decide) (by decide) (Nat.le_of_ble_eq_true rfl) (Nat.le_of_ble_eq_true rfl) rfl ?_
  have ho15 := o_nw (z := a + 5) (ki := 11) (n := 60) ho13 (by omega)
  refine r_putR (pc' := 74) dX7_init_71 fa_X7_44 ho15 rfl ⟨rfl, rfl⟩ (fun h => ⟨rfl, _, _, _, rfl, rfl⟩) rfl ?_
  refine r_aload_n (pc' := 75) dX7_init_74 rfl 0 rfl rfl ?_
  refine r_bipush (pc' := 77) (v := 60) dX7_init_75 (by decide) rfl ?_
  refine r_newI (z := a + 6) (N := 60) (pc' := 79) dX7_init_77 rfl (by decide) (by decide) (by decide) (Nat.le_of_ble_eq_true rfl) (Nat.le_of_ble_eq_true rfl) rfl ?_
  have ho17 := o_nw (z := a + 6) (ki := 11) (n := 60) ho15 (by omega)
  refine r_putR (pc' := 82) dX7_init_79 fa_X7_47 ho17 rfl ⟨rfl, rfl⟩ (fun h => ⟨rfl, _, _, _, rfl, rfl⟩) rfl ?_
  refine r_ret dX7_init_82 rfl (by decide) (by decide) ?_
  refine hQ _ _ ?_ ?_ ?_
  · exact ⟨ho17, ⟨by rw [stR_R2 (by decide), nwS_Ro (by omega), stR_R2 (by decide), nwS_Ro (by omega), stR_R2 (by decide), nwS_Ro (by omega), stR_R2 (by decide), nwS_Ro (by omega), stR_R2 (by decide), nwS_Ro (by omega), stR_R1], Ar0_z.dep (SD_st (SD_nw (SD_st (SD_nw (SD_st (SD_nw (SD_st (SD_nw (SD_st (SD_nw (SD_st SD_rf (by omega)) (by omega)) (by omega)) (by omega)) (by omega)) (by omega)) (by omega)) (by omega)) (by omega)) (by omega)) (by omega))⟩, ⟨by rw [stR_R2 (by decide), nwS_Ro (by omega), stR_R2 (by decide), nwS_Ro (by omega), stR_R2 (by decide), nwS_Ro (by omega), stR_R2 (by decide), nwS_Ro (by omega), stR_R1], Ar0_z.dep (SD_st (SD_nw (SD_st (SD_nw (SD_st (SD_nw (SD_st (SD_nw (SD_st SD_rf (by omega)) (by omega)) (by omega)) (by omega)) (by omega)) (by omega)) (by omega)) (by omega)) (by omega))⟩, ⟨by rw [stR_R2 (by decide), nwS_Ro (by omega), stR_R2 (by decide), nwS_Ro (by omega), stR_R2 (by decide), nwS_Ro (by omega), stR_R1], Ar0_z.dep (SD_st (SD_nw (SD_st (SD_nw (SD_st (SD_nw (SD_st SD_rf (by omega)) (by omega)) (by omega)) (by omega)) (by omega)) (by omega)) (by omega))⟩, ⟨by rw [stR_R2 (by decide), nwS_Ro (by omega), stR_R2 (by decide), nwS_Ro (by omega), stR_R1], Ar0_z.dep (SD_st (SD_nw (SD_st (SD_nw (SD_st SD_rf (by omega)) (by omega)) (by omega)) (by omega)) (by omega))⟩, ⟨by rw [stR_R2 (by decide), nwS_Ro (by omega), stR_R1], Ar0_z.dep (SD_st (SD_nw (SD_st SD_rf (by omega)) (by omega)) (by omega))⟩, ⟨by rw [stR_R1], Ar0_z.dep (SD_st SD_rf (by omega))⟩⟩
  · exact EX_st (EX_nw (EX_st (EX_nw (EX_st (EX_nw (EX_st (EX_nw (EX_st (EX_nw (EX_st (EX_nw (EX_pI (EX_pI (EX_pI (EX_pI (EX_pI (EX_pI EX_rf (by omega)) (by omega)) (by omega)) (by omega)) (by omega)) (by omega)) (by omega)) (by omega)) (by omega)) (by omega)) (by omega)) (by omega)) (by omega)) (by omega)) (by omega)) (by omega)) (by omega)) (by omega)
  · exact rfl
set_option maxHeartbeats 4000000 in
theorem c_X0_init {Ω : JO} {I : JI} {S : JS} {Q : JQ} {a : Nat} (ho : a ∈ sL S ∧ sK S a = 0) (hT : sT S = some (a + 1)) (hQ : ∀ (I' : JI) (S' : JS), Lay0 S' a → EX S S' I I' a → sT S' = some (a + 5) → Q (.inl none) I' S') : Call Ω m_X0_init [.ref a] I S Q := by
  refine call_of (by decide +kernel) rfl (Nat.le_of_ble_eq_true rfl) ?_
  change AA Ω m_X0_init (FQ Ω m_X0_init Q) 0 0 0 [(0, .ref a)] [] I S
  refine r_aload_n (pc' := 1) dX0_init_0 rfl 0 rfl rfl ?_
  refine r_objInit (pc' := 4) dX0_init_1 ow_X0_3 ow_i ow_c (by decide) (by decide) rfl ?_
  refine r_aload_n (pc' := 5) dX0_init_4 rfl 0 rfl rfl ?_
  refine r_sipush (pc' := 8) (v := 500) dX0_init_5 (by decide) rfl ?_
  refine r_newI (z := a + 1) (N := 500) (pc' := 10) dX0_init_8 hT (by decide) (by decide) (by decide) (Nat.le_of_ble_eq_true rfl) (Nat.le_of_ble_eq_true rfl) rfl ?_
  have ho1 := o_nw (z := a + 1) (ki := 11) (n := 500) ho (by omega)
  refine r_putR (pc' := 13) dX0_init_10 fa_X0_9 ho1 rfl ⟨rfl, rfl⟩ (fun h => ⟨rfl, _, _, _, rfl, rfl⟩) rfl ?_
  refine r_aload_n (pc' := 14) dX0_init_13 rfl 0 rfl rfl ?_
  refine r_iconst (pc' := 15) (v := 0) dX0_init_14 (by decide) rfl ?_
  refine r_putI (pc' := 18) dX0_init_15 fa_X0_15 ho1 rfl rfl ?_
  refine r_aload_n (pc' := 19) dX0_init_18 rfl 0 rfl rfl ?_
  refine r_sipush (pc' := 22) (v := 400) dX0_init_19 (by decide) rfl ?_
  refine r_newI (z := a + 2) (N := 400) (pc' := 24) dX0_init_22 rfl (by decide) (by decide) (by decide) (Nat.le_of_ble_eq_true rfl) (Nat.le_of_ble_eq_true rfl) rfl ?_
  have ho4 := o_nw (z := a + 2) (ki := 11) (n := 400) ho1 (by omega)
  refine r_putR (pc' := 27) dX0_init_24 fa_X0_19 ho4 rfl ⟨rfl, rfl⟩ (fun h => ⟨rfl, _, _, _, rfl, rfl⟩) rfl ?_
  refine r_aload_n (pc' := 28) dX0_init_27 rfl 0 rfl rfl ?_
  refine r_iconst (pc' := 29) (v := 0) dX0_init_28 (by decide) rfl ?_
  refine r_putI (pc' := 32) dX0_init_29 fa_X0_22 ho4 rfl rfl ?_
  refine r_aload_n (pc' := 33) dX0_init_32 rfl 0 rfl rfl ?_
  refine r_iconst (pc' := 34) (v := 0) dX0_init_33 (by decide) rfl ?_
  refine r_putI (pc' := 37) dX0_init_34 fa_X0_25 ho4 rfl rfl ?_
  refine r_aload_n (pc' := 38) dX0_init_37 rfl 0 rfl rfl ?_
  refine r_iconst (pc' := 39) (v := 3) dX0_init_38 (by decide) rfl ?_
  refine r_newI (z := a + 3) (N := 3) (pc' := 41) dX0_init_39 rfl (by decide) (by decide) (by decide) (Nat.le_of_ble_eq_true rfl) (Nat.le_of_ble_eq_true rfl) rfl ?_
  have ho8 := o_nw (z := a + 3) (ki := 11) (n := 3) ho4 (by omega)
  refine r_putR (pc' := 44) dX0_init_41 fa_X0_28 ho8 rfl ⟨rfl, rfl⟩ (fun h => ⟨rfl, _, _, _, rfl, rfl⟩) rfl ?_
  refine r_aload_n (pc' := 45) dX0_init_44 rfl 0 rfl rfl ?_
  refine r_iconst (pc' := 46) (v := 3) dX0_init_45 (by decide) rfl ?_
  refine r_newI (z := a + 4) (N := 3) (pc' := 48) dX0_init_46 rfl (by decide) (by decide) (by decide) (Nat.le_of_ble_eq_true rfl) (Nat.le_of_ble_eq_true rfl) rfl ?_
  have ho10 := o_nw (z := a + 4) (ki := 11) (n := 3) ho8 (by omega)
  refine r_putR (pc' := 51) dX0_init_48 fa_X0_31 ho10 rfl ⟨rfl, rfl⟩ (fun h => ⟨rfl, _, _, _, rfl, rfl⟩) rfl ?_
  refine r_aload_n (pc' := 52) dX0_init_51 rfl 0 rfl rfl ?_
  refine r_iconst (pc' := 53) (v := 0) dX0_init_52 (by decide) rfl ?_
  refine r_putI (pc' := 56) dX0_init_53 fa_X0_34 ho10 rfl rfl ?_
  refine r_ret dX0_init_56 rfl (by decide) (by decide) ?_
  refine hQ _ _ ?_ ?_ ?_
  · exact ⟨ho10, ⟨by rw [stR_R2 (by decide), nwS_Ro (by omega), stR_R2 (by decide), nwS_Ro (by omega), stR_R2 (by decide), nwS_Ro (by omega), stR_R1], Ar0_z.dep (SD_st (SD_nw (SD_st (SD_nw (SD_st (SD_nw (SD_st SD_rf (by omega)) (by omega)) (by omega)) (by omega)) (by omega)) (by omega)) (by omega))⟩, ⟨by rw [stR_R2 (by decide), nwS_Ro (by omega), stR_R2 (by decide), nwS_Ro (by omega), stR_R1], Ar0_z.dep (SD_st (SD_nw (SD_st (SD_nw (SD_st SD_rf (by omega)) (by omega)) (by omega)) (by omega)) (by omega))⟩, ⟨by rw [stR_R2 (by decide), nwS_Ro (by omega), stR_R1], Ar0_z.dep (SD_st (SD_nw (SD_st SD_rf (by omega)) (by omega)) (by omega))⟩, ⟨by rw [stR_R1], Ar0_z.dep (SD_st SD_rf (by omega))⟩⟩
  · exact EX_pI (EX_st (EX_nw (EX_st (EX_nw (EX_pI (EX_pI (EX_st (EX_nw (EX_pI (EX_st (EX_nw EX_rf (by omega)) (by omega)) (by omega)) (by omega)) (by omega)) (by omega)) (by omega)) (by omega)) (by omega)) (by omega)) (by omega)) (by omega)
  · exact rfl
set_option maxHeartbeats 4000000 in
theorem c_X2_init {Ω : JO} {I : JI} {S : JS} {Q : JQ} {a : Nat} (ho : a ∈ sL S ∧ sK S a = 2) (hT : sT S = some (a + 1)) (hQ : ∀ (I' : JI) (S' : JS), Lay2 S' a → EX S S' I I' a → sT S' = some (a + 2) → I' a 1 = 0 → Q (.inl none) I' S') : Call Ω m_X2_init [.ref a] I S Q := by
  refine call_of (by decide +kernel) rfl (Nat.le_of_ble_eq_true rfl) ?_
  change AA Ω m_X2_init (FQ Ω m_X2_init Q) 0 0 0 [(0, .ref a)] [] I S
  refine r_aload_n (pc' := 1) dX2_init_0 rfl 0 rfl rfl ?_
  refine r_objInit (pc' := 4) dX2_init_1 ow_X2_3 ow_i ow_c (by decide) (by decide) rfl ?_
  refine r_aload_n (pc' := 5) dX2_init_4 rfl 0 rfl rfl ?_
  refine r_sipush (pc' := 8) (v := 500) dX2_init_5 (by decide) rfl ?_
  refine r_newI (z := a + 1) (N := 500) (pc' := 10) dX2_init_8 hT (by decide) (by decide) (by decide) (Nat.le_of_ble_eq_true rfl) (Nat.le_of_ble_eq_true rfl) rfl ?_
  have ho1 := o_nw (z := a + 1) (ki := 11) (n := 500) ho (by omega)
  refine r_putR (pc' := 13) dX2_init_10 fa_X2_9 ho1 rfl ⟨rfl, rfl⟩ (fun h => ⟨rfl, _, _, _, rfl, rfl⟩) rfl ?_
  refine r_aload_n (pc' := 14) dX2_init_13 rfl 0 rfl rfl ?_
  refine r_iconst (pc' := 15) (v := 0) dX2_init_14 (by decide) rfl ?_
  refine r_putI (pc' := 18) dX2_init_15 fa_X2_15 ho1 rfl rfl ?_
  refine r_aload_n (pc' := 19) dX2_init_18 rfl 0 rfl rfl ?_
  refine r_iconst (pc' := 20) (v := 0) dX2_init_19 (by decide) rfl ?_
  refine r_putI (pc' := 23) dX2_init_20 fa_X2_19 ho1 rfl rfl ?_
  refine r_aload_n (pc' := 24) dX2_init_23 rfl 0 rfl rfl ?_
  refine r_iconst (pc' := 25) (v := 0) dX2_init_24 (by decide) rfl ?_
  refine r_putI (pc' := 28) dX2_init_25 fa_X2_22 ho1 rfl rfl ?_
  refine r_aload_n (pc' := 29) dX2_init_28 rfl 0 rfl rfl ?_
  refine r_iconst (pc' := 30) (v := 0) dX2_init_29 (by decide) rfl ?_
  refine r_putI (pc' := 33) dX2_init_30 fa_X2_25 ho1 rfl rfl ?_
  refine r_aload_n (pc' := 34) dX2_init_33 rfl 0 rfl rfl ?_
  refine r_iconst (pc' := 35) (v := 0) dX2_init_34 (by decide) rfl ?_
  refine r_putI (pc' := 38) dX2_init_35 fa_X2_28 ho1 rfl rfl ?_
  refine r_aload_n (pc' := 39) dX2_init_38 rfl 0 rfl rfl ?_
  refine r_iconst (pc' := 40) (v := 0) dX2_init_39 (by decide) rfl ?_
  refine r_putI (pc' := 43) dX2_init_40 fa_X2_31 ho1 rfl rfl ?_
  refine r_ret dX2_init_43 rfl (by decide) (by decide) ?_
  refine hQ _ _ ?_ ?_ ?_ ?_
  · exact ⟨ho1, ⟨by rw [stR_R1], Ar0_z.dep (SD_st SD_rf (by omega))⟩⟩
  · exact EX_pI (EX_pI (EX_pI (EX_pI (EX_pI (EX_pI (EX_st (EX_nw EX_rf (by omega)) (by omega)) (by omega)) (by omega)) (by omega)) (by omega)) (by omega)) (by omega)
  · exact rfl
  · rw [stI_aj (by decide), stI_aj (by decide), stI_aj (by decide), stI_aj (by decide), stI_aj (by decide), stI_at]
set_option maxHeartbeats 4000000 in
theorem c_X4_init {Ω : JO} {I : JI} {S : JS} {Q : JQ} {a : Nat} (ho : a ∈ sL S ∧ sK S a = 4) (hT : sT S = some (a + 1)) (hQ : ∀ (I' : JI) (S' : JS), Lay4 S' a → EX S S' I I' a → sT S' = some (a + 2) → I' a 1 = 0 → Q (.inl none) I' S') : Call Ω m_X4_init [.ref a] I S Q := by
  refine call_of (by decide +kernel) rfl (Nat.le_of_ble_eq_true rfl) ?_
  change AA Ω m_X4_init (FQ Ω m_X4_init Q) 0 0 0 [(0, .ref a)] [] I S
  refine r_aload_n (pc' := 1) dX4_init_0 rfl 0 rfl rfl ?_
  refine r_objInit (pc' := 4) dX4_init_1 ow_X4_3 ow_i ow_c (by decide) (by decide) rfl ?_
  refine r_aload_n (pc' := 5) dX4_init_4 rfl 0 rfl rfl ?_
  refine r_sipush (pc' := 8) (v := 500) dX4_init_5 (by decide) rfl ?_
  refine r_newI (z := a + 1) (N := 500) (pc' := 10) dX4_init_8 hT (by decide) (by decide) (by decide) (Nat.le_of_ble_eq_true rfl) (Nat.le_of_ble_eq_true rfl) rfl ?_
  have ho1 := o_nw (z := a + 1) (ki := 11) (n := 500) ho (by omega)
  refine r_putR (pc' := 13) dX4_init_10 fa_X4_9 ho1 rfl ⟨rfl, rfl⟩ (fun h => ⟨rfl, _, _, _, rfl, rfl⟩) rfl ?_
  refine r_aload_n (pc' := 14) dX4_init_13 rfl 0 rfl rfl ?_
  refine r_iconst (pc' := 15) (v := 0) dX4_init_14 (by decide) rfl ?_
  refine r_putI (pc' := 18) dX4_init_15 fa_X4_15 ho1 rfl rfl ?_
  refine r_ret dX4_init_18 rfl (by decide) (by decide) ?_
  refine hQ _ _ ?_ ?_ ?_ ?_
  · exact ⟨ho1, ⟨by rw [stR_R1], Ar0_z.dep (SD_st SD_rf (by omega))⟩⟩
  · exact EX_pI (EX_st (EX_nw EX_rf (by omega)) (by omega)) (by omega)
  · exact rfl
  · rw [stI_at]
set_option maxHeartbeats 4000000 in
theorem c_X6_init {Ω : JO} {I : JI} {S : JS} {Q : JQ} {a : Nat} (ho : a ∈ sL S ∧ sK S a = 6) (hT : sT S = some (a + 1)) (hQ : ∀ (I' : JI) (S' : JS), Lay6 S' a → EX S S' I I' a → sT S' = some (a + 8) → I' a 1 = 0 → Q (.inl none) I' S') : Call Ω m_X6_init [.ref a] I S Q := by
  refine call_of (by decide +kernel) rfl (Nat.le_of_ble_eq_true rfl) ?_
  change AA Ω m_X6_init (FQ Ω m_X6_init Q) 0 0 0 [(0, .ref a)] [] I S
  refine r_aload_n (pc' := 1) dX6_init_0 rfl 0 rfl rfl ?_
  refine r_objInit (pc' := 4) dX6_init_1 ow_X6_1 ow_i ow_c (by decide) (by decide) rfl ?_
  refine r_aload_n (pc' := 5) dX6_init_4 rfl 0 rfl rfl ?_
  refine r_new (z := a + 1) (pc' := 8) dX6_init_5 cw_X6_7 nwX7 hT (Nat.le_of_ble_eq_true rfl) (Nat.le_of_ble_eq_true rfl) rfl ?_
  have ho1 := o_nw (z := a + 1) (ki := 7) (n := 0) ho (by omega)
  refine r_dup (pc' := 9) dX6_init_8 rfl rfl ?_
  refine r_callIN0 (pc' := 12) dX6_init_9 mb_X7_init mc_X7_init ln_X6_9 (by decide +kernel) rfl rfl (Nat.le_of_ble_eq_true rfl) rfl (c_X7_init o_z rfl ?_)
  intro I1 S1 y1 x1 t1
  refine cpV ?_
  have ho2 := o_ex x1 ho1 (by omega)
  refine r_putR (pc' := 15) dX6_init_12 fa_X6_10 ho2 rfl ⟨rfl, rfl⟩ (fun h => ⟨rfl, _, _, _, rfl, rfl⟩) rfl ?_
  refine r_aload_n (pc' := 16) dX6_init_15 rfl 0 rfl rfl ?_
  refine r_iconst (pc' := 17) (v := 0) dX6_init_16 (by decide) rfl ?_
  refine r_putZ (pc' := 20) dX6_init_17 fa_X6_16 ho2 rfl (Or.inl rfl) rfl ?_
  refine r_ret dX6_init_20 rfl (by decide) (by decide) ?_
  refine hQ _ _ ?_ ?_ ?_ ?_
  · exact ⟨ho2, ⟨by rw [stR_R1], y1.dep (SD_st SD_rf (by omega))⟩⟩
  · exact EX_pI (EX_st (EX_ex x1 (EX_nw EX_rf (by omega)) (by omega)) (by omega)) (by omega)
  · exact t1
  · rw [stI_at]
set_option maxHeartbeats 4000000 in
theorem c_X3_init {Ω : JO} {I : JI} {S : JS} {Q : JQ} {a : Nat} (ho : a ∈ sL S ∧ sK S a = 3) (hT : sT S = some (a + 1)) (hQ : ∀ (I' : JI) (S' : JS), Lay3 S' a → EX S S' I I' a → sT S' = some (a + 24) → Q (.inl none) I' S') : Call Ω m_X3_init [.ref a] I S Q := by
  refine call_of (by decide +kernel) rfl (Nat.le_of_ble_eq_true rfl) ?_
  change AA Ω m_X3_init (FQ Ω m_X3_init Q) 0 0 0 [(0, .ref a)] [] I S
  refine r_aload_n (pc' := 1) dX3_init_0 rfl 0 rfl rfl ?_
  refine r_objInit (pc' := 4) dX3_init_1 ow_X3_3 ow_i ow_c (by decide) (by decide) rfl ?_
  refine r_aload_n (pc' := 5) dX3_init_4 rfl 0 rfl rfl ?_
  refine r_iconst (pc' := 6) (v := 0) dX3_init_5 (by decide) rfl ?_
  refine r_putI (pc' := 9) dX3_init_6 fa_X3_9 ho rfl rfl ?_
  refine r_aload_n (pc' := 10) dX3_init_9 rfl 0 rfl rfl ?_
  refine r_iconst (pc' := 11) (v := 0) dX3_init_10 (by decide) rfl ?_
  refine r_putI (pc' := 14) dX3_init_11 fa_X3_15 ho rfl rfl ?_
  refine r_aload_n (pc' := 15) dX3_init_14 rfl 0 rfl rfl ?_
  refine r_iconst (pc' := 16) (v := 0) dX3_init_15 (by decide) rfl ?_
  refine r_putI (pc' := 19) dX3_init_16 fa_X3_18 ho rfl rfl ?_
  refine r_aload_n (pc' := 20) dX3_init_19 rfl 0 rfl rfl ?_
  refine r_bipush (pc' := 22) (v := 24) dX3_init_20 (by decide) rfl ?_
  refine r_putI (pc' := 25) dX3_init_22 fa_X3_21 ho rfl rfl ?_
  refine r_aload_n (pc' := 26) dX3_init_25 rfl 0 rfl rfl ?_
  refine r_iconst (pc' := 27) (v := 0) dX3_init_26 (by decide) rfl ?_
  refine r_putI (pc' := 30) dX3_init_27 fa_X3_24 ho rfl rfl ?_
  refine r_aload_n (pc' := 31) dX3_init_30 rfl 0 rfl rfl ?_
  refine r_bipush (pc' := 33) (v := 24) dX3_init_31 (by decide) rfl ?_
  refine r_newI (z := a + 1) (N := 24) (pc' := 35) dX3_init_33 hT (by decide) (by decide) (by decide) (Nat.le_of_ble_eq_true rfl) (Nat.le_of_ble_eq_true rfl) rfl ?_
  have ho6 := o_nw (z := a + 1) (ki := 11) (n := 24) ho (by omega)
  refine r_putR (pc' := 38) dX3_init_35 fa_X3_27 ho6 rfl ⟨rfl, rfl⟩ (fun h => ⟨rfl, _, _, _, rfl, rfl⟩) rfl ?_
  refine r_aload_n (pc' := 39) dX3_init_38 rfl 0 rfl rfl ?_
  refine r_bipush (pc' := 41) (v := 24) dX3_init_39 (by decide) rfl ?_
  refine r_newI (z := a + 2) (N := 24) (pc' := 43) dX3_init_41 rfl (by decide) (by decide) (by decide) (Nat.le_of_ble_eq_true rfl) (Nat.le_of_ble_eq_true rfl) rfl ?_
  have ho8 := o_nw (z := a + 2) (ki := 11) (n := 24) ho6 (by omega)
  refine r_putR (pc' := 46) dX3_init_43 fa_X3_31 ho8 rfl ⟨rfl, rfl⟩ (fun h => ⟨rfl, _, _, _, rfl, rfl⟩) rfl ?_
  refine r_aload_n (pc' := 47) dX3_init_46 rfl 0 rfl rfl ?_
  refine r_iconst (pc' := 48) (v := 0) dX3_init_47 (by decide) rfl ?_
  refine r_putI (pc' := 51) dX3_init_48 fa_X3_34 ho8 rfl rfl ?_
  refine r_aload_n (pc' := 52) dX3_init_51 rfl 0 rfl rfl ?_
  refine r_bipush (pc' := 54) (v := 12) dX3_init_52 (by decide) rfl ?_
  refine r_newI (z := a + 3) (N := 12) (pc' := 56) dX3_init_54 rfl (by decide) (by decide) (by decide) (Nat.le_of_ble_eq_true rfl) (Nat.le_of_ble_eq_true rfl) rfl ?_
  have ho11 := o_nw (z := a + 3) (ki := 11) (n := 12) ho8 (by omega)
  refine r_putR (pc' := 59) dX3_init_56 fa_X3_37 ho11 rfl ⟨rfl, rfl⟩ (fun h => ⟨rfl, _, _, _, rfl, rfl⟩) rfl ?_
  refine r_aload_n (pc' := 60) dX3_init_59 rfl 0 rfl rfl ?_
  refine r_bipush (pc' := 62) (v := 12) dX3_init_60 (by decide) rfl ?_
  refine r_newI (z := a + 4) (N := 12) (pc' := 64) dX3_init_62 rfl (by decide) (by decide) (by decide) (Nat.le_of_ble_eq_true rfl) (Nat.le_of_ble_eq_true rfl) rfl ?_
  have ho13 := o_nw (z := a + 4) (ki := 11) (n := 12) ho11 (by omega)
  refine r_putR (pc' := 67) dX3_init_64 fa_X3_40 ho13 rfl ⟨rfl, rfl⟩ (fun h => ⟨rfl, _, _, _, rfl, rfl⟩) rfl ?_
  refine r_aload_n (pc' := 68) dX3_init_67 rfl 0 rfl rfl ?_
  refine r_new (z := a + 5) (pc' := 71) dX3_init_68 cw_X3_43 nwX0 rfl (Nat.le_of_ble_eq_true rfl) (Nat.le_of_ble_eq_true rfl) rfl ?_
  have ho15 := o_nw (z := a + 5) (ki := 0) (n := 0) ho13 (by omega)
  refine r_dup (pc' := 72) dX3_init_71 rfl rfl ?_
  refine r_callIN0 (pc' := 75) dX3_init_72 mb_X0_init mc_X0_init ln_X3_45 (by decide +kernel) rfl rfl (Nat.le_of_ble_eq_true rfl) rfl (c_X0_init o_z rfl ?_)
  intro I1 S1 y1 x1 t1
  refine cpV ?_
  have ho16 := o_ex x1 ho15 (by omega)
  refine r_putR (pc' := 78) dX3_init_75 fa_X3_46 ho16 rfl ⟨rfl, rfl⟩ (fun h => ⟨rfl, _, _, _, rfl, rfl⟩) rfl ?_
  refine r_aload_n (pc' := 79) dX3_init_78 rfl 0 rfl rfl ?_
  refine r_new (z := a + 10) (pc' := 82) dX3_init_79 cw_X3_50 nwX7 t1 (Nat.le_of_ble_eq_true rfl) (Nat.le_of_ble_eq_true rfl) rfl ?_
  have ho18 := o_nw (z := a + 10) (ki := 7) (n := 0) ho16 (by omega)
  refine r_dup (pc' := 83) dX3_init_82 rfl rfl ?_
  refine r_callIN0 (pc' := 86) dX3_init_83 mb_X7_init mc_X7_init ln_X3_52 (by decide +kernel) rfl rfl (Nat.le_of_ble_eq_true rfl) rfl (c_X7_init o_z rfl ?_)
  intro I2 S2 y2 x2 t2
  refine cpV ?_
  have ho19 := o_ex x2 ho18 (by omega)
  refine r_putR (pc' := 89) dX3_init_86 fa_X3_53 ho19 rfl ⟨rfl, rfl⟩ (fun h => ⟨rfl, _, _, _, rfl, rfl⟩) rfl ?_
  refine r_aload_n (pc' := 90) dX3_init_89 rfl 0 rfl rfl ?_
  refine r_new (z := a + 17) (pc' := 93) dX3_init_90 cw_X3_50 nwX7 t2 (Nat.le_of_ble_eq_true rfl) (Nat.le_of_ble_eq_true rfl) rfl ?_
  have ho21 := o_nw (z := a + 17) (ki := 7) (n := 0) ho19 (by omega)
  refine r_dup (pc' := 94) dX3_init_93 rfl rfl ?_
  refine r_callIN0 (pc' := 97) dX3_init_94 mb_X7_init mc_X7_init ln_X3_52 (by decide +kernel) rfl rfl (Nat.le_of_ble_eq_true rfl) rfl (c_X7_init o_z rfl ?_)
  intro I3 S3 y3 x3 t3
  refine cpV ?_
  have ho22 := o_ex x3 ho21 (by omega)
  refine r_putR (pc' := 100) dX3_init_97 fa_X3_57 ho22 rfl ⟨rfl, rfl⟩ (fun h => ⟨rfl, _, _, _, rfl, rfl⟩) rfl ?_
  refine r_ret dX3_init_100 rfl (by decide) (by decide) ?_
  refine hQ _ _ ?_ ?_ ?_
  · exact ⟨ho22, ⟨by rw [stR_R2 (by decide), x3.R (by omega), nwS_Ro (by omega), stR_R2 (by decide), x2.R (by omega), nwS_Ro (by omega), stR_R2 (by decide), x1.R (by omega), nwS_Ro (by omega), stR_R2 (by decide), nwS_Ro (by omega), stR_R2 (by decide), nwS_Ro (by omega), stR_R2 (by decide), nwS_Ro (by omega), stR_R1], Ar0_z.dep (SD_st (SD_ex x3 (SD_nw (SD_st (SD_ex x2 (SD_nw (SD_st (SD_ex x1 (SD_nw (SD_st (SD_nw (SD_st (SD_nw (SD_st (SD_nw (SD_st SD_rf (by omega)) (by omega)) (by omega)) (by omega)) (by omega)) (by omega)) (by omega)) (by omega)) (by omega)) (by omega)) (by omega)) (by omega)) (by omega)) (by omega)) (by omega)) (by omega))⟩, ⟨by rw [stR_R2 (by decide), x3.R (by omega), nwS_Ro (by omega), stR_R2 (by decide), x2.R (by omega), nwS_Ro (by omega), stR_R2 (by decide), x1.R (by omega), nwS_Ro (by omega), stR_R2 (by decide), nwS_Ro (by omega), stR_R2 (by decide), nwS_Ro (by omega), stR_R1], Ar0_z.dep (SD_st (SD_ex x3 (SD_nw (SD_st (SD_ex x2 (SD_nw (SD_st (SD_ex x1 (SD_nw (SD_st (SD_nw (SD_st (SD_nw (SD_st SD_rf (by omega)) (by omega)) (by omega)) (by omega)) (by omega)) (by omega)) (by omega)) (by omega)) (by omega)) (by omega)) (by omega)) (by omega)) (by omega)) (by omega))⟩, ⟨by rw [stR_R2 (by decide), x3.R (by omega), nwS_Ro (by omega), stR_R2 (by decide), x2.R (by omega), nwS_Ro (by omega), stR_R2 (by decide), x1.R (by omega), nwS_Ro (by omega), stR_R2 (by decide), nwS_Ro (by omega), stR_R1], Ar0_z.dep (SD_st (SD_ex x3 (SD_nw (SD_st (SD_ex x2 (SD_nw (SD_st (SD_ex x1 (SD_nw (SD_st (SD_nw (SD_st SD_rf (by omega)) (by omega)) (by omega)) (by omega)) (by omega)) (by omega)) (by omega)) (by omega)) (by omega)) (by omega)) (by omega)) (by omega))⟩, ⟨by rw [stR_R2 (by decide), x3.R (by omega), nwS_Ro (by omega), stR_R2 (by decide), x2.R (by omega), nwS_Ro (by omega), stR_R2 (by decide), x1.R (by omega), nwS_Ro (by omega), stR_R1], Ar0_z.dep (SD_st (SD_ex x3 (SD_nw (SD_st (SD_ex x2 (SD_nw (SD_st (SD_ex x1 (SD_nw (SD_st SD_rf (by omega)) (by omega)) (by omega)) (by omega)) (by omega)) (by omega)) (by omega)) (by omega)) (by omega)) (by omega))⟩, ⟨by rw [stR_R2 (by decide), x3.R (by omega), nwS_Ro (by omega), stR_R2 (by decide), x2.R (by omega), nwS_Ro (by omega), stR_R1], y1.dep (SD_st (SD_ex x3 (SD_nw (SD_st (SD_ex x2 (SD_nw (SD_st SD_rf (by omega)) (by omega)) (by omega)) (by omega)) (by omega)) (by omega)) (by omega))⟩, ⟨by rw [stR_R2 (by decide), x3.R (by omega), nwS_Ro (by omega), stR_R1], y2.dep (SD_st (SD_ex x3 (SD_nw (SD_st SD_rf (by omega)) (by omega)) (by omega)) (by omega))⟩, ⟨by rw [stR_R1], y3.dep (SD_st SD_rf (by omega))⟩⟩
  · exact EX_st (EX_ex x3 (EX_nw (EX_st (EX_ex x2 (EX_nw (EX_st (EX_ex x1 (EX_nw (EX_st (EX_nw (EX_st (EX_nw (EX_pI (EX_st (EX_nw (EX_st (EX_nw (EX_pI (EX_pI (EX_pI (EX_pI (EX_pI EX_rf (by omega)) (by omega)) (by omega)) (by omega)) (by omega)) (by omega)) (by omega)) (by omega)) (by omega)) (by omega)) (by omega)) (by omega)) (by omega)) (by omega)) (by omega)) (by omega)) (by omega)) (by omega)) (by omega)) (by omega)) (by omega)) (by omega)) (by omega)
  · exact t3
set_option maxHeartbeats 4000000 in
theorem c_X5_init {Ω : JO} {I : JI} {S : JS} {Q : JQ} {a : Nat} (ho : a ∈ sL S ∧ sK S a = 5) (hT : sT S = some (a + 1)) (hQ : ∀ (I' : JI) (S' : JS), Lay5 S' a → EX S S' I I' a → sT S' = some (a + 27) → I' a 2 = 0 → I' a 3 = -1 → I' (a + 1) 1 = 0 → Q (.inl none) I' S') : Call Ω m_X5_init [.ref a] I S Q := by
  refine call_of (by decide +kernel) rfl (Nat.le_of_ble_eq_true rfl) ?_
  change AA Ω m_X5_init (FQ Ω m_X5_init Q) 0 0 0 [(0, .ref a)] [] I S
  refine r_aload_n (pc' := 1) dX5_init_0 rfl 0 rfl rfl ?_
  refine r_objInit (pc' := 4) dX5_init_1 ow_X5_3 ow_i ow_c (by decide) (by decide) rfl ?_
  refine r_aload_n (pc' := 5) dX5_init_4 rfl 0 rfl rfl ?_
  refine r_new (z := a + 1) (pc' := 8) dX5_init_5 cw_X5_9 nwX2 hT (Nat.le_of_ble_eq_true rfl) (Nat.le_of_ble_eq_true rfl) rfl ?_
  have ho1 := o_nw (z := a + 1) (ki := 2) (n := 0) ho (by omega)
  refine r_dup (pc' := 9) dX5_init_8 rfl rfl ?_
  refine r_callIN0 (pc' := 12) dX5_init_9 mb_X2_init mc_X2_init ln_X5_11 (by decide +kernel) rfl rfl (Nat.le_of_ble_eq_true rfl) rfl (c_X2_init o_z rfl ?_)
  intro I1 S1 y1 x1 t1 f1_0
  refine cpV ?_
  have ho2 := o_ex x1 ho1 (by omega)
  refine r_putR (pc' := 15) dX5_init_12 fa_X5_12 ho2 rfl ⟨rfl, rfl⟩ (fun h => ⟨rfl, _, _, _, rfl, rfl⟩) rfl ?_
  refine r_aload_n (pc' := 16) dX5_init_15 rfl 0 rfl rfl ?_
  refine r_new (z := a + 3) (pc' := 19) dX5_init_16 cw_X5_18 nwX3 t1 (Nat.le_of_ble_eq_true rfl) (Nat.le_of_ble_eq_true rfl) rfl ?_
  have ho4 := o_nw (z := a + 3) (ki := 3) (n := 0) ho2 (by omega)
  refine r_dup (pc' := 20) dX5_init_19 rfl rfl ?_
  refine r_callIN0 (pc' := 23) dX5_init_20 mb_X3_init mc_X3_init ln_X5_20 (by decide +kernel) rfl rfl (Nat.le_of_ble_eq_true rfl) rfl (c_X3_init o_z rfl ?_)
  intro I2 S2 y2 x2 t2
  refine cpV ?_
  have ho5 := o_ex x2 ho4 (by omega)
  refine r_putR (pc' := 26) dX5_init_23 fa_X5_21 ho5 rfl ⟨rfl, rfl⟩ (fun h => by cases h) rfl ?_
  refine r_aload_n (pc' := 27) dX5_init_26 rfl 0 rfl rfl ?_
  refine r_iconst (pc' := 28) (v := 0) dX5_init_27 (by decide) rfl ?_
  refine r_putI (pc' := 31) dX5_init_28 fa_X5_25 ho5 rfl rfl ?_
  refine r_aload_n (pc' := 32) dX5_init_31 rfl 0 rfl rfl ?_
  refine r_iconst (pc' := 33) (v := -1) dX5_init_32 (by decide) rfl ?_
  refine r_putI (pc' := 36) dX5_init_33 fa_X5_29 ho5 rfl rfl ?_
  refine r_aload_n (pc' := 37) dX5_init_36 rfl 0 rfl rfl ?_
  refine r_iconst (pc' := 38) (v := 0) dX5_init_37 (by decide) rfl ?_
  refine r_putI (pc' := 41) dX5_init_38 fa_X5_32 ho5 rfl rfl ?_
  refine r_ret dX5_init_41 rfl (by decide) (by decide) ?_
  refine hQ _ _ ?_ ?_ ?_ ?_ ?_ ?_
  · exact ⟨ho5, ⟨by rw [stR_R2 (by decide), x2.R (by omega), nwS_Ro (by omega), stR_R1], y1.dep (SD_st (SD_ex x2 (SD_nw (SD_st SD_rf (by omega)) (by omega)) (by omega)) (by omega))⟩, ⟨by rw [stR_R1], y2.dep (SD_st SD_rf (by omega))⟩⟩
  · exact EX_pI (EX_pI (EX_pI (EX_st (EX_ex x2 (EX_nw (EX_st (EX_ex x1 (EX_nw EX_rf (by omega)) (by omega)) (by omega)) (by omega)) (by omega)) (by omega)) (by omega)) (by omega)) (by omega)
  · exact t2
  · rw [stI_aj (by decide), stI_aj (by decide), stI_at]
  · rw [stI_aj (by decide), stI_at]
  · rw [stI_ne (by omega), stI_ne (by omega), stI_ne (by omega), x2.Ib (by omega), nwI_o (by omega)]; exact f1_0
set_option maxHeartbeats 4000000 in
theorem c_X1_init {Ω : JO} {I : JI} {S : JS} {Q : JQ} {a : Nat} (ho : a ∈ sL S ∧ sK S a = 1) (hT : sT S = some (a + 1)) (hQ : ∀ (I' : JI) (S' : JS), Lay1 S' a → EX S S' I I' a → sT S' = some (a + 58) → I' a 1 = 0 → I' a 2 = 0 → Q (.inl none) I' S') : Call Ω m_X1_init [.ref a] I S Q := by
  refine call_of (by decide +kernel) rfl (Nat.le_of_ble_eq_true rfl) ?_
  change AA Ω m_X1_init (FQ Ω m_X1_init Q) 0 0 0 [(0, .ref a)] [] I S
  refine r_aload_n (pc' := 1) dX1_init_0 rfl 0 rfl rfl ?_
  refine r_objInit (pc' := 4) dX1_init_1 ow_X1_3 ow_i ow_c (by decide) (by decide) rfl ?_
  refine r_aload_n (pc' := 5) dX1_init_4 rfl 0 rfl rfl ?_
  refine r_bipush (pc' := 7) (v := 8) dX1_init_5 (by decide) rfl ?_
  refine r_anew (z := a + 1) (N := 8) (pc' := 10) dX1_init_7 cw_X1_9 hT (by decide) (by decide) (by decide) (Nat.le_of_ble_eq_true rfl) (Nat.le_of_ble_eq_true rfl) rfl ?_
  have ho1 := o_nw (z := a + 1) (ki := 13) (n := 8) ho (by omega)
  have har : Ar0 13 (nwS S (a + 1) 13 8) (a + 1) 8 := Ar0_z
  refine r_putR (pc' := 13) dX1_init_10 fa_X1_11 ho1 rfl ⟨rfl, rfl⟩ (fun h => ⟨rfl, _, _, _, rfl, rfl⟩) rfl ?_
  have har := Ar0_st (x := a) (k := 0) (r := some (a + 1)) har
  have hrow : sR (stR (nwS S (a + 1) 13 8) a 0 (some (a + 1))) a 0 = some (a + 1) := stR_R1
  refine r_aload_n (pc' := 14) dX1_init_13 rfl 0 rfl rfl ?_
  refine r_iconst (pc' := 15) (v := 0) dX1_init_14 (by decide) rfl ?_
  refine r_putI (pc' := 18) dX1_init_15 fa_X1_17 ho1 rfl rfl ?_
  refine r_aload_n (pc' := 19) dX1_init_18 rfl 0 rfl rfl ?_
  refine r_iconst (pc' := 20) (v := 0) dX1_init_19 (by decide) rfl ?_
  refine r_putI (pc' := 23) dX1_init_20 fa_X1_21 ho1 rfl rfl ?_
  refine r_iconst (pc' := 24) (v := 0) dX1_init_23 (by decide) rfl ?_
  refine r_istore_n (pc' := 25) (lv' := [(1, _), (0, _)]) dX1_init_24 rfl (by decide) rfl rfl ?_
  refine r_iload_n (pc' := 26) dX1_init_25 rfl 0 rfl rfl ?_
  refine r_aload_n (pc' := 27) dX1_init_26 rfl 1 rfl rfl ?_
  refine r_getO (pc' := 30) dX1_init_27 fa_X1_11 ho1 rfl hrow rfl ?_
  refine r_alen0 (v := 8) (pc' := 31) dX1_init_30 har rfl rfl ?_
  refine r_icmp_ge (tgt := 53) (pc' := 34) dX1_init_31 rfl rfl (fun h2 => absurd h2 (by decide)) (fun _ => ?_)
  refine r_aload_n (pc' := 35) dX1_init_34 rfl 1 rfl rfl ?_
  refine r_getO (pc' := 38) dX1_init_35 fa_X1_11 ho1 rfl hrow rfl ?_
  refine r_iload_n (pc' := 39) dX1_init_38 rfl 0 rfl rfl ?_
  refine r_new (z := a + 2) (pc' := 42) dX1_init_39 cw_X1_9 nwX7 rfl (Nat.le_of_ble_eq_true rfl) (Nat.le_of_ble_eq_true rfl) rfl ?_
  have ho5 := o_nw (z := a + 2) (ki := 7) (n := 0) ho1 (by omega)
  have har := har.dep (SD_nw (z := a + 2) (ki := 7) (n := 0) SD_rf (by omega))
  have hrow : sR _ a 0 = some (a + 1) := (nwS_Ro (z := a + 2) (ki := 7) (n := 0) (show a ≠ a + 2 by omega)).trans hrow
  refine r_dup (pc' := 43) dX1_init_42 rfl rfl ?_
  refine r_callIN0 (pc' := 46) dX1_init_43 mb_X7_init mc_X7_init ln_X1_24 (by decide +kernel) rfl rfl (Nat.le_of_ble_eq_true rfl) rfl (c_X7_init o_z rfl ?_)
  intro I1 S1 y1 x1 t1
  refine cpV ?_
  have ho6 := o_ex x1 ho5 (by omega)
  have har := har.dep (SD_ex x1 SD_rf (by omega))
  have hrow : sR S1 a 0 = some (a + 1) := (x1.R (by omega)).trans hrow
  refine r_aast1 (pc' := 47) (N := 8) (j := 0) dX1_init_46 har ⟨y1.1.1, y1.1.2⟩ (by unfold vp_in; decide +kernel) (by decide +kernel) rfl ?_
  have har := Ar0_st (x := a + 1) (k := 0) (r := some (a + 2)) har
  have hrow : sR _ a 0 = some (a + 1) := (stR_R3 (k := 0) (r := some (a + 2)) (show a ≠ a + 1 by omega)).trans hrow
  have ho6 := ho6
  refine r_iinc (pc' := 50) (v := 1) (lv' := [(1, _), (0, _)]) dX1_init_47 0 rfl (by decide) (by decide) rfl rfl ?_
  refine r_goto (tgt := 25) dX1_init_50 rfl ?_
  refine r_iload_n (pc' := 26) dX1_init_25 rfl 0 rfl rfl ?_
  refine r_aload_n (pc' := 27) dX1_init_26 rfl 1 rfl rfl ?_
  refine r_getO (pc' := 30) dX1_init_27 fa_X1_11 ho6 rfl hrow rfl ?_
  refine r_alen0 (v := 8) (pc' := 31) dX1_init_30 har rfl rfl ?_
  refine r_icmp_ge (tgt := 53) (pc' := 34) dX1_init_31 rfl rfl (fun h2 => absurd h2 (by decide)) (fun _ => ?_)
  refine r_aload_n (pc' := 35) dX1_init_34 rfl 1 rfl rfl ?_
  refine r_getO (pc' := 38) dX1_init_35 fa_X1_11 ho6 rfl hrow rfl ?_
  refine r_iload_n (pc' := 39) dX1_init_38 rfl 0 rfl rfl ?_
  refine r_new (z := a + 9) (pc' := 42) dX1_init_39 cw_X1_9 nwX7 t1 (Nat.le_of_ble_eq_true rfl) (Nat.le_of_ble_eq_true rfl) rfl ?_
  have ho8 := o_nw (z := a + 9) (ki := 7) (n := 0) ho6 (by omega)
  have har := har.dep (SD_nw (z := a + 9) (ki := 7) (n := 0) SD_rf (by omega))
  have hrow : sR _ a 0 = some (a + 1) := (nwS_Ro (z := a + 9) (ki := 7) (n := 0) (show a ≠ a + 9 by omega)).trans hrow
  refine r_dup (pc' := 43) dX1_init_42 rfl rfl ?_
  refine r_callIN0 (pc' := 46) dX1_init_43 mb_X7_init mc_X7_init ln_X1_24 (by decide +kernel) rfl rfl (Nat.le_of_ble_eq_true rfl) rfl (c_X7_init o_z rfl ?_)
  intro I2 S2 y2 x2 t2
  refine cpV ?_
  have ho9 := o_ex x2 ho8 (by omega)
  have har := har.dep (SD_ex x2 SD_rf (by omega))
  have hrow : sR S2 a 0 = some (a + 1) := (x2.R (by omega)).trans hrow
  refine r_aast1 (pc' := 47) (N := 8) (j := 1) dX1_init_46 har ⟨y2.1.1, y2.1.2⟩ (by unfold vp_in; decide +kernel) (by decide +kernel) rfl ?_
  have har := Ar0_st (x := a + 1) (k := 1) (r := some (a + 9)) har
  have hrow : sR _ a 0 = some (a + 1) := (stR_R3 (k := 1) (r := some (a + 9)) (show a ≠ a + 1 by omega)).trans hrow
  have ho9 := ho9
  refine r_iinc (pc' := 50) (v := 2) (lv' := [(1, _), (0, _)]) dX1_init_47 0 rfl (by decide) (by decide) rfl rfl ?_
  refine r_goto (tgt := 25) dX1_init_50 rfl ?_
  refine r_iload_n (pc' := 26) dX1_init_25 rfl 0 rfl rfl ?_
  refine r_aload_n (pc' := 27) dX1_init_26 rfl 1 rfl rfl ?_
  refine r_getO (pc' := 30) dX1_init_27 fa_X1_11 ho9 rfl hrow rfl ?_
  refine r_alen0 (v := 8) (pc' := 31) dX1_init_30 har rfl rfl ?_
  refine r_icmp_ge (tgt := 53) (pc' := 34) dX1_init_31 rfl rfl (fun h2 => absurd h2 (by decide)) (fun _ => ?_)
  refine r_aload_n (pc' := 35) dX1_init_34 rfl 1 rfl rfl ?_
  refine r_getO (pc' := 38) dX1_init_35 fa_X1_11 ho9 rfl hrow rfl ?_
  refine r_iload_n (pc' := 39) dX1_init_38 rfl 0 rfl rfl ?_
  refine r_new (z := a + 16) (pc' := 42) dX1_init_39 cw_X1_9 nwX7 t2 (Nat.le_of_ble_eq_true rfl) (Nat.le_of_ble_eq_true rfl) rfl ?_
  have ho11 := o_nw (z := a + 16) (ki := 7) (n := 0) ho9 (by omega)
  have har := har.dep (SD_nw (z := a + 16) (ki := 7) (n := 0) SD_rf (by omega))
  have hrow : sR _ a 0 = some (a + 1) := (nwS_Ro (z := a + 16) (ki := 7) (n := 0) (show a ≠ a + 16 by omega)).trans hrow
  refine r_dup (pc' := 43) dX1_init_42 rfl rfl ?_
  refine r_callIN0 (pc' := 46) dX1_init_43 mb_X7_init mc_X7_init ln_X1_24 (by decide +kernel) rfl rfl (Nat.le_of_ble_eq_true rfl) rfl (c_X7_init o_z rfl ?_)
  intro I3 S3 y3 x3 t3
  refine cpV ?_
  have ho12 := o_ex x3 ho11 (by omega)
  have har := har.dep (SD_ex x3 SD_rf (by omega))
  have hrow : sR S3 a 0 = some (a + 1) := (x3.R (by omega)).trans hrow
  refine r_aast1 (pc' := 47) (N := 8) (j := 2) dX1_init_46 har ⟨y3.1.1, y3.1.2⟩ (by unfold vp_in; decide +kernel) (by decide +kernel) rfl ?_
  have har := Ar0_st (x := a + 1) (k := 2) (r := some (a + 16)) har
  have hrow : sR _ a 0 = some (a + 1) := (stR_R3 (k := 2) (r := some (a + 16)) (show a ≠ a + 1 by omega)).trans hrow
  have ho12 := ho12
  refine r_iinc (pc' := 50) (v := 3) (lv' := [(1, _), (0, _)]) dX1_init_47 0 rfl (by decide) (by decide) rfl rfl ?_
  refine r_goto (tgt := 25) dX1_init_50 rfl ?_
  refine r_iload_n (pc' := 26) dX1_init_25 rfl 0 rfl rfl ?_
  refine r_aload_n (pc' := 27) dX1_init_26 rfl 1 rfl rfl ?_
  refine r_getO (pc' := 30) dX1_init_27 fa_X1_11 ho12 rfl hrow rfl ?_
  refine r_alen0 (v := 8) (pc' := 31) dX1_init_30 har rfl rfl ?_
  refine r_icmp_ge (tgt := 53) (pc' := 34) dX1_init_31 rfl rfl (fun h2 => absurd h2 (by decide)) (fun _ => ?_)
  refine r_aload_n (pc' := 35) dX1_init_34 rfl 1 rfl rfl ?_
  refine r_getO (pc' := 38) dX1_init_35 fa_X1_11 ho12 rfl hrow rfl ?_
  refine r_iload_n (pc' := 39) dX1_init_38 rfl 0 rfl rfl ?_
  refine r_new (z := a + 23) (pc' := 42) dX1_init_39 cw_X1_9 nwX7 t3 (Nat.le_of_ble_eq_true rfl) (Nat.le_of_ble_eq_true rfl) rfl ?_
  have ho14 := o_nw (z := a + 23) (ki := 7) (n := 0) ho12 (by omega)
  have har := har.dep (SD_nw (z := a + 23) (ki := 7) (n := 0) SD_rf (by omega))
  have hrow : sR _ a 0 = some (a + 1) := (nwS_Ro (z := a + 23) (ki := 7) (n := 0) (show a ≠ a + 23 by omega)).trans hrow
  refine r_dup (pc' := 43) dX1_init_42 rfl rfl ?_
  refine r_callIN0 (pc' := 46) dX1_init_43 mb_X7_init mc_X7_init ln_X1_24 (by decide +kernel) rfl rfl (Nat.le_of_ble_eq_true rfl) rfl (c_X7_init o_z rfl ?_)
  intro I4 S4 y4 x4 t4
  refine cpV ?_
  have ho15 := o_ex x4 ho14 (by omega)
  have har := har.dep (SD_ex x4 SD_rf (by omega))
  have hrow : sR S4 a 0 = some (a + 1) := (x4.R (by omega)).trans hrow
  refine r_aast1 (pc' := 47) (N := 8) (j := 3) dX1_init_46 har ⟨y4.1.1, y4.1.2⟩ (by unfold vp_in; decide +kernel) (by decide +kernel) rfl ?_
  have har := Ar0_st (x := a + 1) (k := 3) (r := some (a + 23)) har
  have hrow : sR _ a 0 = some (a + 1) := (stR_R3 (k := 3) (r := some (a + 23)) (show a ≠ a + 1 by omega)).trans hrow
  have ho15 := ho15
  refine r_iinc (pc' := 50) (v := 4) (lv' := [(1, _), (0, _)]) dX1_init_47 0 rfl (by decide) (by decide) rfl rfl ?_
  refine r_goto (tgt := 25) dX1_init_50 rfl ?_
  refine r_iload_n (pc' := 26) dX1_init_25 rfl 0 rfl rfl ?_
  refine r_aload_n (pc' := 27) dX1_init_26 rfl 1 rfl rfl ?_
  refine r_getO (pc' := 30) dX1_init_27 fa_X1_11 ho15 rfl hrow rfl ?_
  refine r_alen0 (v := 8) (pc' := 31) dX1_init_30 har rfl rfl ?_
  refine r_icmp_ge (tgt := 53) (pc' := 34) dX1_init_31 rfl rfl (fun h2 => absurd h2 (by decide)) (fun _ => ?_)
  refine r_aload_n (pc' := 35) dX1_init_34 rfl 1 rfl rfl ?_
  refine r_getO (pc' := 38) dX1_init_35 fa_X1_11 ho15 rfl hrow rfl ?_
  refine r_iload_n (pc' := 39) dX1_init_38 rfl 0 rfl rfl ?_
  refine r_new (z := a + 30) (pc' := 42) dX1_init_39 cw_X1_9 nwX7 t4 (Nat.le_of_ble_eq_true rfl) (Nat.le_of_ble_eq_true rfl) rfl ?_
  have ho17 := o_nw (z := a + 30) (ki := 7) (n := 0) ho15 (by omega)
  have har := har.dep (SD_nw (z := a + 30) (ki := 7) (n := 0) SD_rf (by omega))
  have hrow : sR _ a 0 = some (a + 1) := (nwS_Ro (z := a + 30) (ki := 7) (n := 0) (show a ≠ a + 30 by omega)).trans hrow
  refine r_dup (pc' := 43) dX1_init_42 rfl rfl ?_
  refine r_callIN0 (pc' := 46) dX1_init_43 mb_X7_init mc_X7_init ln_X1_24 (by decide +kernel) rfl rfl (Nat.le_of_ble_eq_true rfl) rfl (c_X7_init o_z rfl ?_)
  intro I5 S5 y5 x5 t5
  refine cpV ?_
  have ho18 := o_ex x5 ho17 (by omega)
  have har := har.dep (SD_ex x5 SD_rf (by omega))
  have hrow : sR S5 a 0 = some (a + 1) := (x5.R (by omega)).trans hrow
  refine r_aast1 (pc' := 47) (N := 8) (j := 4) dX1_init_46 har ⟨y5.1.1, y5.1.2⟩ (by unfold vp_in; decide +kernel) (by decide +kernel) rfl ?_
  have har := Ar0_st (x := a + 1) (k := 4) (r := some (a + 30)) har
  have hrow : sR _ a 0 = some (a + 1) := (stR_R3 (k := 4) (r := some (a + 30)) (show a ≠ a + 1 by omega)).trans hrow
  have ho18 := ho18
  refine r_iinc (pc' := 50) (v := 5) (lv' := [(1, _), (0, _)]) dX1_init_47 0 rfl (by decide) (by decide) rfl rfl ?_
  refine r_goto (tgt := 25) dX1_init_50 rfl ?_
  refine r_iload_n (pc' := 26) dX1_init_25 rfl 0 rfl rfl ?_
  refine r_aload_n (pc' := 27) dX1_init_26 rfl 1 rfl rfl ?_
  refine r_getO (pc' := 30) dX1_init_27 fa_X1_11 ho18 rfl hrow rfl ?_
  refine r_alen0 (v := 8) (pc' := 31) dX1_init_30 har rfl rfl ?_
  refine r_icmp_ge (tgt := 53) (pc' := 34) dX1_init_31 rfl rfl (fun h2 => absurd h2 (by decide)) (fun _ => ?_)
  refine r_aload_n (pc' := 35) dX1_init_34 rfl 1 rfl rfl ?_
  refine r_getO (pc' := 38) dX1_init_35 fa_X1_11 ho18 rfl hrow rfl ?_
  refine r_iload_n (pc' := 39) dX1_init_38 rfl 0 rfl rfl ?_
  refine r_new (z := a + 37) (pc' := 42) dX1_init_39 cw_X1_9 nwX7 t5 (Nat.le_of_ble_eq_true rfl) (Nat.le_of_ble_eq_true rfl) rfl ?_
  have ho20 := o_nw (z := a + 37) (ki := 7) (n := 0) ho18 (by omega)
  have har := har.dep (SD_nw (z := a + 37) (ki := 7) (n := 0) SD_rf (by omega))
  have hrow : sR _ a 0 = some (a + 1) := (nwS_Ro (z := a + 37) (ki := 7) (n := 0) (show a ≠ a + 37 by omega)).trans hrow
  refine r_dup (pc' := 43) dX1_init_42 rfl rfl ?_
  refine r_callIN0 (pc' := 46) dX1_init_43 mb_X7_init mc_X7_init ln_X1_24 (by decide +kernel) rfl rfl (Nat.le_of_ble_eq_true rfl) rfl (c_X7_init o_z rfl ?_)
  intro I6 S6 y6 x6 t6
  refine cpV ?_
  have ho21 := o_ex x6 ho20 (by omega)
  have har := har.dep (SD_ex x6 SD_rf (by omega))
  have hrow : sR S6 a 0 = some (a + 1) := (x6.R (by omega)).trans hrow
  refine r_aast1 (pc' := 47) (N := 8) (j := 5) dX1_init_46 har ⟨y6.1.1, y6.1.2⟩ (by unfold vp_in; decide +kernel) (by decide +kernel) rfl ?_
  have har := Ar0_st (x := a + 1) (k := 5) (r := some (a + 37)) har
  have hrow : sR _ a 0 = some (a + 1) := (stR_R3 (k := 5) (r := some (a + 37)) (show a ≠ a + 1 by omega)).trans hrow
  have ho21 := ho21
  refine r_iinc (pc' := 50) (v := 6) (lv' := [(1, _), (0, _)]) dX1_init_47 0 rfl (by decide) (by decide) rfl rfl ?_
  refine r_goto (tgt := 25) dX1_init_50 rfl ?_
  refine r_iload_n (pc' := 26) dX1_init_25 rfl 0 rfl rfl ?_
  refine r_aload_n (pc' := 27) dX1_init_26 rfl 1 rfl rfl ?_
  refine r_getO (pc' := 30) dX1_init_27 fa_X1_11 ho21 rfl hrow rfl ?_
  refine r_alen0 (v := 8) (pc' := 31) dX1_init_30 har rfl rfl ?_
  refine r_icmp_ge (tgt := 53) (pc' := 34) dX1_init_31 rfl rfl (fun h2 => absurd h2 (by decide)) (fun _ => ?_)
  refine r_aload_n (pc' := 35) dX1_init_34 rfl 1 rfl rfl ?_
  refine r_getO (pc' := 38) dX1_init_35 fa_X1_11 ho21 rfl hrow rfl ?_
  refine r_iload_n (pc' := 39) dX1_init_38 rfl 0 rfl rfl ?_
  refine r_new (z := a + 44) (pc' := 42) dX1_init_39 cw_X1_9 nwX7 t6 (Nat.le_of_ble_eq_true rfl) (Nat.le_of_ble_eq_true rfl) rfl ?_
  have ho23 := o_nw (z := a + 44) (ki := 7) (n := 0) ho21 (by omega)
  have har := har.dep (SD_nw (z := a + 44) (ki := 7) (n := 0) SD_rf (by omega))
  have hrow : sR _ a 0 = some (a + 1) := (nwS_Ro (z := a + 44) (ki := 7) (n := 0) (show a ≠ a + 44 by omega)).trans hrow
  refine r_dup (pc' := 43) dX1_init_42 rfl rfl ?_
  refine r_callIN0 (pc' := 46) dX1_init_43 mb_X7_init mc_X7_init ln_X1_24 (by decide +kernel) rfl rfl (Nat.le_of_ble_eq_true rfl) rfl (c_X7_init o_z rfl ?_)
  intro I7 S7 y7 x7 t7
  refine cpV ?_
  have ho24 := o_ex x7 ho23 (by omega)
  have har := har.dep (SD_ex x7 SD_rf (by omega))
  have hrow : sR S7 a 0 = some (a + 1) := (x7.R (by omega)).trans hrow
  refine r_aast1 (pc' := 47) (N := 8) (j := 6) dX1_init_46 har ⟨y7.1.1, y7.1.2⟩ (by unfold vp_in; decide +kernel) (by decide +kernel) rfl ?_
  have har := Ar0_st (x := a + 1) (k := 6) (r := some (a + 44)) har
  have hrow : sR _ a 0 = some (a + 1) := (stR_R3 (k := 6) (r := some (a + 44)) (show a ≠ a + 1 by omega)).trans hrow
  have ho24 := ho24
  refine r_iinc (pc' := 50) (v := 7) (lv' := [(1, _), (0, _)]) dX1_init_47 0 rfl (by decide) (by decide) rfl rfl ?_
  refine r_goto (tgt := 25) dX1_init_50 rfl ?_
  refine r_iload_n (pc' := 26) dX1_init_25 rfl 0 rfl rfl ?_
  refine r_aload_n (pc' := 27) dX1_init_26 rfl 1 rfl rfl ?_
  refine r_getO (pc' := 30) dX1_init_27 fa_X1_11 ho24 rfl hrow rfl ?_
  refine r_alen0 (v := 8) (pc' := 31) dX1_init_30 har rfl rfl ?_
  refine r_icmp_ge (tgt := 53) (pc' := 34) dX1_init_31 rfl rfl (fun h2 => absurd h2 (by decide)) (fun _ => ?_)
  refine r_aload_n (pc' := 35) dX1_init_34 rfl 1 rfl rfl ?_
  refine r_getO (pc' := 38) dX1_init_35 fa_X1_11 ho24 rfl hrow rfl ?_
  refine r_iload_n (pc' := 39) dX1_init_38 rfl 0 rfl rfl ?_
  refine r_new (z := a + 51) (pc' := 42) dX1_init_39 cw_X1_9 nwX7 t7 (Nat.le_of_ble_eq_true rfl) (Nat.le_of_ble_eq_true rfl) rfl ?_
  have ho26 := o_nw (z := a + 51) (ki := 7) (n := 0) ho24 (by omega)
  have har := har.dep (SD_nw (z := a + 51) (ki := 7) (n := 0) SD_rf (by omega))
  have hrow : sR _ a 0 = some (a + 1) := (nwS_Ro (z := a + 51) (ki := 7) (n := 0) (show a ≠ a + 51 by omega)).trans hrow
  refine r_dup (pc' := 43) dX1_init_42 rfl rfl ?_
  refine r_callIN0 (pc' := 46) dX1_init_43 mb_X7_init mc_X7_init ln_X1_24 (by decide +kernel) rfl rfl (Nat.le_of_ble_eq_true rfl) rfl (c_X7_init o_z rfl ?_)
  intro I8 S8 y8 x8 t8
  refine cpV ?_
  have ho27 := o_ex x8 ho26 (by omega)
  have har := har.dep (SD_ex x8 SD_rf (by omega))
  have hrow : sR S8 a 0 = some (a + 1) := (x8.R (by omega)).trans hrow
  refine r_aast1 (pc' := 47) (N := 8) (j := 7) dX1_init_46 har ⟨y8.1.1, y8.1.2⟩ (by unfold vp_in; decide +kernel) (by decide +kernel) rfl ?_
  have har := Ar0_st (x := a + 1) (k := 7) (r := some (a + 51)) har
  have hrow : sR _ a 0 = some (a + 1) := (stR_R3 (k := 7) (r := some (a + 51)) (show a ≠ a + 1 by omega)).trans hrow
  have ho27 := ho27
  refine r_iinc (pc' := 50) (v := 8) (lv' := [(1, _), (0, _)]) dX1_init_47 0 rfl (by decide) (by decide) rfl rfl ?_
  refine r_goto (tgt := 25) dX1_init_50 rfl ?_
  refine r_iload_n (pc' := 26) dX1_init_25 rfl 0 rfl rfl ?_
  refine r_aload_n (pc' := 27) dX1_init_26 rfl 1 rfl rfl ?_
  refine r_getO (pc' := 30) dX1_init_27 fa_X1_11 ho27 rfl hrow rfl ?_
  refine r_alen0 (v := 8) (pc' := 31) dX1_init_30 har rfl rfl ?_
  refine r_icmp_ge (tgt := 53) (pc' := 34) dX1_init_31 rfl rfl (fun _ => ?_) (fun h2 => absurd (show (8 : Int32) ≤ 8 by decide) h2)
  refine r_ret dX1_init_53 rfl (by decide) (by decide) ?_
  refine hQ _ _ ?_ ?_ ?_ ?_ ?_
  · refine ⟨ho27, ⟨by rw [stR_R3 (by omega), x8.R (by omega), nwS_Ro (by omega), stR_R3 (by omega), x7.R (by omega), nwS_Ro (by omega), stR_R3 (by omega), x6.R (by omega), nwS_Ro (by omega), stR_R3 (by omega), x5.R (by omega), nwS_Ro (by omega), stR_R3 (by omega), x4.R (by omega), nwS_Ro (by omega), stR_R3 (by omega), x3.R (by omega), nwS_Ro (by omega), stR_R3 (by omega), x2.R (by omega), nwS_Ro (by omega), stR_R3 (by omega), x1.R (by omega), nwS_Ro (by omega), stR_R1], har⟩, fun i hi => ?_⟩
    match i, hi with
    | 0, _ => exact ⟨by rw [stR_R2 (by decide), x8.R (by omega), nwS_Ro (by omega), stR_R2 (by decide), x7.R (by omega), nwS_Ro (by omega), stR_R2 (by decide), x6.R (by omega), nwS_Ro (by omega), stR_R2 (by decide), x5.R (by omega), nwS_Ro (by omega), stR_R2 (by decide), x4.R (by omega), nwS_Ro (by omega), stR_R2 (by decide), x3.R (by omega), nwS_Ro (by omega), stR_R2 (by decide), x2.R (by omega), nwS_Ro (by omega), stR_R1], y1.dep (SD_st (SD_ex x8 (SD_nw (SD_st (SD_ex x7 (SD_nw (SD_st (SD_ex x6 (SD_nw (SD_st (SD_ex x5 (SD_nw (SD_st (SD_ex x4 (SD_nw (SD_st (SD_ex x3 (SD_nw (SD_st (SD_ex x2 (SD_nw (SD_st SD_rf (by omega)) (by omega)) (by omega)) (by omega)) (by omega)) (by omega)) (by omega)) (by omega)) (by omega)) (by omega)) (by omega)) (by omega)) (by omega)) (by omega)) (by omega)) (by omega)) (by omega)) (by omega)) (by omega)) (by omega)) (by omega)) (by omega))⟩
    | 1, _ => exact ⟨by rw [stR_R2 (by decide), x8.R (by omega), nwS_Ro (by omega), stR_R2 (by decide), x7.R (by omega), nwS_Ro (by omega), stR_R2 (by decide), x6.R (by omega), nwS_Ro (by omega), stR_R2 (by decide), x5.R (by omega), nwS_Ro (by omega), stR_R2 (by decide), x4.R (by omega), nwS_Ro (by omega), stR_R2 (by decide), x3.R (by omega), nwS_Ro (by omega), stR_R1], y2.dep (SD_st (SD_ex x8 (SD_nw (SD_st (SD_ex x7 (SD_nw (SD_st (SD_ex x6 (SD_nw (SD_st (SD_ex x5 (SD_nw (SD_st (SD_ex x4 (SD_nw (SD_st (SD_ex x3 (SD_nw (SD_st SD_rf (by omega)) (by omega)) (by omega)) (by omega)) (by omega)) (by omega)) (by omega)) (by omega)) (by omega)) (by omega)) (by omega)) (by omega)) (by omega)) (by omega)) (by omega)) (by omega)) (by omega)) (by omega)) (by omega))⟩
    | 2, _ => exact ⟨by rw [stR_R2 (by decide), x8.R (by omega), nwS_Ro (by omega), stR_R2 (by decide), x7.R (by omega), nwS_Ro (by omega), stR_R2 (by decide), x6.R (by omega), nwS_Ro (by omega), stR_R2 (by decide), x5.R (by omega), nwS_Ro (by omega), stR_R2 (by decide), x4.R (by omega), nwS_Ro (by omega), stR_R1], y3.dep (SD_st (SD_ex x8 (SD_nw (SD_st (SD_ex x7 (SD_nw (SD_st (SD_ex x6 (SD_nw (SD_st (SD_ex x5 (SD_nw (SD_st (SD_ex x4 (SD_nw (SD_st SD_rf (by omega)) (by omega)) (by omega)) (by omega)) (by omega)) (by omega)) (by omega)) (by omega)) (by omega)) (by omega)) (by omega)) (by omega)) (by omega)) (by omega)) (by omega)) (by omega))⟩
    | 3, _ => exact ⟨by rw [stR_R2 (by decide), x8.R (by omega), nwS_Ro (by omega), stR_R2 (by decide), x7.R (by omega), nwS_Ro (by omega), stR_R2 (by decide), x6.R (by omega), nwS_Ro (by omega), stR_R2 (by decide), x5.R (by omega), nwS_Ro (by omega), stR_R1], y4.dep (SD_st (SD_ex x8 (SD_nw (SD_st (SD_ex x7 (SD_nw (SD_st (SD_ex x6 (SD_nw (SD_st (SD_ex x5 (SD_nw (SD_st SD_rf (by omega)) (by omega)) (by omega)) (by omega)) (by omega)) (by omega)) (by omega)) (by omega)) (by omega)) (by omega)) (by omega)) (by omega)) (by omega))⟩
    | 4, _ => exact ⟨by rw [stR_R2 (by decide), x8.R (by omega), nwS_Ro (by omega), stR_R2 (by decide), x7.R (by omega), nwS_Ro (by omega), stR_R2 (by decide), x6.R (by omega), nwS_Ro (by omega), stR_R1], y5.dep (SD_st (SD_ex x8 (SD_nw (SD_st (SD_ex x7 (SD_nw (SD_st (SD_ex x6 (SD_nw (SD_st SD_rf (by omega)) (by omega)) (by omega)) (by omega)) (by omega)) (by omega)) (by omega)) (by omega)) (by omega)) (by omega))⟩
    | 5, _ => exact ⟨by rw [stR_R2 (by decide), x8.R (by omega), nwS_Ro (by omega), stR_R2 (by decide), x7.R (by omega), nwS_Ro (by omega), stR_R1], y6.dep (SD_st (SD_ex x8 (SD_nw (SD_st (SD_ex x7 (SD_nw (SD_st SD_rf (by omega)) (by omega)) (by omega)) (by omega)) (by omega)) (by omega)) (by omega))⟩
    | 6, _ => exact ⟨by rw [stR_R2 (by decide), x8.R (by omega), nwS_Ro (by omega), stR_R1], y7.dep (SD_st (SD_ex x8 (SD_nw (SD_st SD_rf (by omega)) (by omega)) (by omega)) (by omega))⟩
    | 7, _ => exact ⟨by rw [stR_R1], y8.dep (SD_st SD_rf (by omega))⟩
    | n + 8, h => exact absurd h (by omega)
  · exact EX_st (EX_ex x8 (EX_nw (EX_st (EX_ex x7 (EX_nw (EX_st (EX_ex x6 (EX_nw (EX_st (EX_ex x5 (EX_nw (EX_st (EX_ex x4 (EX_nw (EX_st (EX_ex x3 (EX_nw (EX_st (EX_ex x2 (EX_nw (EX_st (EX_ex x1 (EX_nw (EX_pI (EX_pI (EX_st (EX_nw EX_rf (by omega)) (by omega)) (by omega)) (by omega)) (by omega)) (by omega)) (by omega)) (by omega)) (by omega)) (by omega)) (by omega)) (by omega)) (by omega)) (by omega)) (by omega)) (by omega)) (by omega)) (by omega)) (by omega)) (by omega)) (by omega)) (by omega)) (by omega)) (by omega)) (by omega)) (by omega)) (by omega)) (by omega)
  · exact t8
  · rw [x8.Ib (by omega), nwI_o (by omega), x7.Ib (by omega), nwI_o (by omega), x6.Ib (by omega), nwI_o (by omega), x5.Ib (by omega), nwI_o (by omega), x4.Ib (by omega), nwI_o (by omega), x3.Ib (by omega), nwI_o (by omega), x2.Ib (by omega), nwI_o (by omega), x1.Ib (by omega), nwI_o (by omega), stI_aj (by decide), stI_at]
  · rw [x8.Ib (by omega), nwI_o (by omega), x7.Ib (by omega), nwI_o (by omega), x6.Ib (by omega), nwI_o (by omega), x5.Ib (by omega), nwI_o (by omega), x4.Ib (by omega), nwI_o (by omega), x3.Ib (by omega), nwI_o (by omega), x2.Ib (by omega), nwI_o (by omega), x1.Ib (by omega), nwI_o (by omega), stI_at]
set_option maxHeartbeats 4000000 in
theorem c_X8_init {Ω : JO} {I : JI} {S : JS} {Q : JQ} {a : Nat} (ho : a ∈ sL S ∧ sK S a = 8) (hT : sT S = some (a + 1)) (hQ : ∀ (I' : JI) (S' : JS), Lay8 S' a → EX S S' I I' a → sT S' = some (a + 128) → I' a 6 = 0 → I' (a + 1) 2 = 0 → I' (a + 1) 3 = -1 → I' (a + 2) 1 = 0 → I' (a + 28) 1 = 0 → I' (a + 30) 1 = 0 → I' (a + 30) 2 = 0 → I' (a + 88) 1 = 0 → I' (a + 96) 1 = 0 → Q (.inl none) I' S') : Call Ω m_X8_init [.ref a] I S Q := by
  refine call_of (by decide +kernel) rfl (Nat.le_of_ble_eq_true rfl) ?_
  change AA Ω m_X8_init (FQ Ω m_X8_init Q) 0 0 0 [(0, .ref a)] [] I S
  refine r_aload_n (pc' := 1) dX8_init_0 rfl 0 rfl rfl ?_
  refine r_objInit (pc' := 4) dX8_init_1 ow_X8_1 ow_i ow_c (by decide) (by decide) rfl ?_
  refine r_aload_n (pc' := 5) dX8_init_4 rfl 0 rfl rfl ?_
  refine r_new (z := a + 1) (pc' := 8) dX8_init_5 cw_X8_7 nwX5 hT (Nat.le_of_ble_eq_true rfl) (Nat.le_of_ble_eq_true rfl) rfl ?_
  have ho1 := o_nw (z := a + 1) (ki := 5) (n := 0) ho (by omega)
  refine r_dup (pc' := 9) dX8_init_8 rfl rfl ?_
  refine r_callIN0 (pc' := 12) dX8_init_9 mb_X5_init mc_X5_init ln_X8_9 (by decide +kernel) rfl rfl (Nat.le_of_ble_eq_true rfl) rfl (c_X5_init o_z rfl ?_)
  intro I1 S1 y1 x1 t1 f1_0 f1_1 f1_2
  refine cpV ?_
  have ho2 := o_ex x1 ho1 (by omega)
  refine r_putR (pc' := 15) dX8_init_12 fa_X8_10 ho2 rfl ⟨rfl, rfl⟩ (fun h => ⟨rfl, _, _, _, rfl, rfl⟩) rfl ?_
  refine r_aload_n (pc' := 16) dX8_init_15 rfl 0 rfl rfl ?_
  refine r_new (z := a + 28) (pc' := 19) dX8_init_16 cw_X8_16 nwX4 t1 (Nat.le_of_ble_eq_true rfl) (Nat.le_of_ble_eq_true rfl) rfl ?_
  have ho4 := o_nw (z := a + 28) (ki := 4) (n := 0) ho2 (by omega)
  refine r_dup (pc' := 20) dX8_init_19 rfl rfl ?_
  refine r_callIN0 (pc' := 23) dX8_init_20 mb_X4_init mc_X4_init ln_X8_18 (by decide +kernel) rfl rfl (Nat.le_of_ble_eq_true rfl) rfl (c_X4_init o_z rfl ?_)
  intro I2 S2 y2 x2 t2 f2_0
  refine cpV ?_
  have ho5 := o_ex x2 ho4 (by omega)
  refine r_putR (pc' := 26) dX8_init_23 fa_X8_19 ho5 rfl ⟨rfl, rfl⟩ (fun h => ⟨rfl, _, _, _, rfl, rfl⟩) rfl ?_
  refine r_aload_n (pc' := 27) dX8_init_26 rfl 0 rfl rfl ?_
  refine r_new (z := a + 30) (pc' := 30) dX8_init_27 cw_X8_23 nwX1 t2 (Nat.le_of_ble_eq_true rfl) (Nat.le_of_ble_eq_true rfl) rfl ?_
  have ho7 := o_nw (z := a + 30) (ki := 1) (n := 0) ho5 (by omega)
  refine r_dup (pc' := 31) dX8_init_30 rfl rfl ?_
  refine r_callI0 (pc' := 34) dX8_init_31 mb_X1_init mc_X1_init lk_X8_25 (by decide +kernel) rfl rfl (Nat.le_of_ble_eq_true rfl) rfl (c_X1_init o_z rfl ?_)
  intro I3 S3 y3 x3 t3 f3_0 f3_1
  refine cpV ?_
  have ho8 := o_ex x3 ho7 (by omega)
  refine r_putR (pc' := 37) dX8_init_34 fa_X8_26 ho8 rfl ⟨rfl, rfl⟩ (fun h => ⟨rfl, _, _, _, rfl, rfl⟩) rfl ?_
  refine r_aload_n (pc' := 38) dX8_init_37 rfl 0 rfl rfl ?_
  refine r_new (z := a + 88) (pc' := 41) dX8_init_38 cw_X8_30 nwX6 t3 (Nat.le_of_ble_eq_true rfl) (Nat.le_of_ble_eq_true rfl) rfl ?_
  have ho10 := o_nw (z := a + 88) (ki := 6) (n := 0) ho8 (by omega)
  refine r_dup (pc' := 42) dX8_init_41 rfl rfl ?_
  refine r_callIN0 (pc' := 45) dX8_init_42 mb_X6_init mc_X6_init ln_X8_32 (by decide +kernel) rfl rfl (Nat.le_of_ble_eq_true rfl) rfl (c_X6_init o_z rfl ?_)
  intro I4 S4 y4 x4 t4 f4_0
  refine cpV ?_
  have ho11 := o_ex x4 ho10 (by omega)
  refine r_putR (pc' := 48) dX8_init_45 fa_X8_33 ho11 rfl ⟨rfl, rfl⟩ (fun h => ⟨rfl, _, _, _, rfl, rfl⟩) rfl ?_
  refine r_aload_n (pc' := 49) dX8_init_48 rfl 0 rfl rfl ?_
  refine r_new (z := a + 96) (pc' := 52) dX8_init_49 cw_X8_30 nwX6 t4 (Nat.le_of_ble_eq_true rfl) (Nat.le_of_ble_eq_true rfl) rfl ?_
  have ho13 := o_nw (z := a + 96) (ki := 6) (n := 0) ho11 (by omega)
  refine r_dup (pc' := 53) dX8_init_52 rfl rfl ?_
  refine r_callIN0 (pc' := 56) dX8_init_53 mb_X6_init mc_X6_init ln_X8_32 (by decide +kernel) rfl rfl (Nat.le_of_ble_eq_true rfl) rfl (c_X6_init o_z rfl ?_)
  intro I5 S5 y5 x5 t5 f5_0
  refine cpV ?_
  have ho14 := o_ex x5 ho13 (by omega)
  refine r_putR (pc' := 59) dX8_init_56 fa_X8_37 ho14 rfl ⟨rfl, rfl⟩ (fun h => ⟨rfl, _, _, _, rfl, rfl⟩) rfl ?_
  refine r_aload_n (pc' := 60) dX8_init_59 rfl 0 rfl rfl ?_
  refine r_new (z := a + 104) (pc' := 63) dX8_init_60 cw_X8_40 nwX3 t5 (Nat.le_of_ble_eq_true rfl) (Nat.le_of_ble_eq_true rfl) rfl ?_
  have ho16 := o_nw (z := a + 104) (ki := 3) (n := 0) ho14 (by omega)
  refine r_dup (pc' := 64) dX8_init_63 rfl rfl ?_
  refine r_callIN0 (pc' := 67) dX8_init_64 mb_X3_init mc_X3_init ln_X8_42 (by decide +kernel) rfl rfl (Nat.le_of_ble_eq_true rfl) rfl (c_X3_init o_z rfl ?_)
  intro I6 S6 y6 x6 t6
  refine cpV ?_
  have ho17 := o_ex x6 ho16 (by omega)
  refine r_putR (pc' := 70) dX8_init_67 fa_X8_43 ho17 rfl ⟨rfl, rfl⟩ (fun h => by cases h) rfl ?_
  refine r_aload_n (pc' := 71) dX8_init_70 rfl 0 rfl rfl ?_
  refine r_iconst (pc' := 72) (v := 0) dX8_init_71 (by decide) rfl ?_
  refine r_putZ (pc' := 75) dX8_init_72 fa_X8_47 ho17 rfl (Or.inl rfl) rfl ?_
  refine r_ret dX8_init_75 rfl (by decide) (by decide) ?_
  refine hQ _ _ ?_ ?_ ?_ ?_ ?_ ?_ ?_ ?_ ?_ ?_ ?_ ?_
  · exact ⟨ho17, ⟨by rw [stR_R2 (by decide), x6.R (by omega), nwS_Ro (by omega), stR_R2 (by decide), x5.R (by omega), nwS_Ro (by omega), stR_R2 (by decide), x4.R (by omega), nwS_Ro (by omega), stR_R2 (by decide), x3.R (by omega), nwS_Ro (by omega), stR_R2 (by decide), x2.R (by omega), nwS_Ro (by omega), stR_R1], y1.dep (SD_st (SD_ex x6 (SD_nw (SD_st (SD_ex x5 (SD_nw (SD_st (SD_ex x4 (SD_nw (SD_st (SD_ex x3 (SD_nw (SD_st (SD_ex x2 (SD_nw (SD_st SD_rf (by omega)) (by omega)) (by omega)) (by omega)) (by omega)) (by omega)) (by omega)) (by omega)) (by omega)) (by omega)) (by omega)) (by omega)) (by omega)) (by omega)) (by omega)) (by omega))⟩, ⟨by rw [stR_R2 (by decide), x6.R (by omega), nwS_Ro (by omega), stR_R2 (by decide), x5.R (by omega), nwS_Ro (by omega), stR_R2 (by decide), x4.R (by omega), nwS_Ro (by omega), stR_R2 (by decide), x3.R (by omega), nwS_Ro (by omega), stR_R1], y2.dep (SD_st (SD_ex x6 (SD_nw (SD_st (SD_ex x5 (SD_nw (SD_st (SD_ex x4 (SD_nw (SD_st (SD_ex x3 (SD_nw (SD_st SD_rf (by omega)) (by omega)) (by omega)) (by omega)) (by omega)) (by omega)) (by omega)) (by omega)) (by omega)) (by omega)) (by omega)) (by omega)) (by omega))⟩, ⟨by rw [stR_R2 (by decide), x6.R (by omega), nwS_Ro (by omega), stR_R2 (by decide), x5.R (by omega), nwS_Ro (by omega), stR_R2 (by decide), x4.R (by omega), nwS_Ro (by omega), stR_R1], y3.dep (SD_st (SD_ex x6 (SD_nw (SD_st (SD_ex x5 (SD_nw (SD_st (SD_ex x4 (SD_nw (SD_st SD_rf (by omega)) (by omega)) (by omega)) (by omega)) (by omega)) (by omega)) (by omega)) (by omega)) (by omega)) (by omega))⟩, ⟨by rw [stR_R2 (by decide), x6.R (by omega), nwS_Ro (by omega), stR_R2 (by decide), x5.R (by omega), nwS_Ro (by omega), stR_R1], y4.dep (SD_st (SD_ex x6 (SD_nw (SD_st (SD_ex x5 (SD_nw (SD_st SD_rf (by omega)) (by omega)) (by omega)) (by omega)) (by omega)) (by omega)) (by omega))⟩, ⟨by rw [stR_R2 (by decide), x6.R (by omega), nwS_Ro (by omega), stR_R1], y5.dep (SD_st (SD_ex x6 (SD_nw (SD_st SD_rf (by omega)) (by omega)) (by omega)) (by omega))⟩, ⟨by rw [stR_R1], y6.dep (SD_st SD_rf (by omega))⟩⟩
  · exact EX_pI (EX_st (EX_ex x6 (EX_nw (EX_st (EX_ex x5 (EX_nw (EX_st (EX_ex x4 (EX_nw (EX_st (EX_ex x3 (EX_nw (EX_st (EX_ex x2 (EX_nw (EX_st (EX_ex x1 (EX_nw EX_rf (by omega)) (by omega)) (by omega)) (by omega)) (by omega)) (by omega)) (by omega)) (by omega)) (by omega)) (by omega)) (by omega)) (by omega)) (by omega)) (by omega)) (by omega)) (by omega)) (by omega)) (by omega)) (by omega)
  · exact t6
  · rw [stI_at]
  · rw [stI_ne (by omega), x6.Ib (by omega), nwI_o (by omega), x5.Ib (by omega), nwI_o (by omega), x4.Ib (by omega), nwI_o (by omega), x3.Ib (by omega), nwI_o (by omega), x2.Ib (by omega), nwI_o (by omega)]; exact f1_0
  · rw [stI_ne (by omega), x6.Ib (by omega), nwI_o (by omega), x5.Ib (by omega), nwI_o (by omega), x4.Ib (by omega), nwI_o (by omega), x3.Ib (by omega), nwI_o (by omega), x2.Ib (by omega), nwI_o (by omega)]; exact f1_1
  · rw [stI_ne (by omega), x6.Ib (by omega), nwI_o (by omega), x5.Ib (by omega), nwI_o (by omega), x4.Ib (by omega), nwI_o (by omega), x3.Ib (by omega), nwI_o (by omega), x2.Ib (by omega), nwI_o (by omega)]; exact f1_2
  · rw [stI_ne (by omega), x6.Ib (by omega), nwI_o (by omega), x5.Ib (by omega), nwI_o (by omega), x4.Ib (by omega), nwI_o (by omega), x3.Ib (by omega), nwI_o (by omega)]; exact f2_0
  · rw [stI_ne (by omega), x6.Ib (by omega), nwI_o (by omega), x5.Ib (by omega), nwI_o (by omega), x4.Ib (by omega), nwI_o (by omega)]; exact f3_0
  · rw [stI_ne (by omega), x6.Ib (by omega), nwI_o (by omega), x5.Ib (by omega), nwI_o (by omega), x4.Ib (by omega), nwI_o (by omega)]; exact f3_1
  · rw [stI_ne (by omega), x6.Ib (by omega), nwI_o (by omega), x5.Ib (by omega), nwI_o (by omega)]; exact f4_0
  · rw [stI_ne (by omega), x6.Ib (by omega), nwI_o (by omega)]; exact f5_0
