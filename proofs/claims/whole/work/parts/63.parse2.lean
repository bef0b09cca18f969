/-! parseSetup, both ways: the call -/
noncomputable def cTx (p P : Nat) (q1 : Int32) (I : JI) : Option (Bool × JI) := bd (s_X2_advance I (p + 1)) fun I5 => bd2 (s_X5_readHeader I5 p P) fun z7 I6 => if z7 = true then (bl (s_X5_parse_L44 p P q1 lf 0 I6) fun (y18, I19) => if 0 < (I19 P 4) then (some (true, I19)) else (bd2 (s_X5_fail I19 p P 4) fun z23 I22 => if z23 = true then (some (true, I22)) else (some (false, I22)))) else (some (false, I6))
section PSE2
variable {I J I' J' : JI} {c L P m N n : Nat}
theorem gz0 {α : Type} {x : Option α} : gd (vp_in 0 2) x = x := gd_in (by decide) (by decide)
theorem gz1 {α : Type} {x : Option α} : gd (vp_in 1 2) x = x := gd_in (by decide) (by decide)
theorem nar0 : vp_nar .boolean 0 = 0 := by decide +kernel
theorem parse_eq {p : Nat} (hN : N ≤ 500) : s_X5_parse I p P (nI N) = cTx p P (nI N) (stI (stI (stI (x3_clear (stI (stI I p 2 0) p 3 (-1)) P) (p + 1) 1 0) (p + 1) 2 (nI N)) (p + 1) 3 0) := by
  have hm : mnF (nI N) (Int32.ofNat 500) = nI N := by
    unfold mnF
    rw [if_neg (show ¬ Int32.ofNat 500 < nI N from nI_nlt (b := N) (a := 500) (by omega) (by omega))]
  unfold s_X5_parse s_X2_startReading
  rw [lx_s (stI I p 2 0), lx_s (stI _ p 3 (-1)), lx_s (x3_clear _ P), lx_s (stI _ (p + 1) 1 0), lx_s (stI _ (p + 1) 2 _), lx_s (stI _ (p + 1) 3 0), hm]
  have assoc : ∀ (I1 : JI) (K : JI → Option (Bool × JI)), (bd (bd (s_X2_advance I1 (p + 1)) fun I3 => some I3) K) = bd (s_X2_advance I1 (p + 1)) K := fun I1 K => by
    cases s_X2_advance I1 (p + 1) <;> rfl
  rw [assoc]
  rfl
theorem q_parseSetup (h : RR I J c L m) (hLP : (L = c + 4 ∧ P = c + 104) ∨ (L = c + 104 ∧ P = c + 4)) (x : Int32) : ∃ (o : Int32 ⊕ String) (I' : JI) (v : Int32) (J' : JI), s_X8_parseSetup I c L P x = some (o, I') ∧ s_X9_parseSetup J m x = some (v, J') ∧ Res [eIX, eIA] o v (J' m 0) ∧ ((∃ a, o = .inl a ∧ RR I' J' c P m) ∨ (∃ E, o = .inr E ∧ RR I' J' c L m)) := by
  obtain ⟨⟨n, n1, n2, n3, n4⟩, -⟩ := id h
  unfold s_X8_parseSetup s_X9_parseSetup
  rw [n2, n3, m_may, bd2_some]
  by_cases h1 : x < 0
  · have e : s_X9_in x 0 (nI n) = false := by
      unfold s_X9_in
      rw [if_pos h1]
    rw [if_pos h1, e]
    exact ⟨.inr eIX, I, 0, stI J m 0 1, rfl, rfl, by rw [stI_at]; exact tA, Or.inr ⟨eIX, rfl, RR_thr h 1⟩⟩
  · rw [if_neg h1]
    by_cases h2 : x ≤ nI n
    · obtain ⟨N, hN, rfl⟩ := nI_of h1
      have hNn : N ≤ n := (nI_leI hN (by omega)).mp h2
      have e : s_X9_in (nI N) 0 (nI n) = true := by
        unfold s_X9_in
        rw [if_neg h1, if_neg (Int32.not_lt.mpr h2)]
      rw [if_pos h2, e, show (true && true && true) = true from rfl, if_pos rfl, if_neg (show ¬ true = false by decide), if_neg (show ¬ true = false by decide), if_neg (show ¬ true = false by decide), lx_s (stI _ m 12 _), lx_s (stI _ m 13 _), lx_s (stI _ m 9 _), lx_s (stI _ m 10 _), lx_s (stI _ m 11 _)]
      have jb : stI (stI (stI (stI (stI (stI J m 0 0) m 12 (nI N)) m 13 0) m 9 0) m 10 0) m 11 (-1) m 12 = nI N := by rw [stI_aj (by decide), stI_aj (by decide), stI_aj (by decide), stI_aj (by decide), stI_at]
      have jc : stI (stI (stI (stI (stI (stI J m 0 0) m 12 (nI N)) m 13 0) m 9 0) m 10 0) m 11 (-1) m 13 = 0 := by rw [stI_aj (by decide), stI_aj (by decide), stI_aj (by decide), stI_at]
      have jd : stI (stI (stI (stI (stI (stI J m 0 0) m 12 (nI N)) m 13 0) m 9 0) m 10 0) m 11 (-1) m 9 = 0 := by rw [stI_aj (by decide), stI_aj (by decide), stI_at]
      have je : stI (stI (stI (stI (stI (stI J m 0 0) m 12 (nI N)) m 13 0) m 9 0) m 10 0) m 11 (-1) m 10 = 0 := by rw [stI_aj (by decide), stI_at]
      have jf : stI (stI (stI (stI (stI (stI J m 0 0) m 12 (nI N)) m 13 0) m 9 0) m 10 0) m 11 (-1) m 11 = -1 := stI_at
      have jg : stI (stI (stI (stI (stI (stI J m 0 0) m 12 (nI N)) m 13 0) m 9 0) m 10 0) m 11 (-1) m 0 = 0 := by rw [stI_aj (by decide), stI_aj (by decide), stI_aj (by decide), stI_aj (by decide), stI_aj (by decide), stI_at]
      have jk : ∀ k, k = 6 ∨ k = 7 ∨ k = 22 → stI (stI (stI (stI (stI (stI J m 0 0) m 12 (nI N)) m 13 0) m 9 0) m 10 0) m 11 (-1) m k = J m k := fun k hk => by
        rw [stI_aj (by omega), stI_aj (by omega), stI_aj (by omega), stI_aj (by omega), stI_aj (by omega), stI_aj (by omega)]
      have j6 : ∀ z, z ≠ m → stI (stI (stI (stI (stI (stI J m 0 0) m 12 (nI N)) m 13 0) m 9 0) m 10 0) m 11 (-1) z = J z := fun z hz => by rw [stI_ne hz, stI_ne hz, stI_ne hz, stI_ne hz, stI_ne hz, stI_ne hz]
      generalize stI (stI (stI (stI (stI (stI J m 0 0) m 12 (nI N)) m 13 0) m 9 0) m 10 0) m 11 (-1) = J1 at *
      obtain ⟨J2, t1, t2⟩ := @e_thinks J1 m
      obtain ⟨J3, t3, t4, t5⟩ := @l_zero J2 m (nI N)
      rw [t1, bd_some, t3, bd_some]
      have k2 : ∀ z, z ≠ m + 2 → J2 z = J1 z := fun z hz => by funext k; rw [t2, if_neg (fun q => hz q.1)]
      have k3 : ∀ z, z ≠ m + 1 → z ≠ m + 2 → stI J3 (m + 1) 12 24 z = J1 z := fun z z1 z2 => by rw [stI_ne z1, t4 z z1, k2 z z2]
      have k3' : ∀ k, k < 2030 → stI J3 (m + 1) 12 24 (m + 2) k = J (m + 1) k := fun k hk => by
        rw [stI_ne (by omega), t4 _ (by omega), t2, if_pos ⟨rfl, by omega, by omega⟩, j6 _ (by omega), show 0 + (k - 0) = k by omega]
      have k4 : ∀ j, j < 2030 → stI J3 (m + 1) 12 24 (m + 1) j = if j = 12 then 24 else 0 := fun j hj => by
        by_cases e : j = 12
        · subst e; rw [stI_at, if_pos rfl]
        · rw [stI_aj e, if_neg e]; exact t5 j hj
      have i0 : ∀ z, (z < c + 1 ∨ c + 1 + 2 ≤ z) → (z < P ∨ P + 24 ≤ z) → stI (stI (stI (x3_clear (stI (stI I (c + 1) 2 0) (c + 1) 3 (-1)) P) (c + 1 + 1) 1 0) (c + 1 + 1) 2 (nI N)) (c + 1 + 1) 3 0 z = I z := fun z z1 z2 => by
        rw [stI_ne (by omega), stI_ne (by omega), stI_ne (by omega), fr_x3_clear z2, stI_ne (by omega), stI_ne (by omega)]
      have i1 : stI (stI (stI (x3_clear (stI (stI I (c + 1) 2 0) (c + 1) 3 (-1)) P) (c + 1 + 1) 1 0) (c + 1 + 1) 2 (nI N)) (c + 1 + 1) 3 0 (c + 1) 2 = 0 ∧ stI (stI (stI (x3_clear (stI (stI I (c + 1) 2 0) (c + 1) 3 (-1)) P) (c + 1 + 1) 1 0) (c + 1 + 1) 2 (nI N)) (c + 1 + 1) 3 0 (c + 1) 3 = -1 := by
        rw [stI_ne (by omega), stI_ne (by omega), stI_ne (by omega), fr_x3_clear (by omega)]
        exact ⟨by rw [stI_aj (by decide), stI_at], stI_at⟩
      have i2 : stI (stI (stI (x3_clear (stI (stI I (c + 1) 2 0) (c + 1) 3 (-1)) P) (c + 1 + 1) 1 0) (c + 1 + 1) 2 (nI N)) (c + 1 + 1) 3 0 (c + 1 + 1) 1 = 0 ∧ stI (stI (stI (x3_clear (stI (stI I (c + 1) 2 0) (c + 1) 3 (-1)) P) (c + 1 + 1) 1 0) (c + 1 + 1) 2 (nI N)) (c + 1 + 1) 3 0 (c + 1 + 1) 2 = nI N ∧ stI (stI (stI (x3_clear (stI (stI I (c + 1) 2 0) (c + 1) 3 (-1)) P) (c + 1 + 1) 1 0) (c + 1 + 1) 2 (nI N)) (c + 1 + 1) 3 0 (c + 1 + 1) 3 = nI 0 :=
        ⟨by rw [stI_aj (by decide), stI_aj (by decide), stI_at], by rw [stI_aj (by decide), stI_at], stI_at⟩
      have i3 : BLK (stI (stI (stI (x3_clear (stI (stI I (c + 1) 2 0) (c + 1) 3 (-1)) P) (c + 1 + 1) 1 0) (c + 1 + 1) 2 (nI N)) (c + 1 + 1) 3 0) (stI J3 (m + 1) 12 24) P m := BLK_dep (clr_facts (I := stI (stI I (c + 1) 2 0) (c + 1) 3 (-1)) (J := stI J3 (m + 1) 12 24) (fun j _ hj => k4 j hj)) (fun j _ => by rw [stI_ne (by omega), stI_ne (by omega), stI_ne (by omega)]) (fun j _ _ => by rw [stI_ne (by omega), stI_ne (by omega), stI_ne (by omega)]) (fun _ _ => rfl)
      have hpe := parse_eq (I := I) (P := P) (p := c + 1) (N := N) (by omega)
      generalize stI (stI (stI (x3_clear (stI (stI I (c + 1) 2 0) (c + 1) 3 (-1)) P) (c + 1 + 1) 1 0) (c + 1 + 1) 2 (nI N)) (c + 1 + 1) 3 0 = I1 at i0 i1 i2 i3 hpe
      have j4m : ∀ k, stI J3 (m + 1) 12 24 m k = J1 m k := fun k => by rw [k3 m (by omega) (by omega)]
      have htk : TKp I1 (stI J3 (m + 1) 12 24) (c + 1 + 1) m N 0 := by
        refine ⟨⟨by omega, Nat.zero_le N⟩, ⟨i2.2.1, i2.2.2, by rw [j4m]; exact jb, by rw [j4m]; exact jc⟩, fun i hi => ?_⟩
        rw [i0 _ (by omega) (by omega), k3 _ (by omega) (by omega), j6 _ (by omega)]
        exact n4 i (by omega)
      have hct : CT I1 (stI J3 (m + 1) 12 24) (c + 1) m := ⟨i1.1, i1.2, by rw [j4m]; exact je, by rw [j4m]; exact jf, i2.1⟩
      have hsp : ∀ (X : JI → Option (Int32 × JI)), (gd (vp_in 12 2030) (lx (stI J3 (m + 1) (Int32.toNatClampNeg 12) 24) X)) = X (stI J3 (m + 1) 12 24) := fun X => by rw [gl12, cl12, lx_s]
      show ∃ (o : Int32 ⊕ String) (I' : JI) (v : Int32) (J' : JI), _ ∧ (gd (vp_in 12 2030) (lx (stI J3 (m + 1) (Int32.toNatClampNeg 12) 24) _) : Option (Int32 × JI)) = some (v, J') ∧ _
      rw [hsp]
      rcases e_text (P := P) (by omega) htk hct i3 (nI N) with ⟨I', J', y, x', H, W, C, K, R, a, b, g, hW⟩ | ⟨I', J', a, b, g⟩
      · have pa : s_X5_parse I (c + 1) P (nI N) = some (true, I') := hpe.trans a
        have fI : ∀ z, (z < c + 1 ∨ c + 1 + 2 ≤ z) → (z < P ∨ P + 24 ≤ z) → I' z = I z := fun z z1 z2 => fr_X5_parse pa z1 z2
        have ffm : ∀ k, k = 0 ∨ k = 6 ∨ k = 7 ∨ k = 9 ∨ k = 22 → J' m k = J1 m k := fun k hk => by rw [ff_X9_readsText b (by omega) (by omega) (by omega) (by omega) (by omega) (by omega) (by omega)]; exact j4m k
        rw [pa, bd2_some, if_pos rfl, b, bd_some, if_pos (show J' m 10 ≤ 0 by rw [g_c10 g]; exact Int32.le_refl 0), lx_s (stI J' m 6 1), lx_s (stI _ m 7 0), gz0, lx_s (stI _ (m + 5) _ _), gz1, lx_s (stI _ (m + 5) _ _), gl4, cl0, cl1, cl4, nar0]
        refine ⟨_, _, _, _, rfl, rfl, ⟨?_, ?_⟩, Or.inl ⟨_, rfl, ?_⟩⟩
        · rw [stI_ne (by omega), stI_ne (by omega), stI_aj (by decide), stI_aj (by decide), ffm 0 (by omega)]; exact jg
        · rw [g.2.1.c.2.2.2.1, stI_ne (by omega), stI_ne (by omega), stI_ne (by omega), stI_ne (by omega)]; exact g.2.1.g.1.2.2.2.1.symm
        · have hfa : ∀ (Z : JI), s_X1_forgetAll Z (c + 30) = stI Z (c + 30) 2 0 := fun Z => rfl
          rw [hfa]
          refine RR_good h hLP g hW fI ?_ (fun z z0 z1 z2 z3 => ?_) ⟨?_, ?_⟩ ?_ stI_at ?_ ?_ (fun k k6 k7 => ?_) ?_ ?_ ?_ ⟨?_, stI_at⟩ (fun z z0 z1 => ?_)
          · rw [stI_ne (by omega), stI_ne (by omega), stI_ne (by omega), stI_at]
          · rw [stI_ne z3, stI_ne z2, stI_ne z1, stI_ne z0]
          · rw [stI_ne (by omega), stI_ne (by omega), stI_at]
          · rw [stI_ne (by omega), stI_ne (by omega), stI_aj (by decide), stI_ne (by omega)]
          · rw [stI_ne (by omega), stI_at]
          · rw [stI_ne (by omega), stI_ne (by omega), stI_aj (by decide), stI_at]
          · rw [stI_ne (by omega), stI_ne (by omega), stI_at]
          · rw [stI_ne (by omega), stI_ne (by omega), stI_aj k7, stI_aj k6]
          · rw [ffm 9 (by omega)]; exact jd
          · rw [ffm 22 (by omega)]; exact jk 22 (by omega)
          · rw [fr_X9_readsText b (by omega) (by omega) (by omega) (by omega) (by omega), k3 _ (by omega) (by omega), j6 _ (by omega)]
          · rw [stI_aj (by decide), stI_at]
          · rw [stI_ne z1, stI_ne z1, stI_ne z0, stI_ne z0]
      · have pa : s_X5_parse I (c + 1) P (nI N) = some (false, I') := hpe.trans a
        have fI : ∀ z, (z < c + 1 ∨ c + 1 + 2 ≤ z) → (z < P ∨ P + 24 ≤ z) → I' z = I z := fun z z1 z2 => fr_X5_parse pa z1 z2
        have ffm : ∀ k, k = 0 ∨ k = 6 ∨ k = 7 ∨ k = 9 ∨ k = 22 → J' m k = J1 m k := fun k hk => by rw [ff_X9_readsText b (by omega) (by omega) (by omega) (by omega) (by omega) (by omega) (by omega)]; exact j4m k
        have ffz : ∀ z, z ≠ m → z ≠ m + 1 → z ≠ m + 7 → z ≠ m + 8 → z ≠ m + 9 → J' z = stI J3 (m + 1) 12 24 z := fun z z0 z1 z7 z8 z9 => fr_X9_readsText b z1 z7 z8 z9 z0
        obtain ⟨J5, e3, h3⟩ := @e_lays (stI J' m 0 2) (m + 2) (m + 1) 0 0 2030 2030 (by omega) (by omega) (by omega) (by omega) (by omega)
        obtain ⟨ec, g1, g2, g3, g4, g5⟩ := id g
        rw [pa, bd2_some, if_neg Bool.false_ne_true, b, bd_some, if_neg g.em.le, lx_s (stI J' m 0 2)]
        unfold s_X9_back
        rw [show s_X9_lays (stI J' m 0 2) (m + 2) (m + 1) 2030 0 2030 0 = some J5 from e3, bd_some, bd2_some]
        have h5 : ∀ z, z ≠ m + 1 → ∀ k, J5 z k = stI J' m 0 2 z k := fun z hz k => by rw [h3, if_neg (fun q => hz q.1)]
        refine ⟨_, _, _, _, rfl, rfl, ?_, Or.inr ⟨eIA, rfl, ?_⟩⟩
        · rw [h5 m (by omega), stI_at]; exact tB
        · refine RR_fail h hLP fI g5 ?_ ?_ ?_ (fun k hk => ?_) (fun k hk => ?_) (fun z hz => ?_)
          · rw [h5 m (by omega), stI_aj (by decide), ffm 9 (by omega)]; exact jd
          · rw [h5 m (by omega), stI_aj (by decide), g3, g2]
          · rw [h5 m (by omega), stI_aj (by decide), g4]
          · rw [h5 m (by omega), stI_aj (by omega), ffm k (by omega)]; exact jk k hk
          · rw [h3, if_pos ⟨rfl, by omega, by omega⟩, stI_ne (by omega), ffz _ (by omega) (by omega) (by omega) (by omega) (by omega), show 0 + (k - 0) = k by omega]; exact k3' k hk
          · funext k
            rw [h5 z (by omega), stI_o (by omega), ffz _ (by omega) (by omega) (by omega) (by omega) (by omega), k3 _ (by omega) (by omega), j6 _ (by omega)]
    · have e : s_X9_in x 0 (nI n) = false := by
        unfold s_X9_in
        rw [if_neg h1, if_pos (Int32.not_le.mp h2)]
      rw [if_neg h2, e]
      exact ⟨.inr eIX, I, 0, stI J m 0 1, rfl, rfl, by rw [stI_at]; exact tA, Or.inr ⟨eIX, rfl, RR_thr h 1⟩⟩
end PSE2
