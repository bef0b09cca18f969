/-! the deck while it is read -/
def eK (k : Nat) : Nat := if k = 2 then 0 else 1
def DLs (I J : JI) (d m C l : Nat) (z : Nat → Nat) : Prop := (l ≤ 3 ∧ I d 7 = nI l ∧ J m 20 = nI l ∧ I d 3 = nI (stt z l + z l)) ∧ (∀ i, i ≤ l → z i ≤ 100 ∧ J (m + 8) i = nI (z i) ∧ ∀ k, k < z i → ∃ c, c < C ∧ I (d + 2) (stt z i + k) = nI c ∧ J (m + 7) (100 * i + k) = nI c) ∧ (∀ i, i < l → I (d + 4) i = nI (stt z (i + 1)) ∧ opC (I (d + 3) i) ∧ J (m + 9) (i + 1) = pcd (I (d + 3) i))
def DPb (I : JI) (g : Nat → Int32) (d B l : Nat) : Prop := ∃ n : Nat, (pW (I (d + 1)) n + l + 1 ≤ B ∧ 2 * n + 2 * l + 1 ≤ B) ∧ I d 1 = nI n ∧ g 6 = nI n ∧ ∀ j, j < n → pOK (I (d + 1) j) ∧ g (1764 + j) = pcd (I (d + 1) j)
def DFr (I J I0 : JI) (g0 : Nat → Int32) (p P m : Nat) : Prop := (∀ z, z ≠ p → z ≠ p + 1 → ¬ (P + 5 ≤ z ∧ z < P + 10) → I z = I0 z) ∧ (∀ j, j < 1764 → j ≠ 6 → j ≠ 7 → J (m + 1) j = g0 j) ∧ J (m + 1) 7 = mxF (I (P + 5) 4) 1
def DS (I J I0 : JI) (g0 : Nat → Int32) (p P m N k y x B C l : Nat) (z : Nat → Nat) : Prop := TS I J p m N k y x ∧ DFr I J I0 g0 p P m ∧ DLs I J (P + 5) m C l z ∧ DPb I (J (m + 1)) (P + 5) B l
theorem pW_congr {f g : Nat → Int32} : ∀ n, (∀ j, j < n → f j = g j) → pW f n = pW g n := by
  intro n
  induction n with
  | zero => intro _; rfl
  | succ n ih => intro h; unfold pW; rw [ih fun j hj => h j (by omega), h n (by omega)]
section DKS
variable {I J I0 I' J' : JI} {g g' g0 : Nat → Int32} {p P d m N k y x B C l : Nat} {z : Nat → Nat}
theorem DLs_b (h : DLs I J d m C l z) : stt z l ≤ 100 * l ∧ z l ≤ 100 ∧ l ≤ 3 := ⟨stt_b l fun i hi => (h.2.1 i (by omega)).1, (h.2.1 l (Nat.le_refl l)).1, h.1.1⟩
theorem DLs_start (h : DLs I J d m C l z) : x0_start I d (I d 7) = nI (stt z l) := by
  unfold x0_start
  rw [h.1.2.1]
  have hb := DLs_b h
  cases l with
  | zero => rw [if_pos (show nI 0 ≤ 0 from Int32.le_refl 0)]; rfl
  | succ l => rw [if_neg (nI_nle (by omega) (by omega)), nI_pred, atF_nI (by omega) (by omega)]; exact (h.2.2 l (by omega)).1
theorem DLs_push (h : DLs I J d m C l z) {v : Nat} (hv : v < C) (hz : z l < 100) (i7 : I' d 7 = I d 7) (i3 : I' d 3 = nI (stt z l + z l + 1)) (iq : I' (d + 2) (stt z l + z l) = nI v) (iq' : ∀ j, j < stt z l + z l → I' (d + 2) j = I (d + 2) j) (i34 : I' (d + 3) = I (d + 3)) (i4 : I' (d + 4) = I (d + 4)) (j20 : J' m 20 = J m 20) (j8 : J' (m + 8) l = nI (z l + 1)) (j8' : ∀ i, i ≠ l → J' (m + 8) i = J (m + 8) i) (j7 : J' (m + 7) (100 * l + z l) = nI v) (j7' : ∀ j, j ≠ 100 * l + z l → J' (m + 7) j = J (m + 7) j) (j9 : J' (m + 9) = J (m + 9)) : DLs I' J' d m C l (upN z l (z l + 1)) := by
  obtain ⟨⟨a1, a2, a3, a4⟩, b, c⟩ := h
  refine ⟨⟨a1, by rw [i7]; exact a2, by rw [j20]; exact a3, ?_⟩, fun i hi => ?_, fun i hi => ?_⟩
  · rw [i3, stt_up l (Nat.le_refl l), upN_eq]; rfl
  · obtain ⟨b1, b2, b3⟩ := b i hi
    rw [stt_up i hi]
    by_cases e : i = l
    · subst e
      rw [upN_eq]
      refine ⟨hz, j8, fun k hk => ?_⟩
      by_cases e2 : k = z i
      · subst e2; exact ⟨v, hv, iq, j7⟩
      · rw [iq' _ (by omega), j7' _ (by omega)]; exact b3 k (by omega)
    · rw [upN_ne e]
      have hlt := stt_lt (z := z) (l := l) i (by omega)
      refine ⟨b1, by rw [j8' i e]; exact b2, fun k hk => ?_⟩
      rw [iq' _ (by omega), j7' _ (by omega)]; exact b3 k hk
  · rw [i34, i4, j9, stt_up (i + 1) (by omega)]; exact c i hi
theorem DLs_open (h : DLs I J d m C l z) (hl : l < 3) {c : Int32} (hc : opC c) (i7 : I' d 7 = nI (l + 1)) (i3 : I' d 3 = I d 3) (i2 : I' (d + 2) = I (d + 2)) (ia : I' (d + 3) l = c) (ia' : ∀ i, i < l → I' (d + 3) i = I (d + 3) i) (ib : I' (d + 4) l = I d 3) (ib' : ∀ i, i < l → I' (d + 4) i = I (d + 4) i) (j20 : J' m 20 = nI (l + 1)) (j8 : J' (m + 8) (l + 1) = 0) (j8' : ∀ i, i ≤ l → J' (m + 8) i = J (m + 8) i) (j7 : J' (m + 7) = J (m + 7)) (j9 : J' (m + 9) (l + 1) = pcd c) (j9' : ∀ i, i ≤ l → J' (m + 9) i = J (m + 9) i) : DLs I' J' d m C (l + 1) (upN z (l + 1) 0) := by
  obtain ⟨⟨a1, a2, a3, a4⟩, b, cc⟩ := h
  refine ⟨⟨by omega, i7, j20, ?_⟩, fun i hi => ?_, fun i hi => ?_⟩
  · rw [i3, a4, stt_up (l + 1) (Nat.le_refl _), upN_eq]; rfl
  · by_cases e : i = l + 1
    · subst e; rw [upN_eq]; exact ⟨by omega, j8, fun k hk => by omega⟩
    · rw [upN_ne e, stt_up i (by omega), i2, j7, j8' i (by omega)]; exact b i (by omega)
  · rw [stt_up (i + 1) (by omega)]
    by_cases e : i = l
    · subst e; rw [ia, ib, j9]; exact ⟨a4, hc, rfl⟩
    · rw [ia' i (by omega), ib' i (by omega), j9' (i + 1) (by omega)]; exact cc i (by omega)
theorem DLs_close {c : Nat} (h : DLs I J d m C (l + 1) z) (hc : I (d + 3) l = nI c) (hc2 : c = 101 ∨ c = 102 ∨ (201 ≤ c ∧ c ≤ 220)) (h0 : 0 < z (l + 1)) (hz : z l + pkN c (z (l + 1)) ≤ 100) (i7 : I' d 7 = nI l) (i3 : I' d 3 = nI (stt z (l + 1) + pkN c (z (l + 1)))) (iq : ∀ j, j < stt z (l + 1) → I' (d + 2) j = I (d + 2) j) (iq' : ∀ k, k < pkN c (z (l + 1)) → I' (d + 2) (stt z (l + 1) + k) = I (d + 2) (stt z (l + 1) + plN c (z (l + 1)) k)) (i34 : I' (d + 3) = I (d + 3)) (i4 : I' (d + 4) = I (d + 4)) (j20 : J' m 20 = nI l) (j8 : J' (m + 8) l = nI (z l + pkN c (z (l + 1)))) (j8' : ∀ i, i < l → J' (m + 8) i = J (m + 8) i) (j7 : ∀ k, k < pkN c (z (l + 1)) → J' (m + 7) (100 * l + z l + k) = J (m + 7) (100 * (l + 1) + plN c (z (l + 1)) k)) (j7' : ∀ j, j < 100 * l + z l → J' (m + 7) j = J (m + 7) j) (j9 : J' (m + 9) = J (m + 9)) : DLs I' J' d m C l (upN z l (z l + pkN c (z (l + 1)))) := by
  obtain ⟨⟨a1, a2, a3, a4⟩, b, cc⟩ := h
  have hst : stt z (l + 1) = stt z l + z l := rfl
  refine ⟨⟨by omega, i7, j20, ?_⟩, fun i hi => ?_, fun i hi => ?_⟩
  · rw [i3, stt_up l (Nat.le_refl l), upN_eq, hst, Nat.add_assoc]
  · obtain ⟨b1, b2, b3⟩ := b i (by omega)
    rw [stt_up i hi]
    by_cases e : i = l
    · subst e
      rw [upN_eq]
      refine ⟨hz, j8, fun k hk => ?_⟩
      by_cases e2 : k < z i
      · rw [iq _ (by omega), j7' _ (by omega)]; exact b3 k e2
      · obtain ⟨-, -, b6⟩ := b (i + 1) (Nat.le_refl _)
        have hk2 : k - z i < pkN c (z (i + 1)) := by omega
        obtain ⟨c1, c2, c3, c4⟩ := b6 _ (mplace_n (k := k - z i) hc2 h0 (b (i + 1) (Nat.le_refl _)).1 hk2).2
        have q1 := iq' _ hk2
        have q2 := j7 _ hk2
        rw [show stt z (i + 1) + (k - z i) = stt z i + k by omega] at q1
        rw [show 100 * i + z i + (k - z i) = 100 * i + k by omega] at q2
        exact ⟨c1, c2, by rw [q1]; exact c3, by rw [q2]; exact c4⟩
    · rw [upN_ne e]
      have hlt := stt_lt (z := z) (l := l) i (by omega)
      refine ⟨b1, by rw [j8' i (by omega)]; exact b2, fun k hk => ?_⟩
      rw [iq _ (by omega), j7' _ (by omega)]; exact b3 k hk
  · rw [i34, i4, j9, stt_up (i + 1) (by omega)]; exact cc i (by omega)
theorem DPb_mk {n l' B' : Nat} {v : Int32} (h : ∀ j, j < n → pOK (I (d + 1) j) ∧ g (1764 + j) = pcd (I (d + 1) j)) (hx : pOK v) (i1 : I' d 1 = nI (n + 1)) (g6 : g' 6 = nI (n + 1)) (ix : I' (d + 1) n = v) (ix' : ∀ j, j < n → I' (d + 1) j = I (d + 1) j) (gx : g' (1764 + n) = pcd v) (gx' : ∀ j, j < n → g' (1764 + j) = g (1764 + j)) (w1 : pW (I (d + 1)) n + pw v + l' + 1 ≤ B') (w2 : 2 * (n + 1) + 2 * l' + 1 ≤ B') : DPb I' g' d B' l' := by
  refine ⟨n + 1, ⟨?_, w2⟩, i1, g6, fun j hj => ?_⟩
  · unfold pW
    rw [pW_congr n ix', ix]; omega
  · by_cases e : j = n
    · subst e; rw [ix, gx]; exact ⟨hx, rfl⟩
    · rw [ix' j (by omega), gx' j (by omega)]; exact h j (by omega)
theorem DPb_dep {B' : Nat} (h : DPb I g d B l) (hB : B ≤ B') (e0 : I' d 1 = I d 1) (e1 : I' (d + 1) = I (d + 1)) (g6 : g' 6 = g 6) (gk : ∀ k, 1764 ≤ k → g' k = g k) : DPb I' g' d B' l := by
  obtain ⟨n, ⟨n1, n2⟩, n3, n4, n5⟩ := h
  refine ⟨n, ⟨by rw [e1]; omega, by omega⟩, by rw [e0]; exact n3, by rw [g6]; exact n4, fun j hj => ?_⟩
  rw [e1, gk _ (by omega)]; exact n5 j hj
theorem DLs_dep (h : DLs I J d m C l z) (e7 : I' d 7 = I d 7) (e3 : I' d 3 = I d 3) (e : ∀ j, 2 ≤ j → j < 5 → I' (d + j) = I (d + j)) (j20 : J' m 20 = J m 20) (e78 : ∀ j, 7 ≤ j → j < 10 → J' (m + j) = J (m + j)) : DLs I' J' d m C l z := by
  unfold DLs at *
  rw [e7, e3, e 2 (by omega) (by omega), e 3 (by omega) (by omega), e 4 (by omega) (by omega), j20, e78 7 (by omega) (by omega), e78 8 (by omega) (by omega), e78 9 (by omega) (by omega)]
  exact h
/-- a token step -/
theorem DS_tok {k' y' x' B' : Nat} (hP : p + 3 ≤ P) (h : DS I J I0 g0 p P m N k y x B C l z) (t : TS I' J' p m N k' y' x') (hB : B ≤ B') (fI : ∀ q, q ≠ p → q ≠ p + 1 → I' q = I q) (fJ : ∀ q, q ≠ m → J' q = J q) (j20 : J' m 20 = J m 20) : DS I' J' I0 g0 p P m N k' y' x' B' C l z := by
  obtain ⟨-, ⟨f1, f2, f3⟩, hl, hp⟩ := h
  refine ⟨t, ⟨fun q q1 q2 q3 => (fI q q1 q2).trans (f1 q q1 q2 q3), fun j j1 j2 j3 => by rw [fJ _ (by omega)]; exact f2 j j1 j2 j3, by rw [fJ _ (by omega), fI _ (by omega) (by omega)]; exact f3⟩, DLs_dep hl (by rw [fI _ (by omega) (by omega)]) (by rw [fI _ (by omega) (by omega)]) (fun j j1 j2 => fI _ (by omega) (by omega)) j20 (fun j j1 j2 => fJ _ (by omega)), DPb_dep hp hB (by rw [fI _ (by omega) (by omega)]) (fI _ (by omega) (by omega)) (by rw [fJ _ (by omega)]) (fun q _ => by rw [fJ _ (by omega)])⟩
theorem d_adv (hP : p + 3 ≤ P) (h : DS I J I0 g0 p P m N k y x B C l z) (hB : ∀ k' y', x ≤ y' → (k = 2 → k' = 2 → x < y') → B ≤ y' + eK k') : ∃ I' J' k' y' x', s_X2_advance I (p + 1) = some I' ∧ s_X9_goes J m = some J' ∧ DS I' J' I0 g0 p P m N k' y' x' (y' + eK k') C l z ∧ x ≤ y' ∧ I' p = I p ∧ (∀ q, q ≠ p + 1 → I' q = I q) := by
  obtain ⟨I', J', a, b, ⟨k', y', x', n1, n2, n3, n4, n5⟩, e⟩ := e_adv h.1
  exact ⟨I', J', k', y', x', a, b, DS_tok hP h n1 (hB k' y' n2 n3) n4 n5 (ff_X9_goes b (by decide) (by decide) (by decide) (by decide)), n2, e, fun q hq => fr_X2_advance a hq⟩
theorem DS_num (hP : p + 3 ≤ P) (h : DS I J I0 g0 p P m N k y x B C l z) (v : Int32) : DS (stI I p 4 v) J I0 g0 p P m N k y x B C l z :=
  DS_tok hP h (TS_num h.1 v) (Nat.le_refl _) (fun q q1 q2 => stI_ne q1) (fun _ _ => rfl) rfl
theorem m_addsPart {n : Nat} {c : Int32} (h : J (m + 1) 6 = nI n) (hn : n < 266) : s_X9_addsPart J m c = some (stI (stI J (m + 1) (1764 + n) c) (m + 1) 6 (nI (n + 1))) := by
  unfold s_X9_addsPart
  rw [gl6, cl6, h, show (1764 : Int32) = nI 1764 from rfl, nI_add, gd_in (by omega) (by omega), cl_nI (by omega), lx_s, gl6, gl6, lx_s, stI_aj (by omega), h, nI_1]
theorem m_addsPick {i s : Nat} {c : Int32} (hi : i ≤ 3) (h : J (m + 8) i = nI s) (hs : s < 100) : s_X9_addsPick J m (nI i) c = some (stI (stI J (m + 7) (100 * i + s) c) (m + 8) i (nI (s + 1))) := by
  unfold s_X9_addsPick
  rw [gd_in (by omega) (by omega), cl_nI (by omega), h, show (100 : Int32) = nI 100 from rfl, nI_mul, nI_add, gd_in (by omega) (by omega), cl_nI (by omega), lx_s, gd_in (by omega) (by omega), gd_in (by omega) (by omega), lx_s, stI_o (by omega), h, nI_1]
theorem m_pickOf {i s : Nat} (hi : 100 * i + s < 400) : s_X9_pickOf J m (nI i) (nI s) = some (J (m + 7) (100 * i + s)) := by
  unfold s_X9_pickOf
  rw [show (100 : Int32) = nI 100 from rfl, nI_mul, nI_add, gd_in hi (by omega), cl_nI (by omega)]
/-- a card is added -/
theorem DS_card (hP : p + 3 ≤ P) (h : DS I J I0 g0 p P m N k y x B C l z) (hB : B ≤ 505) {v : Nat} (hz : z l < 100) (hv : v < C) (hC : C ≤ 12) : x0_addCardB I (P + 5) = true ∧ ∃ J1 J2, s_X9_addsPart J m (nI v) = some J1 ∧ s_X9_addsPick J1 m (J1 m 20) (nI v) = some J2 ∧ DS (x0_addCard I (P + 5) (nI v)) J2 I0 g0 p P m N k y x (B + pw (nI v)) C l (upN z l (z l + 1)) ∧ mxF (x0_addCard I (P + 5) (nI v) (P + 5) 4) 1 = x0_addCard I (P + 5) (nI v) (P + 5) 4 := by
  obtain ⟨t, ⟨f1, f2, f3⟩, hl, n, ⟨n1, n2⟩, n3, n4, n5⟩ := h
  have hb := DLs_b hl
  have hlen := hl.1.2.2.2
  have hB2 : x0_addCardB I (P + 5) = true := by
    unfold x0_addCardB
    rw [DLs_start hl, hlen, nI_sub (by omega), show stt z l + z l - stt z l = z l by omega]
    exact decide_eq_true (nI_lt (b := 100) hz (by omega))
  have hA : x0_addCard I (P + 5) (nI v) = stI (stI (stI (stI (stI I (P + 5 + 1) n (nI v)) (P + 5) 1 (nI (n + 1))) (P + 5 + 2) (stt z l + z l) (nI v)) (P + 5) 3 (nI (stt z l + z l + 1))) (P + 5) 4 (mxF (I (P + 5) 4) 1) := by
    unfold x0_addCard
    rw [hB2, if_pos rfl, addPart_n n3 (by omega), addPick_n (show stI (stI I (P + 5 + 1) n (nI v)) (P + 5) 1 (nI (n + 1)) (P + 5) 3 = nI (stt z l + z l) by rw [stI_aj (by decide), stI_ne (by omega)]; exact hlen) (by omega)]
    congr 2
    rw [stI_aj (by decide), stI_ne (by omega), stI_aj (by decide), stI_ne (by omega)]
  have hg8 := (hl.2.1 l (Nat.le_refl l)).2.1
  refine ⟨hB2, _, stI (stI (stI (stI J (m + 1) (1764 + n) (nI v)) (m + 1) 6 (nI (n + 1))) (m + 7) (100 * l + z l) (nI v)) (m + 8) l (nI (z l + 1)), m_addsPart n4 (by omega), ?_, ?_⟩
  · rw [stI_ne (show m ≠ m + 1 by omega), stI_ne (show m ≠ m + 1 by omega), hl.1.2.2.1]
    exact m_addsPick hl.1.1 (by rw [stI_ne (by omega), stI_ne (by omega)]; exact hg8) hz
  · have fI : ∀ q, ¬ (P + 5 ≤ q ∧ q < P + 10) → x0_addCard I (P + 5) (nI v) q = I q := fun q hq => fr_x0_addCard (by omega)
    have ed : ∀ j, j ≠ 1 → j ≠ 3 → j ≠ 4 → x0_addCard I (P + 5) (nI v) (P + 5) j = I (P + 5) j := fun j j1 j2 j3 => by
      rw [hA, stI_aj j3, stI_aj j2, stI_ne (by omega), stI_aj j1, stI_ne (by omega)]
    refine ⟨⟨TS_dep t (fI _ (by omega)) (fI _ (by omega)) (fI _ (by omega)) (by rw [stI_ne (by omega), stI_ne (by omega), stI_ne (by omega), stI_ne (by omega)]) (by rw [stI_ne (by omega), stI_ne (by omega), stI_ne (by omega), stI_ne (by omega)]), ⟨fun q q1 q2 q3 => (fI q q3).trans (f1 q q1 q2 q3), fun j j1 j2 j3 => ?_, ?_⟩, ?_, ?_⟩, ?_⟩
    · rw [stI_ne (by omega), stI_ne (by omega), stI_aj j2, stI_aj (by omega)]; exact f2 j j1 j2 j3
    · rw [stI_ne (by omega), stI_ne (by omega), stI_aj (by decide), stI_aj (by omega), f3, hA, stI_at, mxF_11]
    · refine DLs_push hl hv hz (ed 7 (by decide) (by decide) (by decide)) ?_ ?_ ?_ ?_ ?_ ?_ stI_at ?_ ?_ ?_ ?_
      · rw [hA, stI_aj (by decide), stI_at]
      · rw [hA, stI_ne (by omega), stI_ne (by omega), stI_at]
      · intro j hj; rw [hA, stI_ne (by omega), stI_ne (by omega), stI_aj (by omega), stI_ne (by omega), stI_ne (by omega)]
      · rw [hA, stI_ne (by omega), stI_ne (by omega), stI_ne (by omega), stI_ne (by omega), stI_ne (by omega)]
      · rw [hA, stI_ne (by omega), stI_ne (by omega), stI_ne (by omega), stI_ne (by omega), stI_ne (by omega)]
      · rw [stI_ne (by omega), stI_ne (by omega), stI_ne (by omega), stI_ne (by omega)]
      · intro i hi; rw [stI_aj hi, stI_ne (by omega), stI_ne (by omega), stI_ne (by omega)]
      · rw [stI_ne (by omega), stI_at]
      · intro j hj; rw [stI_ne (by omega), stI_aj hj, stI_ne (by omega), stI_ne (by omega)]
      · rw [stI_ne (by omega), stI_ne (by omega), stI_ne (by omega), stI_ne (by omega)]
    · have hpw : pw (nI v) = if v < 10 then 2 else 3 := (by decide +kernel : ∀ v : Fin 12, pw (nI v.val) = if v.val < 10 then 2 else 3) ⟨v, by omega⟩
      refine DPb_mk n5 ⟨v, rfl, Or.inl (by omega)⟩ ?_ ?_ ?_ ?_ ?_ ?_ (by omega) (by rw [hpw]; split <;> omega)
      · rw [hA, stI_aj (by decide), stI_aj (by decide), stI_ne (by omega), stI_at]
      · rw [stI_ne (by omega), stI_ne (by omega), stI_at]
      · rw [hA, stI_ne (by omega), stI_ne (by omega), stI_ne (by omega), stI_ne (by omega), stI_at]
      · intro j hj; rw [hA, stI_ne (by omega), stI_ne (by omega), stI_ne (by omega), stI_ne (by omega), stI_aj (by omega)]
      · rw [stI_ne (by omega), stI_ne (by omega), stI_aj (by omega), stI_at]
        exact ((by decide +kernel : ∀ v : Fin 12, nI v.val = pcd (nI v.val)) ⟨v, by omega⟩)
      · intro j hj; rw [stI_ne (by omega), stI_ne (by omega), stI_aj (by omega), stI_aj (by omega)]
    · rw [hA, stI_at, mxF_11]
end DKS
