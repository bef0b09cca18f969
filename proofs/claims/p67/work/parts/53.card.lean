/-- numbers in a row, spaces before them -/
def flt : List Nat → List Nat
  | [] => []
  | k :: l => [32] ++ (dg k ++ flt l)
def runM : Int32 → List Nat → Option Int32
  | m, [] => some m
  | m, k :: l => if hasB m (nI k) = true then none else runM (m ||| ((1 : Int32) <<< (nI k &&& 31))) l
def bitsL (x : Nat) : List Nat := (if x.testBit 0 then [0] else []) ++ ((if x.testBit 1 then [1] else []) ++ (if x.testBit 2 then [2] else []))
theorem bits_ok {x H : Nat} (hx : x < 2 ^ H) (hH : H ≤ 3) : TXl x 3 = flt (bitsL x) ∧ runM 0 (bitsL x) = some (nI x) ∧ ∀ k, k ∈ bitsL x → k < H := by
  have h : ∀ H : Fin 4, ∀ x : Fin 8, x.val < 2 ^ H.val → TXl x.val 3 = flt (bitsL x.val) ∧ runM 0 (bitsL x.val) = some (nI x.val) ∧ ∀ k, k ∈ bitsL x.val → k < H.val := by decide +kernel
  exact h ⟨H, by omega⟩ ⟨x, Nat.lt_of_lt_of_le hx (Nat.pow_le_pow_right (by decide) hH)⟩ hx
/-- a number of the row is at hand, or the item's end -/
def NB (I : JI) (a : Nat) (l r : List Nat) : Prop := (l = [] ∧ AB I a r) ∨ ∃ k l', l = k :: l' ∧ RD I a 2 (dg k) (flt l' ++ r) ∧ I a 6 = nI k
section CRD
variable {I J K : JI} {p P H mo W nc v : Nat} {on co li we y : Nat → Nat} {pk r w : List Nat} {q1 : Int32} {c h x k : Nat}
theorem flt_D (l : List Nat) (hr : EB r) : hd0 isD (flt l ++ r) := by
  rcases l with _ | ⟨k, l⟩
  · exact hr.D
  · intro b t e
    cases e; decide
theorem adv_nb {a : Nat} (l : List Nat) (hr : EB r) (hl : ∀ k, k ∈ l → k < 100) (h : RP I a (flt l ++ r)) : ∃ J, s_X2_advance I a = some J ∧ NB J a l r ∧ ∀ z, z ≠ a → J z = I z := by
  rcases l with _ | ⟨k, l⟩
  · obtain ⟨J, h1, h2, h3⟩ := adv_b h hr
    exact ⟨J, h1, Or.inl ⟨rfl, h2⟩, h3⟩
  · have h' : RP I a (List.replicate 1 32 ++ (dg k ++ (flt l ++ r))) := by
      have e : flt (k :: l) ++ r = List.replicate 1 32 ++ (dg k ++ (flt l ++ r)) := by
        show (32 :: (dg k ++ flt l)) ++ r = 32 :: (dg k ++ (flt l ++ r))
        rw [List.cons_append, List.append_assoc]
      rw [← e]; exact h
    obtain ⟨J, h1, h2, h3, h4⟩ := adv_n h' (hl k (by simp)) (flt_D l hr)
    exact ⟨J, h1, Or.inr ⟨k, l, rfl, h2, h3⟩, h4⟩
theorem card_L (hr : EB r) (hP : p + 3 ≤ P) (hH : 1 ≤ H ∧ H < 100) : ∀ (l : List Nat) (i f : Nat) (m m' : Int32) (I : JI), NB I (p + 1) l r → I P 0 = nI H → (∀ k, k ∈ l → k < H) → runM m l = some m' → i + l.length < 500 → l.length < f → ∃ J i', s_X5_readCard_L43 p P q1 f m (nI i) I = some (.inr (m', i', J)) ∧ AB J (p + 1) r ∧ ∀ z, z ≠ p → z ≠ p + 1 → J z = I z := by
  intro l
  induction l with
  | nil =>
    intro i f m m' I h h0 hl hm hi hf
    obtain ⟨f, rfl⟩ : ∃ g, f = g + 1 := ⟨f - 1, by omega⟩
    simp only [List.length_nil] at hi
    rcases h with ⟨-, h⟩ | ⟨k, l', e, -⟩
    · cases hm
      refine ⟨I, nI i, ?_, h, fun z _ _ => rfl⟩
      rw [s_X5_readCard_L43, if_neg (show ¬ (500 : Int32) ≤ nI i from nI_ge (b := 500) (by omega) (by decide)), if_neg h.kk]
    · cases e
  | cons k l ih =>
    intro i f m m' I h h0 hl hm hi hf
    obtain ⟨f, rfl⟩ : ∃ g, f = g + 1 := ⟨f - 1, by omega⟩
    simp only [List.length_cons] at hi hf
    rcases h with ⟨e, -⟩ | ⟨k', l', e, h2, h3⟩
    · cases e
    · cases e
      have hk := hl k (by simp)
      rw [runM] at hm
      by_cases q : hasB m (nI k) = true
      · rw [if_pos q] at hm; cases hm
      · rw [if_neg q] at hm
        have e1 := see_h (p := p) h0 hH h2 h3 hk
        obtain ⟨J, a1, a2, a3⟩ := adv_nb l hr (fun x hx => by have := hl x (by simp [hx]); omega) (h2.st (j := 4) (x := nI k)).rp
        obtain ⟨J2, i', b1, b2, b3⟩ := ih (i + 1) f _ m' J a2 (by rw [a3 P (by omega), stI_ne (by omega)]; exact h0) (fun x hx => hl x (by simp [hx])) hm (by omega) (by omega)
        refine ⟨J2, i', ?_, b2, fun z z1 z2 => by rw [b3 z z1 z2, a3 z z2, stI_ne z1]⟩
        rw [s_X5_readCard_L43, if_neg (show ¬ (500 : Int32) ≤ nI i from nI_ge (b := 500) (by omega) (by decide)), h2.2.1, if_pos (show nI 2 = 2 from rfl), e1, bd2_some, if_pos rfl, stI_at, if_neg q, lx_s, a1, bd_some, nI_1]
        exact b1
/-- a card -/
theorem it_card (h : AB I (p + 1) (tb ";card " ++ ([97 + c] ++ (TXl x 3 ++ r)))) (hr : EB r) (hc : c < 6) (hH : 1 ≤ H ∧ H ≤ 3) (hx : x < 2 ^ H) (hn : nc < 12) (hP : p + 3 ≤ P) (h1 : li nc = x) (h2 : we nc = c) (g : PLK I P H mo W nc on co li we y pk) : ∃ J, PS p P q1 I J ∧ AB J (p + 1) r ∧ PLK J P H mo W (nc + 1) on co li we y pk := by
  obtain ⟨t1, t2, t3⟩ := bits_ok hx hH.2
  rw [tx_card, t1] at h
  obtain ⟨K, k1, k2, k3⟩ := it_go (P := P) (q1 := q1) (w := [99, 97, 114, 100]) (r := 32 :: ([97 + c] ++ (flt (bitsL x) ++ r))) h (lw_of (by decide)) (by decide) (by decide) (hd_sp (by decide))
  have hL : hd0 isL (flt (bitsL x) ++ r) := by
    rcases bitsL x with _ | ⟨k, l⟩
    · exact hr.L
    · intro b t e; cases e; decide
  obtain ⟨K1, a1, a2, a4⟩ := adv_w (s := 1) (w := [97 + c]) (r := flt (bitsL x) ++ r) k1.rp (L_c hc) (Nat.le_refl 1) (show 1 ≤ 7 by decide) hL
  obtain ⟨K2, b1, b2, b4⟩ := adv_nb (bitsL x) hr (fun k hk => by have := t3 k hk; omega) (a2.st (j := 4) (x := nI c)).rp
  have e0 : s_X5_takeColour K1 p P = some (true, K2) := by
    unfold s_X5_takeColour
    rw [colour_v a2 hc, lx_s, stI_at, if_neg (m1_ne (by omega)), b1, bd_some]
  have c4 : K2 p 4 = nI c := by rw [b4 p (by omega)]; exact stI_at
  have f2 : ∀ z, P ≤ z → K2 z = I z := fun z hz => by rw [b4 z (by omega), stI_ne (by omega), a4 z (by omega), k2 z (by omega)]
  have g2 := g.fr f2
  have hbl : (bitsL x).length ≤ 3 := by
    unfold bitsL
    split <;> split <;> split <;> simp
  obtain ⟨K3, i', d1, d2, d3⟩ := card_L (q1 := nI c) hr hP ⟨hH.1, by omega⟩ (bitsL x) 0 lf 0 (nI x) K2 b2 g2.1.1 t3 t2 (by omega) (by unfold lf; omega)
  have g3 : PLK K3 P H mo W nc on co li we y pk := g2.fr fun z hz => d3 z (by omega) (by omega)
  have w2 := addCard_eq (l := nI x) (c := nI c) g3.1.2.2.2.2 hn
  have g4 := g3.card h1 h2
  rw [← w2] at g4
  have f4 : ∀ z, z < P → x3_addCard K3 P (nI x) (nI c) z = K3 z := fun z hz => by rw [w2, stI_ne (by omega), stI_ne (by omega), stI_ne (by omega), stI_ne (by omega), stI_ne (by omega)]
  refine ⟨_, k3 _ ?_, d2.fr (f4 _ (by omega)) (f4 _ (by omega)), g4⟩
  rw [ri_card (by rw [tw_card]; exact k1)]
  unfold s_X5_readCard
  rw [(g.fr (J := K) fun z hz => k2 z (by omega)).1.2.2.2.2, if_pos (show nI nc < 12 from nI_lt (b := 12) hn (by decide)), a1, bd_some, e0, bd2_some, if_pos rfl, c4, show (0 : Int32) = nI 0 from rfl, show nI 0 = (0 : Int32) from rfl]
  show (bl (s_X5_readCard_L43 p P (nI c) lf 0 (nI 0) K2) _) = _
  rw [d1]; rfl
end CRD
