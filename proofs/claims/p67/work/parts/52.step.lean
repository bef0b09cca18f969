/-! items of a setup -/
theorem tw_loom : tb "loom" = [108, 111, 111, 109] := by decide +kernel
theorem tw_repeat : tb "repeat" = [114, 101, 112, 101, 97, 116] := by decide +kernel
theorem tw_mirror : tb "mirror" = [109, 105, 114, 114, 111, 114] := by decide +kernel
theorem tw_back : tb "back" = [98, 97, 99, 107] := by decide +kernel
theorem tw_warp : tb "warp" = [119, 97, 114, 112] := by decide +kernel
theorem tw_card : tb "card" = [99, 97, 114, 100] := by decide +kernel
theorem tw_deck : tb "deck" = [100, 101, 99, 107] := by decide +kernel
theorem tw_yarn : tb "yarn" = [121, 97, 114, 110] := by decide +kernel
theorem tw_weave : tb "weave" = [119, 101, 97, 118, 101] := by decide +kernel
theorem tw_unweave : tb "unweave" = [117, 110, 119, 101, 97, 118, 101] := by decide +kernel
theorem tw_swap : tb "swap" = [115, 119, 97, 112] := by decide +kernel
theorem tw_punch : tb "punch" = [112, 117, 110, 99, 104] := by decide +kernel
theorem tw_dye : tb "dye" = [100, 121, 101] := by decide +kernel
theorem tw_oil : tb "oil" = [111, 105, 108] := by decide +kernel
theorem tw_invert : tb "invert" = [105, 110, 118, 101, 114, 116] := by decide +kernel
theorem tw_strain : tb "strain" = [115, 116, 114, 97, 105, 110] := by decide +kernel
theorem tw_motor : tb "motor" = [109, 111, 116, 111, 114] := by decide +kernel
theorem tw_mend : tb "mend" = [109, 101, 110, 100] := by decide +kernel
theorem aw_loom : asc "loom" ∧ (∀ x, x ∈ tb "loom" → x < 128) ∧ "loom".toList.length ≤ 10 := by unfold asc; decide +kernel
theorem aw_repeat : asc "repeat" ∧ (∀ x, x ∈ tb "repeat" → x < 128) ∧ "repeat".toList.length ≤ 10 := by unfold asc; decide +kernel
theorem aw_mirror : asc "mirror" ∧ (∀ x, x ∈ tb "mirror" → x < 128) ∧ "mirror".toList.length ≤ 10 := by unfold asc; decide +kernel
theorem aw_back : asc "back" ∧ (∀ x, x ∈ tb "back" → x < 128) ∧ "back".toList.length ≤ 10 := by unfold asc; decide +kernel
theorem aw_warp : asc "warp" ∧ (∀ x, x ∈ tb "warp" → x < 128) ∧ "warp".toList.length ≤ 10 := by unfold asc; decide +kernel
theorem aw_card : asc "card" ∧ (∀ x, x ∈ tb "card" → x < 128) ∧ "card".toList.length ≤ 10 := by unfold asc; decide +kernel
theorem aw_deck : asc "deck" ∧ (∀ x, x ∈ tb "deck" → x < 128) ∧ "deck".toList.length ≤ 10 := by unfold asc; decide +kernel
theorem aw_yarn : asc "yarn" ∧ (∀ x, x ∈ tb "yarn" → x < 128) ∧ "yarn".toList.length ≤ 10 := by unfold asc; decide +kernel
theorem aw_weave : asc "weave" ∧ (∀ x, x ∈ tb "weave" → x < 128) ∧ "weave".toList.length ≤ 10 := by unfold asc; decide +kernel
theorem aw_unweave : asc "unweave" ∧ (∀ x, x ∈ tb "unweave" → x < 128) ∧ "unweave".toList.length ≤ 10 := by unfold asc; decide +kernel
theorem aw_swap : asc "swap" ∧ (∀ x, x ∈ tb "swap" → x < 128) ∧ "swap".toList.length ≤ 10 := by unfold asc; decide +kernel
theorem aw_punch : asc "punch" ∧ (∀ x, x ∈ tb "punch" → x < 128) ∧ "punch".toList.length ≤ 10 := by unfold asc; decide +kernel
theorem aw_dye : asc "dye" ∧ (∀ x, x ∈ tb "dye" → x < 128) ∧ "dye".toList.length ≤ 10 := by unfold asc; decide +kernel
theorem aw_oil : asc "oil" ∧ (∀ x, x ∈ tb "oil" → x < 128) ∧ "oil".toList.length ≤ 10 := by unfold asc; decide +kernel
theorem aw_invert : asc "invert" ∧ (∀ x, x ∈ tb "invert" → x < 128) ∧ "invert".toList.length ≤ 10 := by unfold asc; decide +kernel
theorem aw_strain : asc "strain" ∧ (∀ x, x ∈ tb "strain" → x < 128) ∧ "strain".toList.length ≤ 10 := by unfold asc; decide +kernel
theorem aw_motor : asc "motor" ∧ (∀ x, x ∈ tb "motor" → x < 128) ∧ "motor".toList.length ≤ 10 := by unfold asc; decide +kernel
theorem aw_mend : asc "mend" ∧ (∀ x, x ∈ tb "mend" → x < 128) ∧ "mend".toList.length ≤ 10 := by unfold asc; decide +kernel
theorem tx_strain : tb ";strain " = [59, 115, 116, 114, 97, 105, 110, 32] := by decide +kernel
theorem tx_motor : tb ";motor " = [59, 109, 111, 116, 111, 114, 32] := by decide +kernel
theorem tx_warp : tb ";warp " = [59, 119, 97, 114, 112, 32] := by decide +kernel
theorem tx_card : tb ";card " = [59, 99, 97, 114, 100, 32] := by decide +kernel
theorem tx_yarn : tb ";yarn " = [59, 121, 97, 114, 110, 32] := by decide +kernel
theorem tx_deck : tb ";deck " = [59, 100, 101, 99, 107, 32] := by decide +kernel
theorem tx_weave : tb ";weave " = [59, 119, 101, 97, 118, 101, 32] := by decide +kernel
theorem tx_unweave1 : tb ";unweave 1" = [59, 117, 110, 119, 101, 97, 118, 101, 32, 49] := by decide +kernel
theorem tx_loom : tb "loom " = [108, 111, 111, 109, 32] := by decide +kernel
theorem tx_rep : tb " repeat " = [32, 114, 101, 112, 101, 97, 116, 32] := by decide +kernel
theorem tx_op : tb " (" = [32, 40] := by decide +kernel
theorem tx_mid : tb ");deck mirror (" = [41, 59, 100, 101, 99, 107, 32, 109, 105, 114, 114, 111, 114, 32, 40] := by decide +kernel
theorem tx_back : tb ") back (" = [41, 32, 98, 97, 99, 107, 32, 40] := by decide +kernel
theorem tx_rep2 : tb " repeat 2 (" = [32, 114, 101, 112, 101, 97, 116, 32, 50, 32, 40] := by decide +kernel
theorem tx_end : tb "))" = [41, 41] := by decide +kernel
def EB (r : List Nat) : Prop := r = [] ∨ ∃ r1, r = 59 :: r1
def AB (I : JI) (a : Nat) (r : List Nat) : Prop := (r = [] ∧ RD I a 0 [] []) ∨ ∃ r1, r = 59 :: r1 ∧ RD I a 3 [59] r1
/-- one turn of the reading -/
def PS (p P : Nat) (q1 : Int32) (I J : JI) : Prop := ∀ f i, i < 500 → s_X5_parse_L44 p P q1 (f + 1) (nI i) I = s_X5_parse_L44 p P q1 f (nI (i + 1)) J
section STP
variable {I J K : JI} {a k s v n p P lo hi : Nat} {w r r' : List Nat} {b : Nat} {q1 : Int32} {tx : String}
theorem EB.L (h : EB r) : hd0 isL r := by
  intro b t e
  rcases h with rfl | ⟨r1, rfl⟩
  · cases e
  · cases e; decide
theorem EB.D (h : EB r) : hd0 isD r := by
  intro b t e
  rcases h with rfl | ⟨r1, rfl⟩
  · cases e
  · cases e; decide
theorem hd_sp {f : Nat → Bool} (hf : f 32 = false) : hd0 f (32 :: r) := by intro b t e; cases e; exact ⟨hf, by decide⟩
theorem adv_b (h : RP I a r) (hr : EB r) : ∃ J, s_X2_advance I a = some J ∧ AB J a r ∧ ∀ z, z ≠ a → J z = I z := by
  rcases hr with rfl | ⟨r1, rfl⟩
  · obtain ⟨J, h1, h2, h3⟩ := adv_e h
    exact ⟨J, h1, Or.inl ⟨rfl, h2⟩, h3⟩
  · obtain ⟨J, h1, h2, h3⟩ := adv_s (s := 0) (k := 3) h (Or.inr (Or.inr ⟨rfl, rfl⟩))
    exact ⟨J, h1, Or.inr ⟨r1, rfl, h2⟩, h3⟩
theorem bd2_id {α γ : Type} (x : Option (α × γ)) : (bd2 x fun z I => some (z, I)) = x := by
  rcases x with _ | ⟨a, c⟩ <;> rfl
theorem RD.rp (h : RD I a k w r) : RP I a r := h.1
theorem RD.st (h : RD I (p + 1) k w r) {j : Nat} {x : Int32} : RD (stI I p j x) (p + 1) k w r := h.fr (stI_ne (by omega)) (stI_ne (by omega))
/-- a number is seen -/
theorem see_n (h : RD I (p + 1) 2 w r) (h6 : I (p + 1) 6 = nI v) {x1 x2 : Int32} (h1 : ¬ nI v < x1) (h2 : nI v ≤ x2) : s_X5_seeNumber I p P x1 x2 = some (true, stI I p 4 (nI v)) := by
  unfold s_X5_seeNumber
  rw [h.2.1, if_pos (show nI 2 = 2 from rfl), lx_s, stI_at, h6, if_neg h1, if_pos h2]
/-- an item begins -/
theorem it_go (h : AB I (p + 1) (59 :: (w ++ r))) (hw : ∀ x, x ∈ w → isL x = true ∧ x < 128) (h1 : 1 ≤ w.length) (h7 : w.length ≤ 7) (hr : hd0 isL r) : ∃ K, RD K (p + 1) 1 w r ∧ (∀ z, z ≠ p + 1 → K z = I z) ∧ ∀ J, s_X5_readItem K p P = some (true, J) → PS p P q1 I J := by
  rcases h with ⟨e, -⟩ | ⟨r1, e, h⟩
  · cases e
  · cases e
    obtain ⟨K, k1, k2, k3⟩ := adv_w (s := 0) h.1 hw h1 h7 hr
    refine ⟨K, k2, k3, fun J hJ f i hi => ?_⟩
    rw [s_X5_parse_L44, if_neg (show ¬ (500 : Int32) ≤ nI i from nI_ge (b := 500) hi (by decide)), h.2.1, if_neg (show ¬ nI 3 = 0 by decide), if_pos (show nI 3 = 3 from rfl), k1, bd_some, hJ, bd2_some, if_pos rfl, nI_1]
theorem ri_warp (h : RD I (p + 1) 1 (tb "warp") r) : s_X5_readItem I p P = s_X5_readWarps I p P := by
  have e : ∀ tx, (asc tx ∧ (∀ x, x ∈ tb tx → x < 128) ∧ tx.toList.length ≤ 10) → s_X2_isWord I (p + 1) tx = some (decide (tb "warp" = tb tx)) := fun tx ht => isW h aw_warp.2.1 ht
  unfold s_X5_readItem
  rw [e "warp" aw_warp, bd_some, if_pos (show decide (tb "warp" = tb "warp") = true by decide +kernel), bd2_id]
theorem ri_card (h : RD I (p + 1) 1 (tb "card") r) : s_X5_readItem I p P = s_X5_readCard I p P := by
  have e : ∀ tx, (asc tx ∧ (∀ x, x ∈ tb tx → x < 128) ∧ tx.toList.length ≤ 10) → s_X2_isWord I (p + 1) tx = some (decide (tb "card" = tb tx)) := fun tx ht => isW h aw_card.2.1 ht
  unfold s_X5_readItem
  rw [e "warp" aw_warp, bd_some, if_neg (show ¬ decide (tb "card" = tb "warp") = true by decide +kernel)]
  rw [e "card" aw_card, bd_some, if_pos (show decide (tb "card" = tb "card") = true by decide +kernel), bd2_id]
theorem ri_deck (h : RD I (p + 1) 1 (tb "deck") r) : s_X5_readItem I p P = s_X5_readDeck I p P := by
  have e : ∀ tx, (asc tx ∧ (∀ x, x ∈ tb tx → x < 128) ∧ tx.toList.length ≤ 10) → s_X2_isWord I (p + 1) tx = some (decide (tb "deck" = tb tx)) := fun tx ht => isW h aw_deck.2.1 ht
  unfold s_X5_readItem
  rw [e "warp" aw_warp, bd_some, if_neg (show ¬ decide (tb "deck" = tb "warp") = true by decide +kernel)]
  rw [e "card" aw_card, bd_some, if_neg (show ¬ decide (tb "deck" = tb "card") = true by decide +kernel)]
  rw [e "deck" aw_deck, bd_some, if_pos (show decide (tb "deck" = tb "deck") = true by decide +kernel), bd2_id]
theorem ri_yarn (h : RD I (p + 1) 1 (tb "yarn") r) : s_X5_readItem I p P = s_X5_readYarn I p P := by
  have e : ∀ tx, (asc tx ∧ (∀ x, x ∈ tb tx → x < 128) ∧ tx.toList.length ≤ 10) → s_X2_isWord I (p + 1) tx = some (decide (tb "yarn" = tb tx)) := fun tx ht => isW h aw_yarn.2.1 ht
  unfold s_X5_readItem
  rw [e "warp" aw_warp, bd_some, if_neg (show ¬ decide (tb "yarn" = tb "warp") = true by decide +kernel)]
  rw [e "card" aw_card, bd_some, if_neg (show ¬ decide (tb "yarn" = tb "card") = true by decide +kernel)]
  rw [e "deck" aw_deck, bd_some, if_neg (show ¬ decide (tb "yarn" = tb "deck") = true by decide +kernel)]
  rw [e "yarn" aw_yarn, bd_some, if_pos (show decide (tb "yarn" = tb "yarn") = true by decide +kernel), bd2_id]
theorem ri_weave (h : RD I (p + 1) 1 (tb "weave") r) : s_X5_readItem I p P = s_X5_readWeave I p P := by
  have e : ∀ tx, (asc tx ∧ (∀ x, x ∈ tb tx → x < 128) ∧ tx.toList.length ≤ 10) → s_X2_isWord I (p + 1) tx = some (decide (tb "weave" = tb tx)) := fun tx ht => isW h aw_weave.2.1 ht
  unfold s_X5_readItem
  rw [e "warp" aw_warp, bd_some, if_neg (show ¬ decide (tb "weave" = tb "warp") = true by decide +kernel)]
  rw [e "card" aw_card, bd_some, if_neg (show ¬ decide (tb "weave" = tb "card") = true by decide +kernel)]
  rw [e "deck" aw_deck, bd_some, if_neg (show ¬ decide (tb "weave" = tb "deck") = true by decide +kernel)]
  rw [e "yarn" aw_yarn, bd_some, if_neg (show ¬ decide (tb "weave" = tb "yarn") = true by decide +kernel)]
  rw [e "weave" aw_weave, bd_some, if_pos (show decide (tb "weave" = tb "weave") = true by decide +kernel), bd2_id]
theorem ri_unweave (h : RD I (p + 1) 1 (tb "unweave") r) : s_X5_readItem I p P = s_X5_readUnweave I p P := by
  have e : ∀ tx, (asc tx ∧ (∀ x, x ∈ tb tx → x < 128) ∧ tx.toList.length ≤ 10) → s_X2_isWord I (p + 1) tx = some (decide (tb "unweave" = tb tx)) := fun tx ht => isW h aw_unweave.2.1 ht
  unfold s_X5_readItem
  rw [e "warp" aw_warp, bd_some, if_neg (show ¬ decide (tb "unweave" = tb "warp") = true by decide +kernel)]
  rw [e "card" aw_card, bd_some, if_neg (show ¬ decide (tb "unweave" = tb "card") = true by decide +kernel)]
  rw [e "deck" aw_deck, bd_some, if_neg (show ¬ decide (tb "unweave" = tb "deck") = true by decide +kernel)]
  rw [e "yarn" aw_yarn, bd_some, if_neg (show ¬ decide (tb "unweave" = tb "yarn") = true by decide +kernel)]
  rw [e "weave" aw_weave, bd_some, if_neg (show ¬ decide (tb "unweave" = tb "weave") = true by decide +kernel)]
  rw [e "unweave" aw_unweave, bd_some, if_pos (show decide (tb "unweave" = tb "unweave") = true by decide +kernel), bd2_id]
theorem ri_strain (h : RD I (p + 1) 1 (tb "strain") r) : s_X5_readItem I p P = s_X5_readStrain I p P := by
  have e : ∀ tx, (asc tx ∧ (∀ x, x ∈ tb tx → x < 128) ∧ tx.toList.length ≤ 10) → s_X2_isWord I (p + 1) tx = some (decide (tb "strain" = tb tx)) := fun tx ht => isW h aw_strain.2.1 ht
  unfold s_X5_readItem
  rw [e "warp" aw_warp, bd_some, if_neg (show ¬ decide (tb "strain" = tb "warp") = true by decide +kernel)]
  rw [e "card" aw_card, bd_some, if_neg (show ¬ decide (tb "strain" = tb "card") = true by decide +kernel)]
  rw [e "deck" aw_deck, bd_some, if_neg (show ¬ decide (tb "strain" = tb "deck") = true by decide +kernel)]
  rw [e "yarn" aw_yarn, bd_some, if_neg (show ¬ decide (tb "strain" = tb "yarn") = true by decide +kernel)]
  rw [e "weave" aw_weave, bd_some, if_neg (show ¬ decide (tb "strain" = tb "weave") = true by decide +kernel)]
  rw [e "unweave" aw_unweave, bd_some, if_neg (show ¬ decide (tb "strain" = tb "unweave") = true by decide +kernel)]
  rw [e "swap" aw_swap, bd_some, if_neg (show ¬ decide (tb "strain" = tb "swap") = true by decide +kernel)]
  rw [e "punch" aw_punch, bd_some, if_neg (show ¬ decide (tb "strain" = tb "punch") = true by decide +kernel)]
  rw [e "dye" aw_dye, bd_some, if_neg (show ¬ decide (tb "strain" = tb "dye") = true by decide +kernel)]
  rw [e "oil" aw_oil, bd_some, if_neg (show ¬ decide (tb "strain" = tb "oil") = true by decide +kernel)]
  rw [e "invert" aw_invert, bd_some, if_neg (show ¬ decide (tb "strain" = tb "invert") = true by decide +kernel)]
  rw [e "strain" aw_strain, bd_some, if_pos (show decide (tb "strain" = tb "strain") = true by decide +kernel), bd2_id]
theorem ri_motor (h : RD I (p + 1) 1 (tb "motor") r) : s_X5_readItem I p P = s_X5_readMotor I p P := by
  have e : ∀ tx, (asc tx ∧ (∀ x, x ∈ tb tx → x < 128) ∧ tx.toList.length ≤ 10) → s_X2_isWord I (p + 1) tx = some (decide (tb "motor" = tb tx)) := fun tx ht => isW h aw_motor.2.1 ht
  unfold s_X5_readItem
  rw [e "warp" aw_warp, bd_some, if_neg (show ¬ decide (tb "motor" = tb "warp") = true by decide +kernel)]
  rw [e "card" aw_card, bd_some, if_neg (show ¬ decide (tb "motor" = tb "card") = true by decide +kernel)]
  rw [e "deck" aw_deck, bd_some, if_neg (show ¬ decide (tb "motor" = tb "deck") = true by decide +kernel)]
  rw [e "yarn" aw_yarn, bd_some, if_neg (show ¬ decide (tb "motor" = tb "yarn") = true by decide +kernel)]
  rw [e "weave" aw_weave, bd_some, if_neg (show ¬ decide (tb "motor" = tb "weave") = true by decide +kernel)]
  rw [e "unweave" aw_unweave, bd_some, if_neg (show ¬ decide (tb "motor" = tb "unweave") = true by decide +kernel)]
  rw [e "swap" aw_swap, bd_some, if_neg (show ¬ decide (tb "motor" = tb "swap") = true by decide +kernel)]
  rw [e "punch" aw_punch, bd_some, if_neg (show ¬ decide (tb "motor" = tb "punch") = true by decide +kernel)]
  rw [e "dye" aw_dye, bd_some, if_neg (show ¬ decide (tb "motor" = tb "dye") = true by decide +kernel)]
  rw [e "oil" aw_oil, bd_some, if_neg (show ¬ decide (tb "motor" = tb "oil") = true by decide +kernel)]
  rw [e "invert" aw_invert, bd_some, if_neg (show ¬ decide (tb "motor" = tb "invert") = true by decide +kernel)]
  rw [e "strain" aw_strain, bd_some, if_neg (show ¬ decide (tb "motor" = tb "strain") = true by decide +kernel)]
  rw [e "motor" aw_motor, bd_some, if_pos (show decide (tb "motor" = tb "motor") = true by decide +kernel), bd2_id]
theorem lw_of {w : List Nat} (h : w.all (fun x => isL x && decide (x < 128)) = true) : ∀ x, x ∈ w → isL x = true ∧ x < 128 := by
  intro x hx
  have := List.all_eq_true.mp h x hx
  simp only [Bool.and_eq_true, decide_eq_true_eq] at this
  exact this
/-- what has been read of the loom -/
def PLK (I : JI) (P H mo W nc : Nat) (on co li we y : Nat → Nat) (pk : List Nat) : Prop :=
  (I P 0 = nI H ∧ (∃ q, q ≤ 60 ∧ I P 2 = nI q) ∧ I P 3 = nI mo ∧ I P 4 = nI W ∧ I P 7 = nI nc) ∧
  ((∀ w, w < W → I (P + 1) w = nI (on w) ∧ I (P + 2) w = nI (co w)) ∧ (∀ k, k < nc → I (P + 3) k = nI (li k) ∧ I (P + 4) k = nI (we k) ∧ I (P + 10 + 3) k = nI (li k) ∧ I (P + 10 + 4) k = nI (we k))) ∧
  (I (P + 5) 3 = nI pk.length ∧ I (P + 5) 7 = 0 ∧ ∀ i, i < pk.length → I (P + 7) i = nI (pk.getD i 0)) ∧
  (I (P + 10) 0 = 0 ∧ I (P + 10) 1 = 0 ∧ I (P + 10) 2 = 0 ∧ I (P + 10) 3 = 0 ∧ I (P + 10) 4 = nI (ysm y) ∧ I (P + 10) 5 = 0) ∧ (∀ k, k < 6 → I (P + 10 + 2) k = nI (y k)) ∧ I (P + 26) 1 = 0
end STP
section PLKS
variable {I J K : JI} {p P H mo W nc v : Nat} {on co li we y : Nat → Nat} {pk r w : List Nat} {q1 : Int32} {c h x k : Nat}
theorem AB.fr {a : Nat} (g : AB I a r) (h1 : J a = I a) (h2 : J (a + 1) = I (a + 1)) : AB J a r := by
  rcases g with ⟨e, g⟩ | ⟨r1, e, g⟩
  · exact Or.inl ⟨e, g.fr h1 h2⟩
  · exact Or.inr ⟨r1, e, g.fr h1 h2⟩
theorem PLK.fr (g : PLK I P H mo W nc on co li we y pk) (e : ∀ z, P ≤ z → J z = I z) : PLK J P H mo W nc on co li we y pk := by
  unfold PLK
  rw [e P (by omega), e (P + 1) (by omega), e (P + 2) (by omega), e (P + 3) (by omega), e (P + 4) (by omega), e (P + 5) (by omega), e (P + 7) (by omega), e (P + 10) (by omega), e (P + 10 + 2) (by omega), e (P + 10 + 3) (by omega), e (P + 10 + 4) (by omega), e (P + 26) (by omega)]
  exact g
theorem PLK.strain (g : PLK I P H mo W nc on co li we y pk) (hv : v ≤ 60) : PLK (stI I P 2 (nI v)) P H mo W nc on co li we y pk := by
  obtain ⟨⟨a1, a2, a3, a4, a5⟩, g⟩ := g
  have e : ∀ z, P < z → stI I P 2 (nI v) z = I z := fun z hz => stI_ne (by omega)
  unfold PLK
  rw [e (P + 1) (by omega), e (P + 2) (by omega), e (P + 3) (by omega), e (P + 4) (by omega), e (P + 5) (by omega), e (P + 7) (by omega), e (P + 10) (by omega), e (P + 10 + 2) (by omega), e (P + 10 + 3) (by omega), e (P + 10 + 4) (by omega), e (P + 26) (by omega), stI_aj (show 0 ≠ 2 by decide), stI_aj (show 3 ≠ 2 by decide), stI_aj (show 4 ≠ 2 by decide), stI_aj (show 7 ≠ 2 by decide), stI_at]
  exact ⟨⟨a1, ⟨v, hv, rfl⟩, a3, a4, a5⟩, g⟩
theorem PLK.motor (g : PLK I P H mo W nc on co li we y pk) : PLK (stI I P 3 (nI v)) P H v W nc on co li we y pk := by
  obtain ⟨⟨a1, a2, a3, a4, a5⟩, g⟩ := g
  have e : ∀ z, P < z → stI I P 3 (nI v) z = I z := fun z hz => stI_ne (by omega)
  unfold PLK
  rw [e (P + 1) (by omega), e (P + 2) (by omega), e (P + 3) (by omega), e (P + 4) (by omega), e (P + 5) (by omega), e (P + 7) (by omega), e (P + 10) (by omega), e (P + 10 + 2) (by omega), e (P + 10 + 3) (by omega), e (P + 10 + 4) (by omega), e (P + 26) (by omega), stI_aj (show 0 ≠ 3 by decide), stI_aj (show 2 ≠ 3 by decide), stI_aj (show 4 ≠ 3 by decide), stI_aj (show 7 ≠ 3 by decide), stI_at]
  exact ⟨⟨a1, a2, rfl, a4, a5⟩, g⟩
/-- a function changed at a place -/
def upN (f : Nat → Nat) (i v : Nat) : Nat → Nat := fun j => if j = i then v else f j
theorem addWarp_eq (h4 : I P 4 = nI W) (hW : W < 24) : x3_addWarpB I P = true ∧ x3_addWarp I P (nI h) (nI c) = stI (stI (stI I (P + 1) W (nI h)) (P + 2) W (nI c)) P 4 (nI (W + 1)) := by
  have hB : x3_addWarpB I P = true := by unfold x3_addWarpB; rw [h4]; exact decide_eq_true (nI_lt (b := 24) hW (by decide))
  refine ⟨hB, ?_⟩
  unfold x3_addWarp
  rw [if_pos hB, h4, ptI_nI hW (by omega), stI_ne (show P ≠ P + 1 by omega), h4, ptI_nI hW (by omega), stI_ne (show P ≠ P + 2 by omega), stI_ne (show P ≠ P + 1 by omega), h4, nI_1]
theorem PLK.warp (g : PLK I P H mo W nc on co li we y pk) (h1 : on W = h) (h2 : co W = c) : PLK (stI (stI (stI I (P + 1) W (nI h)) (P + 2) W (nI c)) P 4 (nI (W + 1))) P H mo (W + 1) nc on co li we y pk := by
  obtain ⟨⟨a1, a2, a3, a4, a5⟩, ⟨b1, b2⟩, g⟩ := g
  have e : ∀ z, P + 2 < z → stI (stI (stI I (P + 1) W (nI h)) (P + 2) W (nI c)) P 4 (nI (W + 1)) z = I z := fun z hz => by rw [stI_ne (by omega), stI_ne (by omega), stI_ne (by omega)]
  have e0 : ∀ j, j ≠ 4 → stI (stI (stI I (P + 1) W (nI h)) (P + 2) W (nI c)) P 4 (nI (W + 1)) P j = I P j := fun j hj => by rw [stI_aj hj, stI_ne (by omega), stI_ne (by omega)]
  unfold PLK
  rw [e (P + 3) (by omega), e (P + 4) (by omega), e (P + 5) (by omega), e (P + 7) (by omega), e (P + 10) (by omega), e (P + 10 + 2) (by omega), e (P + 10 + 3) (by omega), e (P + 10 + 4) (by omega), e (P + 26) (by omega), e0 0 (by decide), e0 2 (by decide), e0 3 (by decide), e0 7 (by decide), stI_at]
  refine ⟨⟨a1, a2, a3, rfl, a5⟩, ⟨fun w hw => ?_, b2⟩, g⟩
  rw [stI_ne (show P + 1 ≠ P by omega), stI_ne (show P + 1 ≠ P + 2 by omega), stI_ne (show P + 2 ≠ P by omega)]
  by_cases q : w = W
  · subst q; rw [stI_at, stI_at, h1, h2]; exact ⟨rfl, rfl⟩
  · rw [stI_aj q, stI_aj q, stI_ne (show P + 2 ≠ P + 1 by omega)]; exact b1 w (by omega)
theorem addCard_eq {l c : Int32} (h7 : I P 7 = nI k) (hk : k < 12) : x3_addCard I P l c = stI (stI (stI (stI (stI I (P + 3) k l) (P + 4) k c) (P + 10 + 3) k l) (P + 10 + 4) k c) P 7 (nI (k + 1)) := by
  unfold x3_addCard
  rw [h7, ptI_nI hk (by omega)]
  dsimp only
  have e1 : stI I (P + 3) k l P 7 = nI k := by rw [stI_ne (by omega)]; exact h7
  rw [e1, ptI_nI hk (by omega)]
  have e2 : stI (stI I (P + 3) k l) (P + 4) k c P 7 = nI k := by rw [stI_ne (by omega)]; exact e1
  rw [e2, ptI_nI hk (by omega)]
  have e3 : stI (stI (stI I (P + 3) k l) (P + 4) k c) (P + 10 + 3) k l P 7 = nI k := by rw [stI_ne (by omega)]; exact e2
  rw [e3, ptI_nI hk (by omega)]
  have e4 : stI (stI (stI (stI I (P + 3) k l) (P + 4) k c) (P + 10 + 3) k l) (P + 10 + 4) k c P 7 = nI k := by rw [stI_ne (by omega)]; exact e3
  rw [e4, nI_1]
theorem PLK.card (g : PLK I P H mo W nc on co li we y pk) (h1 : li nc = h) (h2 : we nc = c) : PLK (stI (stI (stI (stI (stI I (P + 3) nc (nI h)) (P + 4) nc (nI c)) (P + 10 + 3) nc (nI h)) (P + 10 + 4) nc (nI c)) P 7 (nI (nc + 1))) P H mo W (nc + 1) on co li we y pk := by
  obtain ⟨⟨a1, a2, a3, a4, a5⟩, ⟨b1, b2⟩, g⟩ := g
  obtain ⟨M, hM⟩ : ∃ M, M = stI (stI (stI (stI (stI I (P + 3) nc (nI h)) (P + 4) nc (nI c)) (P + 10 + 3) nc (nI h)) (P + 10 + 4) nc (nI c)) P 7 (nI (nc + 1)) := ⟨_, rfl⟩
  rw [← hM]
  have e : ∀ z, z ≠ P → z ≠ P + 3 → z ≠ P + 4 → z ≠ P + 10 + 3 → z ≠ P + 10 + 4 → M z = I z := fun z z0 z1 z2 z3 z4 => by rw [hM, stI_ne z0, stI_ne z4, stI_ne z3, stI_ne z2, stI_ne z1]
  have e0 : ∀ j, j ≠ 7 → M P j = I P j := fun j hj => by rw [hM, stI_aj hj, stI_ne (by omega), stI_ne (by omega), stI_ne (by omega), stI_ne (by omega)]
  have e7 : M P 7 = nI (nc + 1) := by rw [hM]; exact stI_at
  have f3 : M (P + 3) = stI I (P + 3) nc (nI h) (P + 3) := by rw [hM, stI_ne (by omega), stI_ne (by omega), stI_ne (by omega), stI_ne (by omega)]
  have f4 : M (P + 4) = stI (stI I (P + 3) nc (nI h)) (P + 4) nc (nI c) (P + 4) := by rw [hM, stI_ne (by omega), stI_ne (by omega), stI_ne (by omega)]
  have f5 : M (P + 10 + 3) = stI (stI (stI I (P + 3) nc (nI h)) (P + 4) nc (nI c)) (P + 10 + 3) nc (nI h) (P + 10 + 3) := by rw [hM, stI_ne (by omega), stI_ne (by omega)]
  have f6 : M (P + 10 + 4) = stI (stI (stI (stI I (P + 3) nc (nI h)) (P + 4) nc (nI c)) (P + 10 + 3) nc (nI h)) (P + 10 + 4) nc (nI c) (P + 10 + 4) := by rw [hM, stI_ne (by omega)]
  unfold PLK
  rw [e (P + 1) (by omega) (by omega) (by omega) (by omega) (by omega), e (P + 2) (by omega) (by omega) (by omega) (by omega) (by omega), e (P + 5) (by omega) (by omega) (by omega) (by omega) (by omega), e (P + 7) (by omega) (by omega) (by omega) (by omega) (by omega), e (P + 10) (by omega) (by omega) (by omega) (by omega) (by omega), e (P + 10 + 2) (by omega) (by omega) (by omega) (by omega) (by omega), e (P + 26) (by omega) (by omega) (by omega) (by omega) (by omega), e0 0 (by decide), e0 2 (by decide), e0 3 (by decide), e0 4 (by decide), e7]
  refine ⟨⟨a1, a2, a3, a4, rfl⟩, ⟨b1, fun k hk => ?_⟩, g⟩
  rw [f3, f4, f5, f6]
  by_cases q : k = nc
  · subst q; rw [stI_at, stI_at, stI_at, stI_at, h1, h2]; exact ⟨rfl, rfl, rfl, rfl⟩
  · rw [stI_aj q, stI_aj q, stI_aj q, stI_aj q, stI_ne (show P + 4 ≠ P + 3 by omega), stI_ne (show P + 10 + 3 ≠ P + 4 by omega), stI_ne (show P + 10 + 3 ≠ P + 3 by omega), stI_ne (show P + 10 + 4 ≠ P + 10 + 3 by omega), stI_ne (show P + 10 + 4 ≠ P + 4 by omega), stI_ne (show P + 10 + 4 ≠ P + 3 by omega)]
    exact b2 k (by omega)
theorem PLK.yarn (g : PLK I P H mo W nc on co li we y pk) (hx : x < 6) : PLK (x7_bring I (P + 10) (nI x) (nI v)) P H mo W nc on co li we (upN y x (y x + v)) pk := by
  obtain ⟨a, b, d, ⟨g0, g1, g2, g3, g4, g5⟩, g6, g7⟩ := g
  have e0 : x7_bring I (P + 10) (nI x) (nI v) = stI (stI I (P + 10 + 2) x (nI (y x + v))) (P + 10) 4 (nI (ysm y + v)) := by
    unfold x7_bring x7_addYarn
    rw [ptI_nI hx (by omega), atF_nI hx (by omega), g6 x hx, nI_add, stI_ne (show P + 10 ≠ P + 10 + 2 by omega), g4, nI_add]
  have ey : ysm (upN y x (y x + v)) = ysm y + v := by
    have := ysm_up (y := y) (x := x) (a := y x + v) hx
    unfold upN; omega
  obtain ⟨M, hM⟩ : ∃ M, M = stI (stI I (P + 10 + 2) x (nI (y x + v))) (P + 10) 4 (nI (ysm y + v)) := ⟨_, rfl⟩
  rw [e0, ← hM]
  have e : ∀ z, z ≠ P + 10 → z ≠ P + 10 + 2 → M z = I z := fun z z0 z1 => by rw [hM, stI_ne z0, stI_ne z1]
  have e1 : ∀ j, j ≠ 4 → M (P + 10) j = I (P + 10) j := fun j hj => by rw [hM, stI_aj hj, stI_ne (by omega)]
  have e4 : M (P + 10) 4 = nI (ysm y + v) := by rw [hM]; exact stI_at
  have e2 : M (P + 10 + 2) = stI I (P + 10 + 2) x (nI (y x + v)) (P + 10 + 2) := by rw [hM, stI_ne (by omega)]
  unfold PLK
  rw [e P (by omega) (by omega), e (P + 1) (by omega) (by omega), e (P + 2) (by omega) (by omega), e (P + 3) (by omega) (by omega), e (P + 4) (by omega) (by omega), e (P + 5) (by omega) (by omega), e (P + 7) (by omega) (by omega), e (P + 10 + 3) (by omega) (by omega), e (P + 10 + 4) (by omega) (by omega), e (P + 26) (by omega) (by omega), e1 0 (by decide), e1 1 (by decide), e1 2 (by decide), e1 3 (by decide), e1 5 (by decide), e4, e2, ey]
  refine ⟨a, b, d, ⟨g0, g1, g2, g3, rfl, g5⟩, fun k hk => ?_, g7⟩
  by_cases q : k = x
  · subst q; rw [stI_at]; unfold upN; rw [if_pos rfl]
  · rw [stI_aj q]; unfold upN; rw [if_neg q]; exact g6 k hk
/-- strain -/
theorem it_strain (h : AB I (p + 1) (tb ";strain " ++ (dg v ++ r))) (hr : EB r) (hv : v ≤ 60) (hP : p + 3 ≤ P) (g : PLK I P H mo W nc on co li we y pk) : ∃ J, PS p P q1 I J ∧ AB J (p + 1) r ∧ PLK J P H mo W nc on co li we y pk := by
  rw [tx_strain] at h
  obtain ⟨K, k1, k2, k3⟩ := it_go (P := P) (q1 := q1) (w := [115, 116, 114, 97, 105, 110]) (r := 32 :: (dg v ++ r)) h (lw_of (by decide)) (by decide) (by decide) (hd_sp (by decide))
  obtain ⟨K1, a1, a2, a3, a4⟩ := adv_n (s := 1) k1.rp (by omega) hr.D
  have e1 := see_n (P := P) (x1 := 0) (x2 := 60) a2 a3 (nI_nlt (b := 0) (by omega) (by omega)) (nI_le (b := 60) hv (by decide))
  obtain ⟨K2, b1, b2, b3⟩ := adv_b (a2.st (j := 4) (x := nI v)).rp hr
  have e4 : K2 p 4 = nI v := by rw [b3 p (by omega)]; exact stI_at
  refine ⟨stI K2 P 2 (nI v), k3 _ ?_, b2.fr (stI_ne (by omega)) (stI_ne (by omega)), PLK.strain (g.fr fun z hz => ?_) hv⟩
  · rw [ri_strain (by rw [tw_strain]; exact k1)]
    unfold s_X5_readStrain s_X5_takeNumber
    rw [a1, bd_some, e1, bd2_some, if_pos rfl, b1, bd_some, bd2_some, if_pos rfl, lx_s, e4]
  · rw [b3 z (by omega), stI_ne (by omega), a4 z (by omega), k2 z (by omega)]
/-- motor -/
theorem it_motor (h : AB I (p + 1) (tb ";motor " ++ (dg v ++ r))) (hr : EB r) (hv : v ≤ 24) (hv1 : 1 ≤ v) (hP : p + 3 ≤ P) (g : PLK I P H mo W nc on co li we y pk) : ∃ J, PS p P q1 I J ∧ AB J (p + 1) r ∧ PLK J P H v W nc on co li we y pk := by
  rw [tx_motor] at h
  obtain ⟨K, k1, k2, k3⟩ := it_go (P := P) (q1 := q1) (w := [109, 111, 116, 111, 114]) (r := 32 :: (dg v ++ r)) h (lw_of (by decide)) (by decide) (by decide) (hd_sp (by decide))
  obtain ⟨K1, a1, a2, a3, a4⟩ := adv_n (s := 1) k1.rp (by omega) hr.D
  have e1 := see_n (P := P) (x1 := 1) (x2 := 24) a2 a3 (nI_nlt (b := 1) hv1 (by omega)) (nI_le (b := 24) hv (by decide))
  obtain ⟨K2, b1, b2, b3⟩ := adv_b (a2.st (j := 4) (x := nI v)).rp hr
  have e4 : K2 p 4 = nI v := by rw [b3 p (by omega)]; exact stI_at
  refine ⟨stI K2 P 3 (nI v), k3 _ ?_, b2.fr (stI_ne (by omega)) (stI_ne (by omega)), PLK.motor (g.fr fun z hz => ?_)⟩
  · rw [ri_motor (by rw [tw_motor]; exact k1)]
    unfold s_X5_readMotor s_X5_takeNumber
    rw [a1, bd_some, e1, bd2_some, if_pos rfl, b1, bd_some, bd2_some, if_pos rfl, lx_s, e4]
  · rw [b3 z (by omega), stI_ne (by omega), a4 z (by omega), k2 z (by omega)]
/-- a colour -/
theorem take_c (h : RD I (p + 1) 1 [97 + c] (32 :: r)) (hc : c < 6) {J : JI} (hJ : s_X2_advance (stI I p 4 (nI c)) (p + 1) = some J) : s_X5_takeColour I p P = some (true, J) := by
  unfold s_X5_takeColour
  rw [colour_v h hc, lx_s, stI_at, if_neg (m1_ne (by omega)), hJ, bd_some]
theorem L_c (hc : c < 6) : ∀ x, x ∈ [97 + c] → isL x = true ∧ x < 128 := by
  intro x hx
  simp at hx
  subst hx
  refine ⟨?_, by omega⟩
  unfold isL; rw [decide_eq_true (by omega), decide_eq_true (by omega)]; rfl
/-- yarn -/
theorem it_yarn (h : AB I (p + 1) (tb ";yarn " ++ ([97 + c] ++ ([32] ++ (dg v ++ r))))) (hr : EB r) (hc : c < 6) (hv : v < 100) (hv1 : 1 ≤ v) (hP : p + 3 ≤ P) (g : PLK I P H mo W nc on co li we y pk) : ∃ J, PS p P q1 I J ∧ AB J (p + 1) r ∧ PLK J P H mo W nc on co li we (upN y c (y c + v)) pk := by
  rw [tx_yarn] at h
  obtain ⟨K, k1, k2, k3⟩ := it_go (P := P) (q1 := q1) (w := [121, 97, 114, 110]) (r := 32 :: ([97 + c] ++ ([32] ++ (dg v ++ r)))) h (lw_of (by decide)) (by decide) (by decide) (hd_sp (by decide))
  obtain ⟨K1, a1, a2, a4⟩ := adv_w (s := 1) (w := [97 + c]) (r := 32 :: (dg v ++ r)) k1.rp (L_c hc) (Nat.le_refl 1) (show 1 ≤ 7 by decide) (hd_sp (by decide))
  obtain ⟨K2, b1, b2, b3, b4⟩ := adv_n (s := 1) (a2.st (j := 4) (x := nI c)).rp hv hr.D
  have e0 := take_c (P := P) a2 hc b1
  have c4 : K2 p 4 = nI c := by rw [b4 p (by omega)]; exact stI_at
  have e1 := see_n (P := P) (x1 := 1) (x2 := 999) b2 b3 (nI_nlt (b := 1) hv1 (by omega)) (nI_le (b := 999) (by omega) (by decide))
  obtain ⟨K3, d1, d2, d3⟩ := adv_b (b2.st (j := 4) (x := nI v)).rp hr
  have e4 : K3 p 4 = nI v := by rw [d3 p (by omega)]; exact stI_at
  have f0 : ∀ z, z ≠ P + 10 → z ≠ P + 10 + 2 → x7_bring K3 (P + 10) (nI c) (nI v) z = K3 z := fun z z0 z1 => by unfold x7_bring x7_addYarn; rw [stI_ne z0, ptI_ne z1]
  refine ⟨x7_bring K3 (P + 10) (nI c) (nI v), k3 _ ?_, d2.fr (f0 _ (by omega) (by omega)) (f0 _ (by omega) (by omega)), PLK.yarn (g.fr fun z hz => ?_) hc⟩
  · rw [ri_yarn (by rw [tw_yarn]; exact k1)]
    unfold s_X5_readYarn s_X5_takeNumber
    rw [a1, bd_some, e0, bd2_some, if_pos rfl, e1, bd2_some, if_pos rfl, d1, bd_some, bd2_some, if_pos rfl, lx_s, c4, e4]
  · rw [d3 z (by omega), stI_ne (by omega), b4 z (by omega), stI_ne (by omega), a4 z (by omega), k2 z (by omega)]
theorem see_h (h0 : I P 0 = nI H) (hH : 1 ≤ H ∧ H < 100) (h : RD I (p + 1) 2 w r) (h6 : I (p + 1) 6 = nI v) (hv : v < H) : s_X5_seeHarness I p P = some (true, stI I p 4 (nI v)) := by
  unfold s_X5_seeHarness
  rw [h0, see_n (P := P) (x1 := 0) h h6 (nI_nlt (b := 0) (by omega) (by omega)) (show nI v ≤ nI H - 1 by rw [show (1 : Int32) = nI 1 from rfl, nI_sub (by omega)]; exact nI_le (by omega) (by omega)), bd2_some]
theorem AB.kk (h : AB I (p + 1) r) : ¬ I (p + 1) 4 = 2 := by
  rcases h with ⟨-, h⟩ | ⟨_, -, h⟩
  · rw [h.2.1]; decide
  · rw [h.2.1]; decide
/-- a warp -/
theorem it_warp (h : AB I (p + 1) (tb ";warp " ++ ([97 + c] ++ ([32] ++ (dg v ++ r))))) (hr : EB r) (hc : c < 6) (hH : 1 ≤ H ∧ H < 100) (hv : v < H) (hW : W < 24) (hP : p + 3 ≤ P) (h1 : on W = v) (h2 : co W = c) (g : PLK I P H mo W nc on co li we y pk) : ∃ J, PS p P q1 I J ∧ AB J (p + 1) r ∧ PLK J P H mo (W + 1) nc on co li we y pk := by
  rw [tx_warp] at h
  obtain ⟨K, k1, k2, k3⟩ := it_go (P := P) (q1 := q1) (w := [119, 97, 114, 112]) (r := 32 :: ([97 + c] ++ ([32] ++ (dg v ++ r)))) h (lw_of (by decide)) (by decide) (by decide) (hd_sp (by decide))
  obtain ⟨K1, a1, a2, a4⟩ := adv_w (s := 1) (w := [97 + c]) (r := 32 :: (dg v ++ r)) k1.rp (L_c hc) (Nat.le_refl 1) (show 1 ≤ 7 by decide) (hd_sp (by decide))
  obtain ⟨K2, b1, b2, b3, b4⟩ := adv_n (s := 1) (a2.st (j := 4) (x := nI c)).rp (by omega) hr.D
  have e0 := take_c (P := P) a2 hc b1
  have c4 : K2 p 4 = nI c := by rw [b4 p (by omega)]; exact stI_at
  have f2 : ∀ z, P ≤ z → K2 z = I z := fun z hz => by rw [b4 z (by omega), stI_ne (by omega), a4 z (by omega), k2 z (by omega)]
  have g2 := g.fr f2
  have e1 := see_h g2.1.1 hH b2 b3 hv
  have g3 : PLK (stI K2 p 4 (nI v)) P H mo W nc on co li we y pk := g2.fr fun z hz => stI_ne (by omega)
  obtain ⟨w1, w2⟩ := addWarp_eq (h := v) (c := c) g3.1.2.2.2.1 hW
  have g4 := g3.warp h1 h2
  rw [← w2] at g4
  have f4 : ∀ z, z ≠ P → z ≠ P + 1 → z ≠ P + 2 → x3_addWarp (stI K2 p 4 (nI v)) P (nI v) (nI c) z = stI K2 p 4 (nI v) z := fun z z0 z1 z2 => by rw [w2, stI_ne z0, stI_ne z2, stI_ne z1]
  have b5 : RD (x3_addWarp (stI K2 p 4 (nI v)) P (nI v) (nI c)) (p + 1) 2 (dg v) r := (b2.st (j := 4) (x := nI v)).fr (f4 _ (by omega) (by omega) (by omega)) (f4 _ (by omega) (by omega) (by omega))
  obtain ⟨K3, d1, d2, d3⟩ := adv_b b5.rp hr
  refine ⟨K3, k3 _ ?_, d2, g4.fr fun z hz => d3 z (by omega)⟩
  rw [ri_warp (by rw [tw_warp]; exact k1)]
  unfold s_X5_readWarps
  rw [(g.fr (J := K) fun z hz => k2 z (by omega)).2.2.2.1.2.2.2.1, if_pos (by decide), a1, bd_some, e0, bd2_some, if_pos rfl, c4, show lf = 19998 + 1 + 1 from rfl, s_X5_readWarps_L42, if_neg (by decide), if_pos rfl, e1, bd2_some, if_pos rfl, lx_s, lx_s, w1, if_pos rfl, stI_at, d1, bd_some, s_X5_readWarps_L42, if_neg (by decide), if_neg (by decide), if_neg d2.kk, bl_inr]
end PLKS
