/-! floats; the ring's place -/
section FPS
variable {Ω : JO} {Y : JM} {F : JF} {k n pc pc' : Nat} {lv : List (Nat × Value)} {st : List Value} {I : JI} {S : JS}
theorem r_fconst0 (hd : decode Y.2.1 pc = .ok (.fconst 0, 1)) (hp : pc + 1 = pc') (h : AA Ω Y F k n pc' lv (.float FP.fconst0 :: st) I S) : AA Ω Y F k n pc lv st I S := by
  subst hp
  exact fun p e s m args below meth c H locs ls C w hS hl => lv_fconst0 C.1 C.2.1 hd (h p e s m args below meth c H locs ls C w hS hl)
theorem r_dconst0 (hd : decode Y.2.1 pc = .ok (.dconst 0, 1)) (hp : pc + 1 = pc') (h : AA Ω Y F k n pc' lv (.double FP.dconst0 :: st) I S) : AA Ω Y F k n pc lv st I S := by
  subst hp
  exact fun p e s m args below meth c H locs ls C w hS hl => lv_dconst0 C.1 C.2.1 hd (h p e s m args below meth c H locs ls C w hS hl)
theorem r_i2f {x : Int32} (hd : decode Y.2.1 pc = .ok (.i2f, 1)) (hp : pc + 1 = pc') (h : AA Ω Y F k n pc' lv (.float (FP.i2f x) :: st) I S) : AA Ω Y F k n pc lv (.int x :: st) I S := by
  subst hp
  exact fun p e s m args below meth c H locs ls C w hS hl => lv_i2f C.1 C.2.1 hd (h p e s m args below meth c H locs ls C w hS hl)
theorem r_i2d {x : Int32} (hd : decode Y.2.1 pc = .ok (.i2d, 1)) (hp : pc + 1 = pc') (h : AA Ω Y F k n pc' lv (.double (FP.i2d x) :: st) I S) : AA Ω Y F k n pc lv (.int x :: st) I S := by
  subst hp
  exact fun p e s m args below meth c H locs ls C w hS hl => lv_i2d C.1 C.2.1 hd (h p e s m args below meth c H locs ls C w hS hl)
theorem r_fdiv {x y : UInt32} (hd : decode Y.2.1 pc = .ok (.fdiv, 1)) (hne : vf_n32 (FP.fdiv x y)) (hp : pc + 1 = pc') (h : AA Ω Y F k n pc' lv (.float (FP.fdiv x y) :: st) I S) : AA Ω Y F k n pc lv (.float y :: .float x :: st) I S := by
  subst hp
  exact fun p e s m args below meth c H locs ls C w hS hl => lv_fdiv C.1 C.2.1 hd hne (h p e s m args below meth c H locs ls C w hS hl)
theorem r_ddiv {x y : UInt64} (hd : decode Y.2.1 pc = .ok (.ddiv, 1)) (hne : vf_n64 (FP.ddiv x y)) (hp : pc + 1 = pc') (h : AA Ω Y F k n pc' lv (.double (FP.ddiv x y) :: st) I S) : AA Ω Y F k n pc lv (.double y :: .double x :: st) I S := by
  subst hp
  exact fun p e s m args below meth c H locs ls C w hS hl => lv_ddiv C.1 C.2.1 hd hne (h p e s m args below meth c H locs ls C w hS hl)
end FPS
set_option maxHeartbeats 2000000 in
theorem c_X1_stateAt {Ω : JO} {I : JI} {S : JS} {Q : JQ} {h : Nat} {i : Int32} (hh : Is1 S h) (hi : vp_in i 8) (hQ : Q (.inl (some (.ref (h + 2 + 7 * i.toNatClampNeg)))) I S) : Call Ω m_X1_stateAt [.ref h, .int i] I S Q := by
  refine call_of (by decide +kernel) rfl (Nat.le_of_ble_eq_true rfl) ?_
  change AA Ω m_X1_stateAt (FQ Ω m_X1_stateAt Q) 0 0 0 [(0, .ref h), (1, .int i)] [] I S
  refine r_iload_n (pc' := 1) dX1_stateAt_0 rfl 1 rfl rfl ?_
  refine r_if_lt (tgt := 22) (pc' := 4) dX1_stateAt_1 rfl rfl (fun h1 => absurd (Or.inl h1) hi) (fun h1 => ?_)
  refine r_iload_n (pc' := 5) dX1_stateAt_4 rfl 1 rfl rfl ?_
  refine r_aload_n (pc' := 6) dX1_stateAt_5 rfl 0 rfl rfl ?_
  refine r_getO (pc' := 9) dX1_stateAt_6 fa_X1_11 hh.o rfl hh.r0 rfl ?_
  refine r_alen (pc' := 10) dX1_stateAt_9 hh.c0 (by decide) rfl rfl ?_
  refine r_icmp_ge (tgt := 22) (pc' := 13) dX1_stateAt_10 rfl rfl (fun h2 => absurd (in_lti hi (by decide)) (Int32.not_lt.mpr h2)) (fun h2 => ?_)
  refine r_aload_n (pc' := 14) dX1_stateAt_13 rfl 0 rfl rfl ?_
  refine r_getO (pc' := 17) dX1_stateAt_14 fa_X1_11 hh.o rfl hh.r0 rfl ?_
  refine r_iload_n (pc' := 18) dX1_stateAt_17 rfl 1 rfl rfl ?_
  refine r_aaloadO (pc' := 19) dX1_stateAt_18 hh.c0 hi (hh.at (in_lt hi)).1 rfl ?_
  refine r_goto (tgt := 23) dX1_stateAt_19 rfl ?_
  exact r_aret dX1_stateAt_23 rfl (Or.inl ⟨_, rfl⟩) (Or.inr ⟨_, rfl⟩) (by decide) (by decide) hQ
