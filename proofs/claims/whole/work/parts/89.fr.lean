/-! printed by wip/whole/lift/lift.py: the small machine comes to what the functions answer -/
/-! X12_walkBy -/
theorem el_X12_walkBy_9 (d : Nat) (hd : 2 ≤ d) : ∀ (n : Nat) (s : fu_S) (x1 : Int32) (x2 : Int32) (x3 : Int32) (x4 : Int32) (x5 : Int32), fu_J (l_X12_walkBy_9 n s x1 x2 x3 x4 x5) (fun r => fr_X d (some .int) k_X12_walkBy 78 [am_U, .int x1, am_U, .int r.1, .int r.2, am_U] [] s) (fr_X d (some .int) k_X12_walkBy 9 [.ref 117, .int x1, .int x2, .int x3, .int x4, .int x5] [] s) := by
  intro n
  induction n with
  | zero => intros; exact fu_none
  | succ n ih =>
    intro s x1 x2 x3 x4 x5
    rw [l_X12_walkBy_9]
    refine fu_go 2 (pc' := 12) (ls' := [.ref 117, .int x1, .int x2, .int x3, .int x4, .int x5]) (st' := [.ref 117, .int x5]) (s' := s) rfl ?_
    refine fu_step (fu_getR rfl fr_117 rfl rfl) ?_
    refine fu_go 1 (pc' := 16) (ls' := [.ref 117, .int x1, .int x2, .int x3, .int x4, .int x5]) (st' := [.int (2 : Int32), .ref 122, .int x5]) (s' := s) rfl ?_
    refine fu_step (fu_ldIk (k := 2) rfl fr_122 (by decide) (by decide)) ?_
    refine fu_ite (fun h1 => fu_step (fu_ic_ge_t rfl h1) ?_) (fun h1 => fu_step (fu_ic_ge_f rfl h1) ?_)
    · refine fu_go 2 (pc' := 23) (ls' := [.ref 117, .int x1, .int x2, .int x3, .int x4, .int x5]) (st' := [.int x5, .int x2]) (s' := s) rfl ?_
      refine fu_step (fu_cS rfl rfl rfl rfl rfl rfl (fu_eq (e_X12_has d (by omega) s x2 x5) rfl)) ?_
      show fu_J _ _ (fr_X d (some .int) k_X12_walkBy 26 [.ref 117, .int x1, .int x2, .int x3, .int x4, .int x5] [.int (fu_b (f_X12_has x2 x5))] s)
      refine fu_bind (V := fun j2 : Int32 × Int32 => fr_X d (some .int) k_X12_walkBy 72 [.ref 117, .int x1, .int x2, .int j2.1, .int j2.2, .int x5] [] s) ?_ (fun j2 => ?_)
      · refine fu_ite (fun h3 => fu_step (fu_ib_ne_t rfl h3) ?_) (fun h3 => fu_step (fu_ib_ne_f rfl h3) ?_)
        · refine fu_go 2 (pc' := 34) (ls' := [.ref 117, .int x1, .int x2, .int x3, .int x4, .int x5]) (st' := [.ref 117, .int x3]) (s' := s) rfl ?_
          refine fu_step (fu_getR rfl fr_117 rfl rfl) ?_
          refine fu_go 3 (pc' := 42) (ls' := [.ref 117, .int x1, .int x2, .int x3, .int x4, .int x5]) (st' := [.int x5, .ref 117, .int (21 : Int32), .ref 122, .int x3]) (s' := s) rfl ?_
          refine fu_bind (fu_cVJ rfl rfl rfl rfl rfl (fu_recv fr_117 am_at_X12_bearerOf rfl) (e_X12_bearerOf d (by omega) s x5)) (fun r4 => ?_)
          show fu_J _ _ (fr_X d (some .int) k_X12_walkBy 45 [.ref 117, .int x1, .int x2, .int x3, .int x4, .int x5] [.int r4, .int (21 : Int32), .ref 122, .int x3] s)
          refine fu_go 1 (pc' := 46) (ls' := [.ref 117, .int x1, .int x2, .int x3, .int x4, .int x5]) (st' := [.int ((21 : Int32) + r4), .ref 122, .int x3]) (s' := s) rfl ?_
          refine fu_guard (fun h5 => fu_step (fu_ldI rfl fr_122 h5) ?_)
          refine fu_step (fu_prim rfl rfl rfl rfl) ?_
          refine fu_go 3 (pc' := 54) (ls' := [.ref 117, .int x1, .int x2, .int (fu_mn x3 (s.1 122 (Int32.toNatClampNeg ((21 : Int32) + r4)))), .int x4, .int x5]) (st' := [.ref 117, .int x4]) (s' := s) rfl ?_
          refine fu_step (fu_getR rfl fr_117 rfl rfl) ?_
          refine fu_go 3 (pc' := 62) (ls' := [.ref 117, .int x1, .int x2, .int (fu_mn x3 (s.1 122 (Int32.toNatClampNeg ((21 : Int32) + r4)))), .int x4, .int x5]) (st' := [.int x5, .ref 117, .int (21 : Int32), .ref 122, .int x4]) (s' := s) rfl ?_
          refine fu_bind (fu_cVJ rfl rfl rfl rfl rfl (fu_recv fr_117 am_at_X12_bearerOf rfl) (e_X12_bearerOf d (by omega) s x5)) (fun r6 => ?_)
          show fu_J _ _ (fr_X d (some .int) k_X12_walkBy 65 [.ref 117, .int x1, .int x2, .int (fu_mn x3 (s.1 122 (Int32.toNatClampNeg ((21 : Int32) + r4)))), .int x4, .int x5] [.int r6, .int (21 : Int32), .ref 122, .int x4] s)
          refine fu_go 1 (pc' := 66) (ls' := [.ref 117, .int x1, .int x2, .int (fu_mn x3 (s.1 122 (Int32.toNatClampNeg ((21 : Int32) + r4)))), .int x4, .int x5]) (st' := [.int ((21 : Int32) + r6), .ref 122, .int x4]) (s' := s) rfl ?_
          refine fu_guard (fun h7 => fu_step (fu_ldI rfl fr_122 h7) ?_)
          refine fu_step (fu_prim rfl rfl rfl rfl) ?_
          refine fu_go 1 (pc' := 72) (ls' := [.ref 117, .int x1, .int x2, .int (fu_mn x3 (s.1 122 (Int32.toNatClampNeg ((21 : Int32) + r4)))), .int (fu_mx x4 (s.1 122 (Int32.toNatClampNeg ((21 : Int32) + r6)))), .int x5]) (st' := []) (s' := s) rfl ?_
          exact fu_leaf rfl ⟨.inr rfl, .inr rfl, .inr rfl, .inr rfl, .inr rfl, .inr rfl, trivial⟩
        · refine fu_go 1 (pc' := 72) (ls' := [.ref 117, .int x1, .int x2, .int x3, .int x4, .int x5]) (st' := []) (s' := s) rfl ?_
          exact fu_leaf rfl ⟨.inr rfl, .inr rfl, .inr rfl, .inr rfl, .inr rfl, .inr rfl, trivial⟩
      show fu_J _ _ (fr_X d (some .int) k_X12_walkBy 72 [.ref 117, .int x1, .int x2, .int j2.1, .int j2.2, .int x5] [] s)
      refine fu_go 2 (pc' := 9) (ls' := [.ref 117, .int x1, .int x2, .int j2.1, .int j2.2, .int (x5 + (1 : Int32))]) (st' := []) (s' := s) rfl ?_
      exact fu_drop (ls' := [.ref 117, .int x1, .int x2, .int j2.1, .int j2.2, .int (x5 + (1 : Int32))]) ⟨.inr rfl, .inr rfl, .inr rfl, .inr rfl, .inr rfl, .inr rfl, trivial⟩ (ih s x1 x2 j2.1 j2.2 (x5 + (1 : Int32)))
    · exact fu_leaf rfl ⟨.inl rfl, .inr rfl, .inl rfl, .inr rfl, .inr rfl, .inl rfl, trivial⟩
set_option maxRecDepth 100000 in
theorem e_X12_walkBy (d : Nat) (hd : 3 ≤ d) (s : fu_S) (a1 : Int32) (a2 : Int32) : fu_J (f_X12_walkBy s a1 a2) (fun r => some (some (.int r), s)) (am_D (fu_ho fr_sh) am_m d 359 [.ref 117, .int a1, .int a2] s) := by
  obtain ⟨d, rfl⟩ : ∃ e, d = e + 1 := ⟨d - 1, by omega⟩
  refine fu_enter (ls := [.ref 117, .int a1, .int a2, am_U, am_U, am_U]) am_at_X12_walkBy rfl rfl ?_
  show fu_J _ _ (fr_X d (some .int) k_X12_walkBy 0 [.ref 117, .int a1, .int a2, am_U, am_U, am_U] [] s)
  unfold f_X12_walkBy
  refine fu_go 6 (pc' := 9) (ls' := [.ref 117, .int a1, .int a2, .int (60 : Int32), .int (-1 : Int32), .int (0 : Int32)]) (st' := []) (s' := s) rfl ?_
  refine fu_drop (ls' := [.ref 117, .int a1, .int a2, .int (60 : Int32), .int (-1 : Int32), .int (0 : Int32)]) ⟨.inr rfl, .inr rfl, .inr rfl, .inr rfl, .inr rfl, .inr rfl, trivial⟩ ?_
  refine fu_bind (el_X12_walkBy_9 d (by omega) fu_N s a1 a2 (60 : Int32) (-1 : Int32) (0 : Int32)) (fun r8 => ?_)
  show fu_J _ _ (fr_X d (some .int) k_X12_walkBy 78 [am_U, .int a1, am_U, .int r8.1, .int r8.2, am_U] [] s)
  refine fu_go 1 (pc' := 80) (ls' := [am_U, .int a1, am_U, .int r8.1, .int r8.2, am_U]) (st' := [.int r8.2]) (s' := s) rfl ?_
  refine fu_bind (V := fun j9 : Int32 => fr_X d (some .int) k_X12_walkBy 108 [am_U, am_U, am_U, am_U, am_U, am_U] [.int j9] s) ?_ (fun j9 => ?_)
  · refine fu_ite (fun h10 => fu_step (fu_if_ge_t rfl h10) ?_) (fun h10 => fu_step (fu_if_ge_f rfl h10) ?_)
    · refine fu_go 2 (pc' := 108) (ls' := [am_U, .int a1, am_U, .int r8.1, .int r8.2, am_U]) (st' := [.int (0 : Int32)]) (s' := s) rfl ?_
      exact fu_leaf rfl ⟨.inl rfl, .inl rfl, .inl rfl, .inl rfl, .inl rfl, .inl rfl, trivial⟩
    · refine fu_go 6 (pc' := 94) (ls' := [am_U, .int a1, am_U, .int r8.1, .int r8.2, am_U]) (st' := [.int (a1 - r8.1), .int (r8.2 - r8.1)]) (s' := s) rfl ?_
      refine fu_step (fu_prim rfl rfl rfl rfl) ?_
      refine fu_go 3 (pc' := 101) (ls' := [am_U, .int a1, am_U, .int r8.1, .int r8.2, am_U]) (st' := [.int (a1 - r8.2), .int (fu_ab (a1 - r8.1)), .int (r8.2 - r8.1)]) (s' := s) rfl ?_
      refine fu_step (fu_prim rfl rfl rfl rfl) ?_
      refine fu_step (fu_prim rfl rfl rfl rfl) ?_
      refine fu_go 1 (pc' := 108) (ls' := [am_U, .int a1, am_U, .int r8.1, .int r8.2, am_U]) (st' := [.int ((r8.2 - r8.1) + (fu_mn (fu_ab (a1 - r8.1)) (fu_ab (a1 - r8.2))))]) (s' := s) rfl ?_
      exact fu_leaf rfl ⟨.inl rfl, .inl rfl, .inl rfl, .inl rfl, .inl rfl, .inl rfl, trivial⟩
  show fu_J _ _ (fr_X d (some .int) k_X12_walkBy 108 [am_U, am_U, am_U, am_U, am_U, am_U] [.int j9] s)
  exact fu_iret rfl rfl
/-! X12_isWalk -/
set_option maxRecDepth 100000 in
theorem e_X12_isWalk (d : Nat) (hd : 2 ≤ d) (s : fu_S) (a1 : Int32) (a2 : Int32) : fu_J (some (f_X12_isWalk s a1 a2)) (fun r => some (some (.int (fu_b r)), s)) (am_D (fu_ho fr_sh) am_m d 360 [.ref 117, .int a1, .int a2] s) := by
  obtain ⟨d, rfl⟩ : ∃ e, d = e + 1 := ⟨d - 1, by omega⟩
  refine fu_enter (ls := [.ref 117, .int a1, .int a2]) am_at_X12_isWalk rfl rfl ?_
  show fu_J _ _ (fr_X d (some .boolean) k_X12_isWalk 0 [.ref 117, .int a1, .int a2] [] s)
  unfold f_X12_isWalk
  refine fu_go 4 (pc' := 6) (ls' := [.ref 117, .int a1, .int a2]) (st' := [.long (59 : Int64), .long (0 : Int64), .long (Int32.toInt64 a1)]) (s' := s) rfl ?_
  refine fu_step (fu_cS rfl rfl rfl rfl rfl rfl (fu_eq (e_X12_isIn d (by omega) s (Int32.toInt64 a1) (0 : Int64) (59 : Int64)) rfl)) ?_
  show fu_J _ _ (fr_X d (some .boolean) k_X12_isWalk 9 [.ref 117, .int a1, .int a2] [.int (fu_b (f_X12_isIn (Int32.toInt64 a1) (0 : Int64) (59 : Int64)))] s)
  refine fu_letS (V := fun j1 : Bool => fr_X d (some .boolean) k_X12_isWalk 37 [am_U, am_U, am_U] [.int (fu_b j1)] s) ?_ (fun j1 => ?_)
  · refine fu_iteS (fun h2 => fu_step (fu_ib_eq_t rfl h2) ?_) (fun h2 => fu_step (fu_ib_eq_f rfl h2) ?_)
    · refine fu_go 5 (pc' := 17) (ls' := [.ref 117, .int a1, .int a2]) (st' := [.ref 117, .int (1 : Int32), .long (0 : Int64), .long (Int32.toInt64 a2)]) (s' := s) rfl ?_
      refine fu_step (fu_getR rfl fr_117 rfl rfl) ?_
      refine fu_go 1 (pc' := 21) (ls' := [.ref 117, .int a1, .int a2]) (st' := [.int (2 : Int32), .ref 122, .int (1 : Int32), .long (0 : Int64), .long (Int32.toInt64 a2)]) (s' := s) rfl ?_
      refine fu_step (fu_ldIk (k := 2) rfl fr_122 (by decide) (by decide)) ?_
      refine fu_go 4 (pc' := 26) (ls' := [.ref 117, .int a1, .int a2]) (st' := [.long (Int32.toInt64 (((1 : Int32) <<< ((s.1 122 2) &&& 31)) - (1 : Int32))), .long (0 : Int64), .long (Int32.toInt64 a2)]) (s' := s) rfl ?_
      refine fu_step (fu_cS rfl rfl rfl rfl rfl rfl (fu_eq (e_X12_isIn d (by omega) s (Int32.toInt64 a2) (0 : Int64) (Int32.toInt64 (((1 : Int32) <<< ((s.1 122 2) &&& 31)) - (1 : Int32)))) rfl)) ?_
      show fu_J _ _ (fr_X d (some .boolean) k_X12_isWalk 29 [.ref 117, .int a1, .int a2] [.int (fu_b (f_X12_isIn (Int32.toInt64 a2) (0 : Int64) (Int32.toInt64 (((1 : Int32) <<< ((s.1 122 2) &&& 31)) - (1 : Int32)))))] s)
      refine fu_iteS (fun h3 => fu_step (fu_ib_eq_t rfl h3) ?_) (fun h3 => fu_step (fu_ib_eq_f rfl h3) ?_)
      · refine fu_go 2 (pc' := 37) (ls' := [.ref 117, .int a1, .int a2]) (st' := [.int (1 : Int32)]) (s' := s) rfl ?_
        exact fu_leaf rfl ⟨.inl rfl, .inl rfl, .inl rfl, trivial⟩
      · refine fu_go 1 (pc' := 37) (ls' := [.ref 117, .int a1, .int a2]) (st' := [.int (0 : Int32)]) (s' := s) rfl ?_
        exact fu_leaf rfl ⟨.inl rfl, .inl rfl, .inl rfl, trivial⟩
    · refine fu_go 1 (pc' := 37) (ls' := [.ref 117, .int a1, .int a2]) (st' := [.int (0 : Int32)]) (s' := s) rfl ?_
      exact fu_leaf rfl ⟨.inl rfl, .inl rfl, .inl rfl, trivial⟩
  show fu_J _ _ (fr_X d (some .boolean) k_X12_isWalk 37 [am_U, am_U, am_U] [.int (fu_b j1)] s)
  exact fu_bret (b := j1) rfl rfl
/-! X12_walk -/
set_option maxRecDepth 100000 in
theorem e_X12_walk (d : Nat) (hd : 4 ≤ d) (s : fu_S) (a1 : Int32) (a2 : Int32) : fu_J (f_X12_walk s a1 a2) (fun r => some (some (.int r.1), r.2)) (am_D (fu_ho fr_sh) am_m d 361 [.ref 117, .int a1, .int a2] s) := by
  obtain ⟨d, rfl⟩ : ∃ e, d = e + 1 := ⟨d - 1, by omega⟩
  refine fu_enter (ls := [.ref 117, .int a1, .int a2]) am_at_X12_walk rfl rfl ?_
  show fu_J _ _ (fr_X d (some .int) k_X12_walk 0 [.ref 117, .int a1, .int a2] [] s)
  unfold f_X12_walk
  refine fu_go 2 (pc' := 2) (ls' := [.ref 117, .int a1, .int a2]) (st' := [.int (0 : Int32), .ref 117]) (s' := s) rfl ?_
  refine fu_lets (b := (fu_pi s 117 1 (0 : Int32))) (fu_putI rfl fr_117 rfl rfl) (fun s1 => ?_)
  refine fu_go 2 (pc' := 7) (ls' := [.ref 117, .int a1, .int a2]) (st' := [.int (0 : Int32), .ref 117]) (s' := s1) rfl ?_
  refine fu_lets (b := (fu_pi s1 117 0 (0 : Int32))) (fu_putI rfl fr_117 rfl rfl) (fun s2 => ?_)
  refine fu_go 3 (pc' := 13) (ls' := [.ref 117, .int a1, .int a2]) (st' := [.int a2, .int a1, .ref 117]) (s' := s2) rfl ?_
  refine fu_step (fu_cV rfl rfl rfl rfl rfl (fu_recv fr_117 am_at_X12_isWalk rfl) (fu_eq (e_X12_isWalk d (by omega) s2 a1 a2) rfl)) ?_
  show fu_J _ _ (fr_X d (some .int) k_X12_walk 16 [.ref 117, .int a1, .int a2] [.int (fu_b (f_X12_isWalk s2 a1 a2))] s2)
  refine fu_bind (V := fun j3 : Int32 × fu_S => fr_X d (some .int) k_X12_walk 33 [am_U, am_U, am_U] [.int j3.1] j3.2) ?_ (fun j3 => ?_)
  · refine fu_ite (fun h4 => fu_step (fu_ib_eq_t rfl h4) ?_) (fun h4 => fu_step (fu_ib_eq_f rfl h4) ?_)
    · refine fu_go 3 (pc' := 22) (ls' := [.ref 117, .int a1, .int a2]) (st' := [.int a2, .int a1, .ref 117]) (s' := s2) rfl ?_
      refine fu_bind (fu_cVJ rfl rfl rfl rfl rfl (fu_recv fr_117 am_at_X12_walkBy rfl) (e_X12_walkBy d (by omega) s2 a1 a2)) (fun r5 => ?_)
      show fu_J _ _ (fr_X d (some .int) k_X12_walk 25 [.ref 117, .int a1, .int a2] [.int r5] s2)
      refine fu_go 1 (pc' := 33) (ls' := [.ref 117, .int a1, .int a2]) (st' := [.int r5]) (s' := s2) rfl ?_
      exact fu_leaf rfl ⟨.inl rfl, .inl rfl, .inl rfl, trivial⟩
    · refine fu_go 2 (pc' := 30) (ls' := [.ref 117, .int a1, .int a2]) (st' := [.int (5 : Int32), .ref 117]) (s' := s2) rfl ?_
      refine fu_let (fu_cVJ rfl rfl rfl rfl rfl (fu_recv fr_117 am_at_X12_refuse rfl) (e_X12_refuse d (by omega) s2 (5 : Int32))) (fun r6 => ?_)
      show fu_J _ _ (fr_X d (some .int) k_X12_walk 33 [.ref 117, .int a1, .int a2] [.int r6.1] r6.2)
      exact fu_leaf rfl ⟨.inl rfl, .inl rfl, .inl rfl, trivial⟩
  show fu_J _ _ (fr_X d (some .int) k_X12_walk 33 [am_U, am_U, am_U] [.int j3.1] j3.2)
  exact fu_iret rfl rfl
/-! X12_factorial -/
theorem el_X12_factorial_4 (d : Nat) (hd : 0 ≤ d) : ∀ (n : Nat) (s : fu_S) (x0 : Int32) (x1 : Int64) (x3 : Int32), fu_J (l_X12_factorial_4 n x0 x1 x3) (fun r => fr_X d (some .long) k_X12_factorial 20 [am_U, .long r, am_U, am_U] [] s) (fr_X d (some .long) k_X12_factorial 4 [.int x0, .long x1, am_U, .int x3] [] s) := by
  intro n
  induction n with
  | zero => intros; exact fu_none
  | succ n ih =>
    intro s x0 x1 x3
    rw [l_X12_factorial_4]
    refine fu_go 2 (pc' := 6) (ls' := [.int x0, .long x1, am_U, .int x3]) (st' := [.int x0, .int x3]) (s' := s) rfl ?_
    refine fu_ite (fun h1 => fu_step (fu_ic_gt_t rfl h1) ?_) (fun h1 => fu_step (fu_ic_gt_f rfl h1) ?_)
    · refine fu_go 7 (pc' := 4) (ls' := [.int x0, .long (x1 * (Int32.toInt64 x3)), am_U, .int (x3 + (1 : Int32))]) (st' := []) (s' := s) rfl ?_
      exact fu_drop (ls' := [.int x0, .long (x1 * (Int32.toInt64 x3)), am_U, .int (x3 + (1 : Int32))]) ⟨.inr rfl, .inr rfl, .inl rfl, .inr rfl, trivial⟩ (ih s x0 (x1 * (Int32.toInt64 x3)) (x3 + (1 : Int32)))
    · exact fu_leaf rfl ⟨.inl rfl, .inr rfl, .inl rfl, .inl rfl, trivial⟩
set_option maxRecDepth 100000 in
theorem e_X12_factorial (d : Nat) (hd : 1 ≤ d) (s : fu_S) (a0 : Int32) : fu_J (f_X12_factorial a0) (fun r => some (some (.long r), s)) (am_D (fu_ho fr_sh) am_m d 362 [.int a0] s) := by
  obtain ⟨d, rfl⟩ : ∃ e, d = e + 1 := ⟨d - 1, by omega⟩
  refine fu_enter (ls := [.int a0, am_U, am_U, am_U]) am_at_X12_factorial rfl rfl ?_
  show fu_J _ _ (fr_X d (some .long) k_X12_factorial 0 [.int a0, am_U, am_U, am_U] [] s)
  unfold f_X12_factorial
  refine fu_go 4 (pc' := 4) (ls' := [.int a0, .long (1 : Int64), am_U, .int (2 : Int32)]) (st' := []) (s' := s) rfl ?_
  refine fu_drop (ls' := [.int a0, .long (1 : Int64), am_U, .int (2 : Int32)]) ⟨.inr rfl, .inr rfl, .inl rfl, .inr rfl, trivial⟩ ?_
  refine fu_bind (el_X12_factorial_4 d (by omega) fu_N s a0 (1 : Int64) (2 : Int32)) (fun r2 => ?_)
  show fu_J _ _ (fr_X d (some .long) k_X12_factorial 20 [am_U, .long r2, am_U, am_U] [] s)
  refine fu_go 1 (pc' := 21) (ls' := [am_U, .long r2, am_U, am_U]) (st' := [.long r2]) (s' := s) rfl ?_
  exact fu_lret rfl rfl
/-! X12_share -/
theorem el_X12_share_66 (d : Nat) (hd : 3 ≤ d) : ∀ (n : Nat) (s : fu_S) (x1 : Int32) (x2 : Int32) (x3 : Int32) (x4 : Int32) (x5 : Int64) (x7 : Int32), fu_J (l_X12_share_66 n s x1 x2 x3 x4 x5 x7) (fun r => fr_X d (some .boolean) k_X12_share 148 [.ref 117, am_U, am_U, am_U, .int x4, .long r, am_U, am_U, am_U] [] s) (fr_X d (some .boolean) k_X12_share 66 [.ref 117, .int x1, .int x2, .int x3, .int x4, .long x5, am_U, .int x7, am_U] [] s) := by
  intro n
  induction n with
  | zero => intros; exact fu_none
  | succ n ih =>
    intro s x1 x2 x3 x4 x5 x7
    rw [l_X12_share_66]
    refine fu_go 2 (pc' := 69) (ls' := [.ref 117, .int x1, .int x2, .int x3, .int x4, .long x5, am_U, .int x7, am_U]) (st' := [.int x2, .int x7]) (s' := s) rfl ?_
    refine fu_ite (fun h7 => fu_step (fu_ic_gt_t rfl h7) ?_) (fun h7 => fu_step (fu_ic_gt_f rfl h7) ?_)
    · refine fu_go 5 (pc' := 78) (ls' := [.ref 117, .int x1, .int x2, .int x3, .int x4, .long x5, am_U, .int x7, am_U]) (st' := [.int (x7 &&& (x2 ^^^ (-1 : Int32)))]) (s' := s) rfl ?_
      refine fu_bind (V := fun j8 : Int64 => fr_X d (some .boolean) k_X12_share 142 [.ref 117, .int x1, .int x2, .int x3, .int x4, .long j8, am_U, .int x7, am_U] [] s) ?_ (fun j8 => ?_)
      · refine fu_ite (fun h9 => fu_step (fu_if_ne_t rfl h9) ?_) (fun h9 => fu_step (fu_if_ne_f rfl h9) ?_)
        · refine fu_go 2 (pc' := 84) (ls' := [.ref 117, .int x1, .int x2, .int x3, .int x4, .long x5, am_U, .int x7, am_U]) (st' := [.int x3, .int x7]) (s' := s) rfl ?_
          refine fu_step (fu_cS rfl rfl rfl rfl rfl rfl (fu_eq (e_X12_has d (by omega) s x7 x3) rfl)) ?_
          show fu_J _ _ (fr_X d (some .boolean) k_X12_share 87 [.ref 117, .int x1, .int x2, .int x3, .int x4, .long x5, am_U, .int x7, am_U] [.int (fu_b (f_X12_has x7 x3))] s)
          refine fu_ite (fun h10 => fu_step (fu_ib_eq_t rfl h10) ?_) (fun h10 => fu_step (fu_ib_eq_f rfl h10) ?_)
          · refine fu_go 1 (pc' := 142) (ls' := [.ref 117, .int x1, .int x2, .int x3, .int x4, .long x5, am_U, .int x7, am_U]) (st' := []) (s' := s) rfl ?_
            exact fu_leaf rfl ⟨.inr rfl, .inr rfl, .inr rfl, .inr rfl, .inr rfl, .inr rfl, .inl rfl, .inr rfl, .inl rfl, trivial⟩
          · refine fu_go 1 (pc' := 95) (ls' := [.ref 117, .int x1, .int x2, .int x3, .int x4, .long x5, am_U, .int x7, am_U]) (st' := [.int x7]) (s' := s) rfl ?_
            refine fu_bind (fu_cSJ rfl rfl rfl rfl rfl rfl (e_X12_sizeOf d (by omega) s x7)) (fun r11 => ?_)
            show fu_J _ _ (fr_X d (some .boolean) k_X12_share 98 [.ref 117, .int x1, .int x2, .int x3, .int x4, .long x5, am_U, .int x7, am_U] [.int r11] s)
            refine fu_go 3 (pc' := 104) (ls' := [.ref 117, .int x1, .int x2, .int x3, .int x4, .long x5, am_U, .int x7, .int r11]) (st' := [.int r11, .long x5]) (s' := s) rfl ?_
            refine fu_bind (fu_cSJ rfl rfl rfl rfl rfl rfl (e_X12_factorial d (by omega) s r11)) (fun r12 => ?_)
            show fu_J _ _ (fr_X d (some .boolean) k_X12_share 107 [.ref 117, .int x1, .int x2, .int x3, .int x4, .long x5, am_U, .int x7, .int r11] [.long r12, .long x5] s)
            refine fu_go 5 (pc' := 114) (ls' := [.ref 117, .int x1, .int x2, .int x3, .int x4, .long x5, am_U, .int x7, .int r11]) (st' := [.int ((x4 - (1 : Int32)) - r11), .long r12, .long x5]) (s' := s) rfl ?_
            refine fu_bind (fu_cSJ rfl rfl rfl rfl rfl rfl (e_X12_factorial d (by omega) s ((x4 - (1 : Int32)) - r11))) (fun r13 => ?_)
            show fu_J _ _ (fr_X d (some .boolean) k_X12_share 117 [.ref 117, .int x1, .int x2, .int x3, .int x4, .long x5, am_U, .int x7, .int r11] [.long r13, .long r12, .long x5] s)
            refine fu_go 8 (pc' := 126) (ls' := [.ref 117, .int x1, .int x2, .int x3, .int x4, .long x5, am_U, .int x7, .int r11]) (st' := [.int (x7 ||| ((1 : Int32) <<< (x3 &&& 31))), .int x1, .ref 117, .long (r12 * r13), .long x5]) (s' := s) rfl ?_
            refine fu_bind (fu_cVJ rfl rfl rfl rfl rfl (fu_recv fr_117 am_at_X12_walkBy rfl) (e_X12_walkBy d (by omega) s x1 (x7 ||| ((1 : Int32) <<< (x3 &&& 31))))) (fun r14 => ?_)
            show fu_J _ _ (fr_X d (some .boolean) k_X12_share 129 [.ref 117, .int x1, .int x2, .int x3, .int x4, .long x5, am_U, .int x7, .int r11] [.int r14, .long (r12 * r13), .long x5] s)
            refine fu_go 3 (pc' := 133) (ls' := [.ref 117, .int x1, .int x2, .int x3, .int x4, .long x5, am_U, .int x7, .int r11]) (st' := [.int x7, .int x1, .ref 117, .int r14, .long (r12 * r13), .long x5]) (s' := s) rfl ?_
            refine fu_bind (fu_cVJ rfl rfl rfl rfl rfl (fu_recv fr_117 am_at_X12_walkBy rfl) (e_X12_walkBy d (by omega) s x1 x7)) (fun r15 => ?_)
            show fu_J _ _ (fr_X d (some .boolean) k_X12_share 136 [.ref 117, .int x1, .int x2, .int x3, .int x4, .long x5, am_U, .int x7, .int r11] [.int r15, .int r14, .long (r12 * r13), .long x5] s)
            refine fu_go 5 (pc' := 142) (ls' := [.ref 117, .int x1, .int x2, .int x3, .int x4, .long (x5 + ((r12 * r13) * (Int32.toInt64 (r14 - r15)))), am_U, .int x7, .int r11]) (st' := []) (s' := s) rfl ?_
            exact fu_leaf rfl ⟨.inr rfl, .inr rfl, .inr rfl, .inr rfl, .inr rfl, .inr rfl, .inl rfl, .inr rfl, .inl rfl, trivial⟩
        · exact fu_leaf rfl ⟨.inr rfl, .inr rfl, .inr rfl, .inr rfl, .inr rfl, .inr rfl, .inl rfl, .inr rfl, .inl rfl, trivial⟩
      show fu_J _ _ (fr_X d (some .boolean) k_X12_share 142 [.ref 117, .int x1, .int x2, .int x3, .int x4, .long j8, am_U, .int x7, am_U] [] s)
      refine fu_go 2 (pc' := 66) (ls' := [.ref 117, .int x1, .int x2, .int x3, .int x4, .long j8, am_U, .int (x7 + (1 : Int32)), am_U]) (st' := []) (s' := s) rfl ?_
      exact fu_drop (ls' := [.ref 117, .int x1, .int x2, .int x3, .int x4, .long j8, am_U, .int (x7 + (1 : Int32)), am_U]) ⟨.inr rfl, .inr rfl, .inr rfl, .inr rfl, .inr rfl, .inr rfl, .inl rfl, .inr rfl, .inl rfl, trivial⟩ (ih s x1 x2 x3 x4 j8 (x7 + (1 : Int32)))
    · exact fu_leaf rfl ⟨.inr rfl, .inl rfl, .inl rfl, .inl rfl, .inr rfl, .inr rfl, .inl rfl, .inl rfl, .inl rfl, trivial⟩
set_option maxRecDepth 100000 in
theorem e_X12_share (d : Nat) (hd : 4 ≤ d) (s : fu_S) (a1 : Int32) (a2 : Int32) (a3 : Int32) : fu_J (f_X12_share s a1 a2 a3) (fun r => some (some (.int (fu_b r.1)), r.2)) (am_D (fu_ho fr_sh) am_m d 363 [.ref 117, .int a1, .int a2, .int a3] s) := by
  obtain ⟨d, rfl⟩ : ∃ e, d = e + 1 := ⟨d - 1, by omega⟩
  refine fu_enter (ls := [.ref 117, .int a1, .int a2, .int a3, am_U, am_U, am_U, am_U, am_U]) am_at_X12_share rfl rfl ?_
  show fu_J _ _ (fr_X d (some .boolean) k_X12_share 0 [.ref 117, .int a1, .int a2, .int a3, am_U, am_U, am_U, am_U, am_U] [] s)
  unfold f_X12_share
  refine fu_go 2 (pc' := 2) (ls' := [.ref 117, .int a1, .int a2, .int a3, am_U, am_U, am_U, am_U, am_U]) (st' := [.int (0 : Int32), .ref 117]) (s' := s) rfl ?_
  refine fu_lets (b := (fu_pi s 117 1 (0 : Int32))) (fu_putI rfl fr_117 rfl rfl) (fun s1 => ?_)
  refine fu_go 2 (pc' := 7) (ls' := [.ref 117, .int a1, .int a2, .int a3, am_U, am_U, am_U, am_U, am_U]) (st' := [.int (0 : Int32), .ref 117]) (s' := s1) rfl ?_
  refine fu_lets (b := (fu_pi s1 117 0 (0 : Int32))) (fu_putI rfl fr_117 rfl rfl) (fun s2 => ?_)
  refine fu_go 2 (pc' := 12) (ls' := [.ref 117, .int a1, .int a2, .int a3, am_U, am_U, am_U, am_U, am_U]) (st' := [.int a3, .ref 117]) (s' := s2) rfl ?_
  refine fu_step (fu_cV rfl rfl rfl rfl rfl (fu_recv fr_117 am_at_X12_isThingAt rfl) (fu_eq (e_X12_isThingAt d (by omega) s2 a3) rfl)) ?_
  show fu_J _ _ (fr_X d (some .boolean) k_X12_share 15 [.ref 117, .int a1, .int a2, .int a3, am_U, am_U, am_U, am_U, am_U] [.int (fu_b (f_X12_isThingAt s2 a3))] s2)
  refine fu_ite (fun h3 => fu_step (fu_ib_ne_t rfl h3) ?_) (fun h3 => fu_step (fu_ib_ne_f rfl h3) ?_)
  · refine fu_go 3 (pc' := 27) (ls' := [.ref 117, .int a1, .int a2, .int a3, am_U, am_U, am_U, am_U, am_U]) (st' := [.int a2, .int a1, .ref 117]) (s' := s2) rfl ?_
    refine fu_step (fu_cV rfl rfl rfl rfl rfl (fu_recv fr_117 am_at_X12_isWalk rfl) (fu_eq (e_X12_isWalk d (by omega) s2 a1 a2) rfl)) ?_
    show fu_J _ _ (fr_X d (some .boolean) k_X12_share 30 [.ref 117, .int a1, .int a2, .int a3, am_U, am_U, am_U, am_U, am_U] [.int (fu_b (f_X12_isWalk s2 a1 a2))] s2)
    refine fu_ite (fun h4 => fu_step (fu_ib_ne_t rfl h4) ?_) (fun h4 => fu_step (fu_ib_ne_f rfl h4) ?_)
    · refine fu_go 2 (pc' := 41) (ls' := [.ref 117, .int a1, .int a2, .int a3, am_U, am_U, am_U, am_U, am_U]) (st' := [.int a3, .int a2]) (s' := s2) rfl ?_
      refine fu_step (fu_cS rfl rfl rfl rfl rfl rfl (fu_eq (e_X12_has d (by omega) s2 a2 a3) rfl)) ?_
      show fu_J _ _ (fr_X d (some .boolean) k_X12_share 44 [.ref 117, .int a1, .int a2, .int a3, am_U, am_U, am_U, am_U, am_U] [.int (fu_b (f_X12_has a2 a3))] s2)
      refine fu_ite (fun h5 => fu_step (fu_ib_ne_t rfl h5) ?_) (fun h5 => fu_step (fu_ib_ne_f rfl h5) ?_)
      · refine fu_go 1 (pc' := 55) (ls' := [.ref 117, .int a1, .int a2, .int a3, am_U, am_U, am_U, am_U, am_U]) (st' := [.int a2]) (s' := s2) rfl ?_
        refine fu_bind (fu_cSJ rfl rfl rfl rfl rfl rfl (e_X12_sizeOf d (by omega) s2 a2)) (fun r6 => ?_)
        show fu_J _ _ (fr_X d (some .boolean) k_X12_share 58 [.ref 117, .int a1, .int a2, .int a3, am_U, am_U, am_U, am_U, am_U] [.int r6] s2)
        refine fu_go 5 (pc' := 66) (ls' := [.ref 117, .int a1, .int a2, .int a3, .int r6, .long (0 : Int64), am_U, .int (0 : Int32), am_U]) (st' := []) (s' := s2) rfl ?_
        refine fu_drop (ls' := [.ref 117, .int a1, .int a2, .int a3, .int r6, .long (0 : Int64), am_U, .int (0 : Int32), am_U]) ⟨.inr rfl, .inr rfl, .inr rfl, .inr rfl, .inr rfl, .inr rfl, .inl rfl, .inr rfl, .inl rfl, trivial⟩ ?_
        refine fu_bind (el_X12_share_66 d (by omega) fu_N s2 a1 a2 a3 r6 (0 : Int64) (0 : Int32)) (fun r16 => ?_)
        show fu_J _ _ (fr_X d (some .boolean) k_X12_share 148 [.ref 117, am_U, am_U, am_U, .int r6, .long r16, am_U, am_U, am_U] [] s2)
        refine fu_go 3 (pc' := 153) (ls' := [.ref 117, am_U, am_U, am_U, .int r6, .long r16, am_U, am_U, am_U]) (st' := [.int r6, .long r16, .ref 117]) (s' := s2) rfl ?_
        refine fu_bind (fu_cSJ rfl rfl rfl rfl rfl rfl (e_X12_factorial d (by omega) s2 r6)) (fun r17 => ?_)
        show fu_J _ _ (fr_X d (some .boolean) k_X12_share 156 [.ref 117, am_U, am_U, am_U, .int r6, .long r16, am_U, am_U, am_U] [.long r17, .long r16, .ref 117] s2)
        refine fu_bind (fu_cVJ rfl rfl rfl rfl rfl (fu_recv fr_117 am_at_X12_fraction rfl) (e_X12_fraction d (by omega) s2 r16 r17)) (fun r18 => ?_)
        show fu_J _ _ (fr_X d (some .boolean) k_X12_share 159 [.ref 117, am_U, am_U, am_U, .int r6, .long r16, am_U, am_U, am_U] [.int (fu_b r18.1)] r18.2)
        exact fu_bret (b := r18.1) rfl rfl
      · refine fu_go 2 (pc' := 50) (ls' := [.ref 117, .int a1, .int a2, .int a3, am_U, am_U, am_U, am_U, am_U]) (st' := [.int (8 : Int32), .ref 117]) (s' := s2) rfl ?_
        refine fu_let (fu_cVJ rfl rfl rfl rfl rfl (fu_recv fr_117 am_at_X12_no rfl) (e_X12_no d (by omega) s2 (8 : Int32))) (fun r19 => ?_)
        show fu_J _ _ (fr_X d (some .boolean) k_X12_share 53 [.ref 117, .int a1, .int a2, .int a3, am_U, am_U, am_U, am_U, am_U] [.int (fu_b r19.1)] r19.2)
        exact fu_bret (b := r19.1) rfl rfl
    · refine fu_go 2 (pc' := 35) (ls' := [.ref 117, .int a1, .int a2, .int a3, am_U, am_U, am_U, am_U, am_U]) (st' := [.int (5 : Int32), .ref 117]) (s' := s2) rfl ?_
      refine fu_let (fu_cVJ rfl rfl rfl rfl rfl (fu_recv fr_117 am_at_X12_no rfl) (e_X12_no d (by omega) s2 (5 : Int32))) (fun r20 => ?_)
      show fu_J _ _ (fr_X d (some .boolean) k_X12_share 38 [.ref 117, .int a1, .int a2, .int a3, am_U, am_U, am_U, am_U, am_U] [.int (fu_b r20.1)] r20.2)
      exact fu_bret (b := r20.1) rfl rfl
  · refine fu_go 2 (pc' := 20) (ls' := [.ref 117, .int a1, .int a2, .int a3, am_U, am_U, am_U, am_U, am_U]) (st' := [.int (2 : Int32), .ref 117]) (s' := s2) rfl ?_
    refine fu_let (fu_cVJ rfl rfl rfl rfl rfl (fu_recv fr_117 am_at_X12_no rfl) (e_X12_no d (by omega) s2 (2 : Int32))) (fun r21 => ?_)
    show fu_J _ _ (fr_X d (some .boolean) k_X12_share 23 [.ref 117, .int a1, .int a2, .int a3, am_U, am_U, am_U, am_U, am_U] [.int (fu_b r21.1)] r21.2)
    exact fu_bret (b := r21.1) rfl rfl
/-! X12_plays -/
theorem el_X12_plays_42 (K : fu_S → Int32 → Int32 → Int32 → Int32 → Int32 → Option (Int32 × fu_S)) (D0 : Nat) (hK : ∀ d, D0 ≤ d → ∀ (s : fu_S) (a1 : Int32) (a2 : Int32) (a3 : Int32) (a4 : Int32) (a5 : Int32), fu_J (K s a1 a2 a3 a4 a5) (fun r => some (some (.int r.1), r.2)) (am_D (fu_ho fr_sh) am_m d 364 [.ref 117, .int a1, .int a2, .int a3, .int a4, .int a5] s)) (d : Nat) (hd0 : D0 + 0 ≤ d) (hd : 5 ≤ d) : ∀ (n : Nat) (s : fu_S) (x1 : Int32) (x2 : Int32) (x3 : Int32) (x4 : Int32) (x5 : Int32) (x6 : Bool) (x7 : Int32) (x8 : Int32) (x9 : Int32) (x10 : Int32), fu_J (l_X12_plays_42 K n s x1 x2 x3 x4 x5 x6 x7 x8 x9 x10) (fun r => fr_X d (some .int) k_X12_plays 226 [.ref 117, am_U, am_U, .int x3, am_U, am_U, am_U, am_U, .int r.1, .int r.2.1, am_U, am_U, am_U, am_U] [] r.2.2) (fr_X d (some .int) k_X12_plays 42 [.ref 117, .int x1, .int x2, .int x3, .int x4, .int x5, .int (fu_b x6), .int x7, .int x8, .int x9, .int x10, am_U, am_U, am_U] [] s) := by
  intro n
  induction n with
  | zero => intros; exact fu_none
  | succ n ih =>
    intro s x1 x2 x3 x4 x5 x6 x7 x8 x9 x10
    rw [l_X12_plays_42]
    refine fu_go 2 (pc' := 45) (ls' := [.ref 117, .int x1, .int x2, .int x3, .int x4, .int x5, .int (fu_b x6), .int x7, .int x8, .int x9, .int x10, am_U, am_U, am_U]) (st' := [.ref 117, .int x10]) (s' := s) rfl ?_
    refine fu_step (fu_getR rfl fr_117 rfl rfl) ?_
    refine fu_go 1 (pc' := 49) (ls' := [.ref 117, .int x1, .int x2, .int x3, .int x4, .int x5, .int (fu_b x6), .int x7, .int x8, .int x9, .int x10, am_U, am_U, am_U]) (st' := [.int (2 : Int32), .ref 122, .int x10]) (s' := s) rfl ?_
    refine fu_step (fu_ldIk (k := 2) rfl fr_122 (by decide) (by decide)) ?_
    refine fu_ite (fun h6 => fu_step (fu_ic_gt_t rfl h6) ?_) (fun h6 => fu_step (fu_ic_gt_f rfl h6) ?_)
    · refine fu_go 2 (pc' := 56) (ls' := [.ref 117, .int x1, .int x2, .int x3, .int x4, .int x5, .int (fu_b x6), .int x7, .int x8, .int x9, .int x10, am_U, am_U, am_U]) (st' := [.ref 117, .int x10]) (s' := s) rfl ?_
      refine fu_step (fu_getR rfl fr_117 rfl rfl) ?_
      refine fu_go 1 (pc' := 60) (ls' := [.ref 117, .int x1, .int x2, .int x3, .int x4, .int x5, .int (fu_b x6), .int x7, .int x8, .int x9, .int x10, am_U, am_U, am_U]) (st' := [.int (2 : Int32), .ref 122, .int x10]) (s' := s) rfl ?_
      refine fu_step (fu_ldIk (k := 2) rfl fr_122 (by decide) (by decide)) ?_
      refine fu_bind (V := fun j7 : Bool => fr_X d (some .int) k_X12_plays 69 [.ref 117, .int x1, .int x2, .int x3, .int x4, .int x5, .int (fu_b x6), .int x7, .int x8, .int x9, .int x10, am_U, am_U, am_U] [.int (fu_b j7)] s) ?_ (fun j7 => ?_)
      · refine fu_ite (fun h8 => fu_step (fu_ic_ne_t rfl h8) ?_) (fun h8 => fu_step (fu_ic_ne_f rfl h8) ?_)
        · refine fu_go 2 (pc' := 69) (ls' := [.ref 117, .int x1, .int x2, .int x3, .int x4, .int x5, .int (fu_b x6), .int x7, .int x8, .int x9, .int x10, am_U, am_U, am_U]) (st' := [.int (1 : Int32)]) (s' := s) rfl ?_
          exact fu_leaf rfl ⟨.inr rfl, .inr rfl, .inr rfl, .inr rfl, .inr rfl, .inr rfl, .inr rfl, .inr rfl, .inr rfl, .inr rfl, .inr rfl, .inl rfl, .inl rfl, .inl rfl, trivial⟩
        · refine fu_go 1 (pc' := 69) (ls' := [.ref 117, .int x1, .int x2, .int x3, .int x4, .int x5, .int (fu_b x6), .int x7, .int x8, .int x9, .int x10, am_U, am_U, am_U]) (st' := [.int (0 : Int32)]) (s' := s) rfl ?_
          exact fu_leaf rfl ⟨.inr rfl, .inr rfl, .inr rfl, .inr rfl, .inr rfl, .inr rfl, .inr rfl, .inr rfl, .inr rfl, .inr rfl, .inr rfl, .inl rfl, .inl rfl, .inl rfl, trivial⟩
      show fu_J _ _ (fr_X d (some .int) k_X12_plays 69 [.ref 117, .int x1, .int x2, .int x3, .int x4, .int x5, .int (fu_b x6), .int x7, .int x8, .int x9, .int x10, am_U, am_U, am_U] [.int (fu_b j7)] s)
      refine fu_go 2 (pc' := 73) (ls' := [.ref 117, .int x1, .int x2, .int x3, .int x4, .int x5, .int (fu_b x6), .int x7, .int x8, .int x9, .int x10, .int (fu_b j7), am_U, am_U]) (st' := [.int (fu_b j7)]) (s' := s) rfl ?_
      refine fu_bind (V := fun j9 : Int32 × Int32 × fu_S => fr_X d (some .int) k_X12_plays 220 [.ref 117, .int x1, .int x2, .int x3, .int x4, .int x5, .int (fu_b x6), .int x7, .int j9.1, .int j9.2.1, .int x10, am_U, am_U, am_U] [] j9.2.2) ?_ (fun j9 => ?_)
      · refine fu_ite (fun h10 => fu_step (fu_ib_ne_t rfl h10) ?_) (fun h10 => fu_step (fu_ib_ne_f rfl h10) ?_)
        · refine fu_go 1 (pc' := 111) (ls' := [.ref 117, .int x1, .int x2, .int x3, .int x4, .int x5, .int (fu_b x6), .int x7, .int x8, .int x9, .int x10, .int (fu_b j7), am_U, am_U]) (st' := [.int (fu_b j7)]) (s' := s) rfl ?_
          refine fu_bind (V := fun j11 : Int32 => fr_X d (some .int) k_X12_plays 147 [.ref 117, .int x1, .int x2, .int x3, .int x4, .int x5, .int (fu_b x6), .int x7, .int x8, .int x9, .int x10, .int (fu_b j7), am_U, am_U] [.int j11] s) ?_ (fun j11 => ?_)
          · refine fu_ite (fun h12 => fu_step (fu_ib_eq_t rfl h12) ?_) (fun h12 => fu_step (fu_ib_eq_f rfl h12) ?_)
            · refine fu_go 2 (pc' := 147) (ls' := [.ref 117, .int x1, .int x2, .int x3, .int x4, .int x5, .int (fu_b x6), .int x7, .int x8, .int x9, .int x10, .int (fu_b j7), am_U, am_U]) (st' := [.int (0 : Int32)]) (s' := s) rfl ?_
              exact fu_leaf rfl ⟨.inr rfl, .inr rfl, .inr rfl, .inr rfl, .inr rfl, .inr rfl, .inr rfl, .inr rfl, .inr rfl, .inr rfl, .inr rfl, .inr rfl, .inl rfl, .inl rfl, trivial⟩
            · refine fu_go 1 (pc' := 120) (ls' := [.ref 117, .int x1, .int x2, .int x3, .int x4, .int x5, .int (fu_b x6), .int x7, .int x8, .int x9, .int x10, .int (fu_b j7), am_U, am_U]) (st' := [.int (fu_b x6)]) (s' := s) rfl ?_
              refine fu_ite (fun h13 => fu_step (fu_ib_eq_t rfl h13) ?_) (fun h13 => fu_step (fu_ib_eq_f rfl h13) ?_)
              · refine fu_go 1 (pc' := 124) (ls' := [.ref 117, .int x1, .int x2, .int x3, .int x4, .int x5, .int (fu_b x6), .int x7, .int x8, .int x9, .int x10, .int (fu_b j7), am_U, am_U]) (st' := [.ref 117]) (s' := s) rfl ?_
                refine fu_step (fu_getR rfl fr_117 rfl rfl) ?_
                refine fu_go 3 (pc' := 132) (ls' := [.ref 117, .int x1, .int x2, .int x3, .int x4, .int x5, .int (fu_b x6), .int x7, .int x8, .int x9, .int x10, .int (fu_b j7), am_U, am_U]) (st' := [.int ((51 : Int32) + x10), .ref 122]) (s' := s) rfl ?_
                refine fu_guard (fun h14 => fu_step (fu_ldI rfl fr_122 h14) ?_)
                refine fu_go 1 (pc' := 147) (ls' := [.ref 117, .int x1, .int x2, .int x3, .int x4, .int x5, .int (fu_b x6), .int x7, .int x8, .int x9, .int x10, .int (fu_b j7), am_U, am_U]) (st' := [.int (s.1 122 (Int32.toNatClampNeg ((51 : Int32) + x10)))]) (s' := s) rfl ?_
                exact fu_leaf rfl ⟨.inr rfl, .inr rfl, .inr rfl, .inr rfl, .inr rfl, .inr rfl, .inr rfl, .inr rfl, .inr rfl, .inr rfl, .inr rfl, .inr rfl, .inl rfl, .inl rfl, trivial⟩
              · refine fu_go 1 (pc' := 137) (ls' := [.ref 117, .int x1, .int x2, .int x3, .int x4, .int x5, .int (fu_b x6), .int x7, .int x8, .int x9, .int x10, .int (fu_b j7), am_U, am_U]) (st' := [.ref 117]) (s' := s) rfl ?_
                refine fu_step (fu_getR rfl fr_117 rfl rfl) ?_
                refine fu_go 3 (pc' := 145) (ls' := [.ref 117, .int x1, .int x2, .int x3, .int x4, .int x5, .int (fu_b x6), .int x7, .int x8, .int x9, .int x10, .int (fu_b j7), am_U, am_U]) (st' := [.int ((51 : Int32) + x10), .ref 122]) (s' := s) rfl ?_
                refine fu_guard (fun h15 => fu_step (fu_ldI rfl fr_122 h15) ?_)
                refine fu_go 1 (pc' := 147) (ls' := [.ref 117, .int x1, .int x2, .int x3, .int x4, .int x5, .int (fu_b x6), .int x7, .int x8, .int x9, .int x10, .int (fu_b j7), am_U, am_U]) (st' := [.int (-(s.1 122 (Int32.toNatClampNeg ((51 : Int32) + x10))))]) (s' := s) rfl ?_
                exact fu_leaf rfl ⟨.inr rfl, .inr rfl, .inr rfl, .inr rfl, .inr rfl, .inr rfl, .inr rfl, .inr rfl, .inr rfl, .inr rfl, .inr rfl, .inr rfl, .inl rfl, .inl rfl, trivial⟩
          show fu_J _ _ (fr_X d (some .int) k_X12_plays 147 [.ref 117, .int x1, .int x2, .int x3, .int x4, .int x5, .int (fu_b x6), .int x7, .int x8, .int x9, .int x10, .int (fu_b j7), am_U, am_U] [.int j11] s)
          refine fu_go 10 (pc' := 161) (ls' := [.ref 117, .int x1, .int x2, .int x3, .int x4, .int x5, .int (fu_b x6), .int x7, .int x8, .int x9, .int x10, .int (fu_b j7), .int j11, am_U]) (st' := [.int (fu_b j7), .int x4, .int (x3 + (1 : Int32)), .int x2, .int x1, .ref 117, .int j11]) (s' := s) rfl ?_
          refine fu_bind (V := fun j16 : Int32 => fr_X d (some .int) k_X12_plays 176 [.ref 117, .int x1, .int x2, .int x3, .int x4, .int x5, .int (fu_b x6), .int x7, .int x8, .int x9, .int x10, am_U, am_U, am_U] [.int j16, .int x4, .int (x3 + (1 : Int32)), .int x2, .int x1, .ref 117, .int j11] s) ?_ (fun j16 => ?_)
          · refine fu_ite (fun h17 => fu_step (fu_ib_eq_t rfl h17) ?_) (fun h17 => fu_step (fu_ib_eq_f rfl h17) ?_)
            · refine fu_go 2 (pc' := 176) (ls' := [.ref 117, .int x1, .int x2, .int x3, .int x4, .int x5, .int (fu_b x6), .int x7, .int x8, .int x9, .int x10, .int (fu_b j7), .int j11, am_U]) (st' := [.int x5, .int x4, .int (x3 + (1 : Int32)), .int x2, .int x1, .ref 117, .int j11]) (s' := s) rfl ?_
              exact fu_leaf rfl ⟨.inr rfl, .inr rfl, .inr rfl, .inr rfl, .inr rfl, .inr rfl, .inr rfl, .inr rfl, .inr rfl, .inr rfl, .inr rfl, .inl rfl, .inl rfl, .inl rfl, trivial⟩
            · refine fu_go 5 (pc' := 176) (ls' := [.ref 117, .int x1, .int x2, .int x3, .int x4, .int x5, .int (fu_b x6), .int x7, .int x8, .int x9, .int x10, .int (fu_b j7), .int j11, am_U]) (st' := [.int (x5 ||| ((1 : Int32) <<< (x10 &&& 31))), .int x4, .int (x3 + (1 : Int32)), .int x2, .int x1, .ref 117, .int j11]) (s' := s) rfl ?_
              exact fu_leaf rfl ⟨.inr rfl, .inr rfl, .inr rfl, .inr rfl, .inr rfl, .inr rfl, .inr rfl, .inr rfl, .inr rfl, .inr rfl, .inr rfl, .inl rfl, .inl rfl, .inl rfl, trivial⟩
          show fu_J _ _ (fr_X d (some .int) k_X12_plays 176 [.ref 117, .int x1, .int x2, .int x3, .int x4, .int x5, .int (fu_b x6), .int x7, .int x8, .int x9, .int x10, am_U, am_U, am_U] [.int j16, .int x4, .int (x3 + (1 : Int32)), .int x2, .int x1, .ref 117, .int j11] s)
          refine fu_bind (fu_cVJ rfl rfl rfl rfl rfl (fu_recv fr_117 am_at_X12_plays rfl) (hK d (by omega) s x1 x2 (x3 + (1 : Int32)) x4 j16)) (fun r18 => ?_)
          show fu_J _ _ (fr_X d (some .int) k_X12_plays 179 [.ref 117, .int x1, .int x2, .int x3, .int x4, .int x5, .int (fu_b x6), .int x7, .int x8, .int x9, .int x10, am_U, am_U, am_U] [.int r18.1, .int j11] r18.2)
          refine fu_go 3 (pc' := 184) (ls' := [.ref 117, .int x1, .int x2, .int x3, .int x4, .int x5, .int (fu_b x6), .int x7, .int x8, .int x9, .int x10, am_U, am_U, .int (j11 + r18.1)]) (st' := [.int x9]) (s' := r18.2) rfl ?_
          refine fu_ite (fun h19 => fu_step (fu_if_lt_t rfl h19) ?_) (fun h19 => fu_step (fu_if_lt_f rfl h19) ?_)
          · refine fu_go 4 (pc' := 220) (ls' := [.ref 117, .int x1, .int x2, .int x3, .int x4, .int x5, .int (fu_b x6), .int x7, .int (j11 + r18.1), .int x10, .int x10, am_U, am_U, .int (j11 + r18.1)]) (st' := []) (s' := r18.2) rfl ?_
            exact fu_leaf rfl ⟨.inr rfl, .inr rfl, .inr rfl, .inr rfl, .inr rfl, .inr rfl, .inr rfl, .inr rfl, .inr rfl, .inr rfl, .inr rfl, .inl rfl, .inl rfl, .inl rfl, trivial⟩
          · refine fu_go 1 (pc' := 189) (ls' := [.ref 117, .int x1, .int x2, .int x3, .int x4, .int x5, .int (fu_b x6), .int x7, .int x8, .int x9, .int x10, am_U, am_U, .int (j11 + r18.1)]) (st' := [.int (fu_b x6)]) (s' := r18.2) rfl ?_
            refine fu_ite (fun h20 => fu_step (fu_ib_eq_t rfl h20) ?_) (fun h20 => fu_step (fu_ib_eq_f rfl h20) ?_)
            · refine fu_go 2 (pc' := 196) (ls' := [.ref 117, .int x1, .int x2, .int x3, .int x4, .int x5, .int (fu_b x6), .int x7, .int x8, .int x9, .int x10, am_U, am_U, .int (j11 + r18.1)]) (st' := [.int x8, .int (j11 + r18.1)]) (s' := r18.2) rfl ?_
              refine fu_ite (fun h21 => fu_step (fu_ic_gt_t rfl h21) ?_) (fun h21 => fu_step (fu_ic_gt_f rfl h21) ?_)
              · refine fu_go 1 (pc' := 220) (ls' := [.ref 117, .int x1, .int x2, .int x3, .int x4, .int x5, .int (fu_b x6), .int x7, .int x8, .int x9, .int x10, am_U, am_U, .int (j11 + r18.1)]) (st' := []) (s' := r18.2) rfl ?_
                exact fu_leaf rfl ⟨.inr rfl, .inr rfl, .inr rfl, .inr rfl, .inr rfl, .inr rfl, .inr rfl, .inr rfl, .inr rfl, .inr rfl, .inr rfl, .inl rfl, .inl rfl, .inl rfl, trivial⟩
              · refine fu_go 4 (pc' := 220) (ls' := [.ref 117, .int x1, .int x2, .int x3, .int x4, .int x5, .int (fu_b x6), .int x7, .int (j11 + r18.1), .int x10, .int x10, am_U, am_U, .int (j11 + r18.1)]) (st' := []) (s' := r18.2) rfl ?_
                exact fu_leaf rfl ⟨.inr rfl, .inr rfl, .inr rfl, .inr rfl, .inr rfl, .inr rfl, .inr rfl, .inr rfl, .inr rfl, .inr rfl, .inr rfl, .inl rfl, .inl rfl, .inl rfl, trivial⟩
            · refine fu_go 2 (pc' := 206) (ls' := [.ref 117, .int x1, .int x2, .int x3, .int x4, .int x5, .int (fu_b x6), .int x7, .int x8, .int x9, .int x10, am_U, am_U, .int (j11 + r18.1)]) (st' := [.int x8, .int (j11 + r18.1)]) (s' := r18.2) rfl ?_
              refine fu_ite (fun h22 => fu_step (fu_ic_lt_t rfl h22) ?_) (fun h22 => fu_step (fu_ic_lt_f rfl h22) ?_)
              · refine fu_go 4 (pc' := 220) (ls' := [.ref 117, .int x1, .int x2, .int x3, .int x4, .int x5, .int (fu_b x6), .int x7, .int (j11 + r18.1), .int x10, .int x10, am_U, am_U, .int (j11 + r18.1)]) (st' := []) (s' := r18.2) rfl ?_
                exact fu_leaf rfl ⟨.inr rfl, .inr rfl, .inr rfl, .inr rfl, .inr rfl, .inr rfl, .inr rfl, .inr rfl, .inr rfl, .inr rfl, .inr rfl, .inl rfl, .inl rfl, .inl rfl, trivial⟩
              · refine fu_go 1 (pc' := 220) (ls' := [.ref 117, .int x1, .int x2, .int x3, .int x4, .int x5, .int (fu_b x6), .int x7, .int x8, .int x9, .int x10, am_U, am_U, .int (j11 + r18.1)]) (st' := []) (s' := r18.2) rfl ?_
                exact fu_leaf rfl ⟨.inr rfl, .inr rfl, .inr rfl, .inr rfl, .inr rfl, .inr rfl, .inr rfl, .inr rfl, .inr rfl, .inr rfl, .inr rfl, .inl rfl, .inl rfl, .inl rfl, trivial⟩
        · refine fu_go 2 (pc' := 80) (ls' := [.ref 117, .int x1, .int x2, .int x3, .int x4, .int x5, .int (fu_b x6), .int x7, .int x8, .int x9, .int x10, .int (fu_b j7), am_U, am_U]) (st' := [.int x10, .int x5]) (s' := s) rfl ?_
          refine fu_step (fu_cS rfl rfl rfl rfl rfl rfl (fu_eq (e_X12_has d (by omega) s x5 x10) rfl)) ?_
          show fu_J _ _ (fr_X d (some .int) k_X12_plays 83 [.ref 117, .int x1, .int x2, .int x3, .int x4, .int x5, .int (fu_b x6), .int x7, .int x8, .int x9, .int x10, .int (fu_b j7), am_U, am_U] [.int (fu_b (f_X12_has x5 x10))] s)
          refine fu_ite (fun h23 => fu_step (fu_ib_ne_t rfl h23) ?_) (fun h23 => fu_step (fu_ib_ne_f rfl h23) ?_)
          · exact fu_leaf rfl ⟨.inr rfl, .inr rfl, .inr rfl, .inr rfl, .inr rfl, .inr rfl, .inr rfl, .inr rfl, .inr rfl, .inr rfl, .inr rfl, .inl rfl, .inl rfl, .inl rfl, trivial⟩
          · refine fu_go 2 (pc' := 89) (ls' := [.ref 117, .int x1, .int x2, .int x3, .int x4, .int x5, .int (fu_b x6), .int x7, .int x8, .int x9, .int x10, .int (fu_b j7), am_U, am_U]) (st' := [.int x10, .ref 117]) (s' := s) rfl ?_
            refine fu_bind (fu_cVJ rfl rfl rfl rfl rfl (fu_recv fr_117 am_at_X12_isUp rfl) (e_X12_isUp d (by omega) s x10)) (fun r24 => ?_)
            show fu_J _ _ (fr_X d (some .int) k_X12_plays 92 [.ref 117, .int x1, .int x2, .int x3, .int x4, .int x5, .int (fu_b x6), .int x7, .int x8, .int x9, .int x10, .int (fu_b j7), am_U, am_U] [.int (fu_b r24)] s)
            refine fu_ite (fun h25 => fu_step (fu_ib_eq_t rfl h25) ?_) (fun h25 => fu_step (fu_ib_eq_f rfl h25) ?_)
            · refine fu_go 3 (pc' := 100) (ls' := [.ref 117, .int x1, .int x2, .int x3, .int x4, .int x5, .int (fu_b x6), .int x7, .int x8, .int x9, .int x10, .int (fu_b j7), am_U, am_U]) (st' := [.int x10, .int x7, .ref 117]) (s' := s) rfl ?_
              refine fu_bind (fu_cVJ rfl rfl rfl rfl rfl (fu_recv fr_117 am_at_X12_couldScratch rfl) (e_X12_couldScratch d (by omega) s x7 x10)) (fun r26 => ?_)
              show fu_J _ _ (fr_X d (some .int) k_X12_plays 103 [.ref 117, .int x1, .int x2, .int x3, .int x4, .int x5, .int (fu_b x6), .int x7, .int x8, .int x9, .int x10, .int (fu_b j7), am_U, am_U] [.int (fu_b r26)] s)
              refine fu_ite (fun h27 => fu_step (fu_ib_ne_t rfl h27) ?_) (fun h27 => fu_step (fu_ib_ne_f rfl h27) ?_)
              · refine fu_go 1 (pc' := 111) (ls' := [.ref 117, .int x1, .int x2, .int x3, .int x4, .int x5, .int (fu_b x6), .int x7, .int x8, .int x9, .int x10, .int (fu_b j7), am_U, am_U]) (st' := [.int (fu_b j7)]) (s' := s) rfl ?_
                refine fu_bind (V := fun j28 : Int32 => fr_X d (some .int) k_X12_plays 147 [.ref 117, .int x1, .int x2, .int x3, .int x4, .int x5, .int (fu_b x6), .int x7, .int x8, .int x9, .int x10, .int (fu_b j7), am_U, am_U] [.int j28] s) ?_ (fun j28 => ?_)
                · refine fu_ite (fun h29 => fu_step (fu_ib_eq_t rfl h29) ?_) (fun h29 => fu_step (fu_ib_eq_f rfl h29) ?_)
                  · refine fu_go 2 (pc' := 147) (ls' := [.ref 117, .int x1, .int x2, .int x3, .int x4, .int x5, .int (fu_b x6), .int x7, .int x8, .int x9, .int x10, .int (fu_b j7), am_U, am_U]) (st' := [.int (0 : Int32)]) (s' := s) rfl ?_
                    exact fu_leaf rfl ⟨.inr rfl, .inr rfl, .inr rfl, .inr rfl, .inr rfl, .inr rfl, .inr rfl, .inr rfl, .inr rfl, .inr rfl, .inr rfl, .inr rfl, .inl rfl, .inl rfl, trivial⟩
                  · refine fu_go 1 (pc' := 120) (ls' := [.ref 117, .int x1, .int x2, .int x3, .int x4, .int x5, .int (fu_b x6), .int x7, .int x8, .int x9, .int x10, .int (fu_b j7), am_U, am_U]) (st' := [.int (fu_b x6)]) (s' := s) rfl ?_
                    refine fu_ite (fun h30 => fu_step (fu_ib_eq_t rfl h30) ?_) (fun h30 => fu_step (fu_ib_eq_f rfl h30) ?_)
                    · refine fu_go 1 (pc' := 124) (ls' := [.ref 117, .int x1, .int x2, .int x3, .int x4, .int x5, .int (fu_b x6), .int x7, .int x8, .int x9, .int x10, .int (fu_b j7), am_U, am_U]) (st' := [.ref 117]) (s' := s) rfl ?_
                      refine fu_step (fu_getR rfl fr_117 rfl rfl) ?_
                      refine fu_go 3 (pc' := 132) (ls' := [.ref 117, .int x1, .int x2, .int x3, .int x4, .int x5, .int (fu_b x6), .int x7, .int x8, .int x9, .int x10, .int (fu_b j7), am_U, am_U]) (st' := [.int ((51 : Int32) + x10), .ref 122]) (s' := s) rfl ?_
                      refine fu_guard (fun h31 => fu_step (fu_ldI rfl fr_122 h31) ?_)
                      refine fu_go 1 (pc' := 147) (ls' := [.ref 117, .int x1, .int x2, .int x3, .int x4, .int x5, .int (fu_b x6), .int x7, .int x8, .int x9, .int x10, .int (fu_b j7), am_U, am_U]) (st' := [.int (s.1 122 (Int32.toNatClampNeg ((51 : Int32) + x10)))]) (s' := s) rfl ?_
                      exact fu_leaf rfl ⟨.inr rfl, .inr rfl, .inr rfl, .inr rfl, .inr rfl, .inr rfl, .inr rfl, .inr rfl, .inr rfl, .inr rfl, .inr rfl, .inr rfl, .inl rfl, .inl rfl, trivial⟩
                    · refine fu_go 1 (pc' := 137) (ls' := [.ref 117, .int x1, .int x2, .int x3, .int x4, .int x5, .int (fu_b x6), .int x7, .int x8, .int x9, .int x10, .int (fu_b j7), am_U, am_U]) (st' := [.ref 117]) (s' := s) rfl ?_
                      refine fu_step (fu_getR rfl fr_117 rfl rfl) ?_
                      refine fu_go 3 (pc' := 145) (ls' := [.ref 117, .int x1, .int x2, .int x3, .int x4, .int x5, .int (fu_b x6), .int x7, .int x8, .int x9, .int x10, .int (fu_b j7), am_U, am_U]) (st' := [.int ((51 : Int32) + x10), .ref 122]) (s' := s) rfl ?_
                      refine fu_guard (fun h32 => fu_step (fu_ldI rfl fr_122 h32) ?_)
                      refine fu_go 1 (pc' := 147) (ls' := [.ref 117, .int x1, .int x2, .int x3, .int x4, .int x5, .int (fu_b x6), .int x7, .int x8, .int x9, .int x10, .int (fu_b j7), am_U, am_U]) (st' := [.int (-(s.1 122 (Int32.toNatClampNeg ((51 : Int32) + x10))))]) (s' := s) rfl ?_
                      exact fu_leaf rfl ⟨.inr rfl, .inr rfl, .inr rfl, .inr rfl, .inr rfl, .inr rfl, .inr rfl, .inr rfl, .inr rfl, .inr rfl, .inr rfl, .inr rfl, .inl rfl, .inl rfl, trivial⟩
                show fu_J _ _ (fr_X d (some .int) k_X12_plays 147 [.ref 117, .int x1, .int x2, .int x3, .int x4, .int x5, .int (fu_b x6), .int x7, .int x8, .int x9, .int x10, .int (fu_b j7), am_U, am_U] [.int j28] s)
                refine fu_go 10 (pc' := 161) (ls' := [.ref 117, .int x1, .int x2, .int x3, .int x4, .int x5, .int (fu_b x6), .int x7, .int x8, .int x9, .int x10, .int (fu_b j7), .int j28, am_U]) (st' := [.int (fu_b j7), .int x4, .int (x3 + (1 : Int32)), .int x2, .int x1, .ref 117, .int j28]) (s' := s) rfl ?_
                refine fu_bind (V := fun j33 : Int32 => fr_X d (some .int) k_X12_plays 176 [.ref 117, .int x1, .int x2, .int x3, .int x4, .int x5, .int (fu_b x6), .int x7, .int x8, .int x9, .int x10, am_U, am_U, am_U] [.int j33, .int x4, .int (x3 + (1 : Int32)), .int x2, .int x1, .ref 117, .int j28] s) ?_ (fun j33 => ?_)
                · refine fu_ite (fun h34 => fu_step (fu_ib_eq_t rfl h34) ?_) (fun h34 => fu_step (fu_ib_eq_f rfl h34) ?_)
                  · refine fu_go 2 (pc' := 176) (ls' := [.ref 117, .int x1, .int x2, .int x3, .int x4, .int x5, .int (fu_b x6), .int x7, .int x8, .int x9, .int x10, .int (fu_b j7), .int j28, am_U]) (st' := [.int x5, .int x4, .int (x3 + (1 : Int32)), .int x2, .int x1, .ref 117, .int j28]) (s' := s) rfl ?_
                    exact fu_leaf rfl ⟨.inr rfl, .inr rfl, .inr rfl, .inr rfl, .inr rfl, .inr rfl, .inr rfl, .inr rfl, .inr rfl, .inr rfl, .inr rfl, .inl rfl, .inl rfl, .inl rfl, trivial⟩
                  · refine fu_go 5 (pc' := 176) (ls' := [.ref 117, .int x1, .int x2, .int x3, .int x4, .int x5, .int (fu_b x6), .int x7, .int x8, .int x9, .int x10, .int (fu_b j7), .int j28, am_U]) (st' := [.int (x5 ||| ((1 : Int32) <<< (x10 &&& 31))), .int x4, .int (x3 + (1 : Int32)), .int x2, .int x1, .ref 117, .int j28]) (s' := s) rfl ?_
                    exact fu_leaf rfl ⟨.inr rfl, .inr rfl, .inr rfl, .inr rfl, .inr rfl, .inr rfl, .inr rfl, .inr rfl, .inr rfl, .inr rfl, .inr rfl, .inl rfl, .inl rfl, .inl rfl, trivial⟩
                show fu_J _ _ (fr_X d (some .int) k_X12_plays 176 [.ref 117, .int x1, .int x2, .int x3, .int x4, .int x5, .int (fu_b x6), .int x7, .int x8, .int x9, .int x10, am_U, am_U, am_U] [.int j33, .int x4, .int (x3 + (1 : Int32)), .int x2, .int x1, .ref 117, .int j28] s)
                refine fu_bind (fu_cVJ rfl rfl rfl rfl rfl (fu_recv fr_117 am_at_X12_plays rfl) (hK d (by omega) s x1 x2 (x3 + (1 : Int32)) x4 j33)) (fun r35 => ?_)
                show fu_J _ _ (fr_X d (some .int) k_X12_plays 179 [.ref 117, .int x1, .int x2, .int x3, .int x4, .int x5, .int (fu_b x6), .int x7, .int x8, .int x9, .int x10, am_U, am_U, am_U] [.int r35.1, .int j28] r35.2)
                refine fu_go 3 (pc' := 184) (ls' := [.ref 117, .int x1, .int x2, .int x3, .int x4, .int x5, .int (fu_b x6), .int x7, .int x8, .int x9, .int x10, am_U, am_U, .int (j28 + r35.1)]) (st' := [.int x9]) (s' := r35.2) rfl ?_
                refine fu_ite (fun h36 => fu_step (fu_if_lt_t rfl h36) ?_) (fun h36 => fu_step (fu_if_lt_f rfl h36) ?_)
                · refine fu_go 4 (pc' := 220) (ls' := [.ref 117, .int x1, .int x2, .int x3, .int x4, .int x5, .int (fu_b x6), .int x7, .int (j28 + r35.1), .int x10, .int x10, am_U, am_U, .int (j28 + r35.1)]) (st' := []) (s' := r35.2) rfl ?_
                  exact fu_leaf rfl ⟨.inr rfl, .inr rfl, .inr rfl, .inr rfl, .inr rfl, .inr rfl, .inr rfl, .inr rfl, .inr rfl, .inr rfl, .inr rfl, .inl rfl, .inl rfl, .inl rfl, trivial⟩
                · refine fu_go 1 (pc' := 189) (ls' := [.ref 117, .int x1, .int x2, .int x3, .int x4, .int x5, .int (fu_b x6), .int x7, .int x8, .int x9, .int x10, am_U, am_U, .int (j28 + r35.1)]) (st' := [.int (fu_b x6)]) (s' := r35.2) rfl ?_
                  refine fu_ite (fun h37 => fu_step (fu_ib_eq_t rfl h37) ?_) (fun h37 => fu_step (fu_ib_eq_f rfl h37) ?_)
                  · refine fu_go 2 (pc' := 196) (ls' := [.ref 117, .int x1, .int x2, .int x3, .int x4, .int x5, .int (fu_b x6), .int x7, .int x8, .int x9, .int x10, am_U, am_U, .int (j28 + r35.1)]) (st' := [.int x8, .int (j28 + r35.1)]) (s' := r35.2) rfl ?_
                    refine fu_ite (fun h38 => fu_step (fu_ic_gt_t rfl h38) ?_) (fun h38 => fu_step (fu_ic_gt_f rfl h38) ?_)
                    · refine fu_go 1 (pc' := 220) (ls' := [.ref 117, .int x1, .int x2, .int x3, .int x4, .int x5, .int (fu_b x6), .int x7, .int x8, .int x9, .int x10, am_U, am_U, .int (j28 + r35.1)]) (st' := []) (s' := r35.2) rfl ?_
                      exact fu_leaf rfl ⟨.inr rfl, .inr rfl, .inr rfl, .inr rfl, .inr rfl, .inr rfl, .inr rfl, .inr rfl, .inr rfl, .inr rfl, .inr rfl, .inl rfl, .inl rfl, .inl rfl, trivial⟩
                    · refine fu_go 4 (pc' := 220) (ls' := [.ref 117, .int x1, .int x2, .int x3, .int x4, .int x5, .int (fu_b x6), .int x7, .int (j28 + r35.1), .int x10, .int x10, am_U, am_U, .int (j28 + r35.1)]) (st' := []) (s' := r35.2) rfl ?_
                      exact fu_leaf rfl ⟨.inr rfl, .inr rfl, .inr rfl, .inr rfl, .inr rfl, .inr rfl, .inr rfl, .inr rfl, .inr rfl, .inr rfl, .inr rfl, .inl rfl, .inl rfl, .inl rfl, trivial⟩
                  · refine fu_go 2 (pc' := 206) (ls' := [.ref 117, .int x1, .int x2, .int x3, .int x4, .int x5, .int (fu_b x6), .int x7, .int x8, .int x9, .int x10, am_U, am_U, .int (j28 + r35.1)]) (st' := [.int x8, .int (j28 + r35.1)]) (s' := r35.2) rfl ?_
                    refine fu_ite (fun h39 => fu_step (fu_ic_lt_t rfl h39) ?_) (fun h39 => fu_step (fu_ic_lt_f rfl h39) ?_)
                    · refine fu_go 4 (pc' := 220) (ls' := [.ref 117, .int x1, .int x2, .int x3, .int x4, .int x5, .int (fu_b x6), .int x7, .int (j28 + r35.1), .int x10, .int x10, am_U, am_U, .int (j28 + r35.1)]) (st' := []) (s' := r35.2) rfl ?_
                      exact fu_leaf rfl ⟨.inr rfl, .inr rfl, .inr rfl, .inr rfl, .inr rfl, .inr rfl, .inr rfl, .inr rfl, .inr rfl, .inr rfl, .inr rfl, .inl rfl, .inl rfl, .inl rfl, trivial⟩
                    · refine fu_go 1 (pc' := 220) (ls' := [.ref 117, .int x1, .int x2, .int x3, .int x4, .int x5, .int (fu_b x6), .int x7, .int x8, .int x9, .int x10, am_U, am_U, .int (j28 + r35.1)]) (st' := []) (s' := r35.2) rfl ?_
                      exact fu_leaf rfl ⟨.inr rfl, .inr rfl, .inr rfl, .inr rfl, .inr rfl, .inr rfl, .inr rfl, .inr rfl, .inr rfl, .inr rfl, .inr rfl, .inl rfl, .inl rfl, .inl rfl, trivial⟩
              · refine fu_go 1 (pc' := 220) (ls' := [.ref 117, .int x1, .int x2, .int x3, .int x4, .int x5, .int (fu_b x6), .int x7, .int x8, .int x9, .int x10, .int (fu_b j7), am_U, am_U]) (st' := []) (s' := s) rfl ?_
                exact fu_leaf rfl ⟨.inr rfl, .inr rfl, .inr rfl, .inr rfl, .inr rfl, .inr rfl, .inr rfl, .inr rfl, .inr rfl, .inr rfl, .inr rfl, .inl rfl, .inl rfl, .inl rfl, trivial⟩
            · exact fu_leaf rfl ⟨.inr rfl, .inr rfl, .inr rfl, .inr rfl, .inr rfl, .inr rfl, .inr rfl, .inr rfl, .inr rfl, .inr rfl, .inr rfl, .inl rfl, .inl rfl, .inl rfl, trivial⟩
      show fu_J _ _ (fr_X d (some .int) k_X12_plays 220 [.ref 117, .int x1, .int x2, .int x3, .int x4, .int x5, .int (fu_b x6), .int x7, .int j9.1, .int j9.2.1, .int x10, am_U, am_U, am_U] [] j9.2.2)
      refine fu_go 2 (pc' := 42) (ls' := [.ref 117, .int x1, .int x2, .int x3, .int x4, .int x5, .int (fu_b x6), .int x7, .int j9.1, .int j9.2.1, .int (x10 + (1 : Int32)), am_U, am_U, am_U]) (st' := []) (s' := j9.2.2) rfl ?_
      exact fu_drop (ls' := [.ref 117, .int x1, .int x2, .int x3, .int x4, .int x5, .int (fu_b x6), .int x7, .int j9.1, .int j9.2.1, .int (x10 + (1 : Int32)), am_U, am_U, am_U]) ⟨.inr rfl, .inr rfl, .inr rfl, .inr rfl, .inr rfl, .inr rfl, .inr rfl, .inr rfl, .inr rfl, .inr rfl, .inr rfl, .inl rfl, .inl rfl, .inl rfl, trivial⟩ (ih j9.2.2 x1 x2 x3 x4 x5 x6 x7 j9.1 j9.2.1 (x10 + (1 : Int32)))
    · exact fu_leaf rfl ⟨.inr rfl, .inl rfl, .inl rfl, .inr rfl, .inl rfl, .inl rfl, .inl rfl, .inl rfl, .inr rfl, .inr rfl, .inl rfl, .inl rfl, .inl rfl, .inl rfl, trivial⟩
set_option maxRecDepth 100000 in
theorem eb_X12_plays (K : fu_S → Int32 → Int32 → Int32 → Int32 → Int32 → Option (Int32 × fu_S)) (D0 : Nat) (hK : ∀ d, D0 ≤ d → ∀ (s : fu_S) (a1 : Int32) (a2 : Int32) (a3 : Int32) (a4 : Int32) (a5 : Int32), fu_J (K s a1 a2 a3 a4 a5) (fun r => some (some (.int r.1), r.2)) (am_D (fu_ho fr_sh) am_m d 364 [.ref 117, .int a1, .int a2, .int a3, .int a4, .int a5] s)) (d : Nat) (hd0 : D0 + 1 ≤ d) (hd : 6 ≤ d) (s : fu_S) (a1 : Int32) (a2 : Int32) (a3 : Int32) (a4 : Int32) (a5 : Int32) : fu_J (fb_X12_plays K s a1 a2 a3 a4 a5) (fun r => some (some (.int r.1), r.2)) (am_D (fu_ho fr_sh) am_m d 364 [.ref 117, .int a1, .int a2, .int a3, .int a4, .int a5] s) := by
  obtain ⟨d, rfl⟩ : ∃ e, d = e + 1 := ⟨d - 1, by omega⟩
  refine fu_enter (ls := [.ref 117, .int a1, .int a2, .int a3, .int a4, .int a5, am_U, am_U, am_U, am_U, am_U, am_U, am_U, am_U]) am_at_X12_plays rfl rfl ?_
  show fu_J _ _ (fr_X d (some .int) k_X12_plays 0 [.ref 117, .int a1, .int a2, .int a3, .int a4, .int a5, am_U, am_U, am_U, am_U, am_U, am_U, am_U, am_U] [] s)
  unfold fb_X12_plays
  refine fu_go 2 (pc' := 3) (ls' := [.ref 117, .int a1, .int a2, .int a3, .int a4, .int a5, am_U, am_U, am_U, am_U, am_U, am_U, am_U, am_U]) (st' := [.int a4, .int a3]) (s' := s) rfl ?_
  refine fu_ite (fun h1 => fu_step (fu_ic_ne_t rfl h1) ?_) (fun h1 => fu_step (fu_ic_ne_f rfl h1) ?_)
  · refine fu_go 1 (pc' := 7) (ls' := [.ref 117, .int a1, .int a2, .int a3, .int a4, .int a5, am_U, am_U, am_U, am_U, am_U, am_U, am_U, am_U]) (st' := [.int (0 : Int32)]) (s' := s) rfl ?_
    exact fu_iret rfl rfl
  · refine fu_go 2 (pc' := 10) (ls' := [.ref 117, .int a1, .int a2, .int a3, .int a4, .int a5, am_U, am_U, am_U, am_U, am_U, am_U, am_U, am_U]) (st' := [.int (2 : Int32), .int a3]) (s' := s) rfl ?_
    refine fu_step (fu_rem rfl (by decide)) ?_
    refine fu_bind (V := fun j2 : Bool => fr_X d (some .int) k_X12_plays 19 [.ref 117, .int a1, .int a2, .int a3, .int a4, .int a5, am_U, am_U, am_U, am_U, am_U, am_U, am_U, am_U] [.int (fu_b j2)] s) ?_ (fun j2 => ?_)
    · refine fu_ite (fun h3 => fu_step (fu_if_ne_t rfl h3) ?_) (fun h3 => fu_step (fu_if_ne_f rfl h3) ?_)
      · refine fu_go 2 (pc' := 19) (ls' := [.ref 117, .int a1, .int a2, .int a3, .int a4, .int a5, am_U, am_U, am_U, am_U, am_U, am_U, am_U, am_U]) (st' := [.int (1 : Int32)]) (s' := s) rfl ?_
        exact fu_leaf rfl ⟨.inr rfl, .inr rfl, .inr rfl, .inr rfl, .inr rfl, .inr rfl, .inl rfl, .inl rfl, .inl rfl, .inl rfl, .inl rfl, .inl rfl, .inl rfl, .inl rfl, trivial⟩
      · refine fu_go 1 (pc' := 19) (ls' := [.ref 117, .int a1, .int a2, .int a3, .int a4, .int a5, am_U, am_U, am_U, am_U, am_U, am_U, am_U, am_U]) (st' := [.int (0 : Int32)]) (s' := s) rfl ?_
        exact fu_leaf rfl ⟨.inr rfl, .inr rfl, .inr rfl, .inr rfl, .inr rfl, .inr rfl, .inl rfl, .inl rfl, .inl rfl, .inl rfl, .inl rfl, .inl rfl, .inl rfl, .inl rfl, trivial⟩
    show fu_J _ _ (fr_X d (some .int) k_X12_plays 19 [.ref 117, .int a1, .int a2, .int a3, .int a4, .int a5, am_U, am_U, am_U, am_U, am_U, am_U, am_U, am_U] [.int (fu_b j2)] s)
    refine fu_go 2 (pc' := 23) (ls' := [.ref 117, .int a1, .int a2, .int a3, .int a4, .int a5, .int (fu_b j2), am_U, am_U, am_U, am_U, am_U, am_U, am_U]) (st' := [.int (fu_b j2)]) (s' := s) rfl ?_
    refine fu_bind (V := fun j4 : Int32 => fr_X d (some .int) k_X12_plays 31 [.ref 117, .int a1, .int a2, .int a3, .int a4, .int a5, .int (fu_b j2), am_U, am_U, am_U, am_U, am_U, am_U, am_U] [.int j4] s) ?_ (fun j4 => ?_)
    · refine fu_ite (fun h5 => fu_step (fu_ib_eq_t rfl h5) ?_) (fun h5 => fu_step (fu_ib_eq_f rfl h5) ?_)
      · refine fu_go 2 (pc' := 31) (ls' := [.ref 117, .int a1, .int a2, .int a3, .int a4, .int a5, .int (fu_b j2), am_U, am_U, am_U, am_U, am_U, am_U, am_U]) (st' := [.int a1]) (s' := s) rfl ?_
        exact fu_leaf rfl ⟨.inr rfl, .inr rfl, .inr rfl, .inr rfl, .inr rfl, .inr rfl, .inr rfl, .inl rfl, .inl rfl, .inl rfl, .inl rfl, .inl rfl, .inl rfl, .inl rfl, trivial⟩
      · refine fu_go 1 (pc' := 31) (ls' := [.ref 117, .int a1, .int a2, .int a3, .int a4, .int a5, .int (fu_b j2), am_U, am_U, am_U, am_U, am_U, am_U, am_U]) (st' := [.int a2]) (s' := s) rfl ?_
        exact fu_leaf rfl ⟨.inr rfl, .inr rfl, .inr rfl, .inr rfl, .inr rfl, .inr rfl, .inr rfl, .inl rfl, .inl rfl, .inl rfl, .inl rfl, .inl rfl, .inl rfl, .inl rfl, trivial⟩
    show fu_J _ _ (fr_X d (some .int) k_X12_plays 31 [.ref 117, .int a1, .int a2, .int a3, .int a4, .int a5, .int (fu_b j2), am_U, am_U, am_U, am_U, am_U, am_U, am_U] [.int j4] s)
    refine fu_go 7 (pc' := 42) (ls' := [.ref 117, .int a1, .int a2, .int a3, .int a4, .int a5, .int (fu_b j2), .int j4, .int (0 : Int32), .int (-1 : Int32), .int (0 : Int32), am_U, am_U, am_U]) (st' := []) (s' := s) rfl ?_
    refine fu_drop (ls' := [.ref 117, .int a1, .int a2, .int a3, .int a4, .int a5, .int (fu_b j2), .int j4, .int (0 : Int32), .int (-1 : Int32), .int (0 : Int32), am_U, am_U, am_U]) ⟨.inr rfl, .inr rfl, .inr rfl, .inr rfl, .inr rfl, .inr rfl, .inr rfl, .inr rfl, .inr rfl, .inr rfl, .inr rfl, .inl rfl, .inl rfl, .inl rfl, trivial⟩ ?_
    refine fu_bind (el_X12_plays_42 K D0 hK d (by omega) (by omega) fu_N s a1 a2 a3 a4 a5 j2 j4 (0 : Int32) (-1 : Int32) (0 : Int32)) (fun r40 => ?_)
    show fu_J _ _ (fr_X d (some .int) k_X12_plays 226 [.ref 117, am_U, am_U, .int a3, am_U, am_U, am_U, am_U, .int r40.1, .int r40.2.1, am_U, am_U, am_U, am_U] [] r40.2.2)
    refine fu_go 1 (pc' := 227) (ls' := [.ref 117, am_U, am_U, .int a3, am_U, am_U, am_U, am_U, .int r40.1, .int r40.2.1, am_U, am_U, am_U, am_U]) (st' := [.int a3]) (s' := r40.2.2) rfl ?_
    refine fu_bind (V := fun j41 : fu_S => fr_X d (some .int) k_X12_plays 236 [am_U, am_U, am_U, am_U, am_U, am_U, am_U, am_U, .int r40.1, am_U, am_U, am_U, am_U, am_U] [] j41) ?_ (fun j41 => ?_)
    · refine fu_ite (fun h42 => fu_step (fu_if_ne_t rfl h42) ?_) (fun h42 => fu_step (fu_if_ne_f rfl h42) ?_)
      · refine fu_go 2 (pc' := 233) (ls' := [.ref 117, am_U, am_U, .int a3, am_U, am_U, am_U, am_U, .int r40.1, .int r40.2.1, am_U, am_U, am_U, am_U]) (st' := [.int r40.2.1, .ref 117]) (s' := r40.2.2) rfl ?_
        refine fu_lets (b := (fu_pi r40.2.2 117 29 r40.2.1)) (fu_putI rfl fr_117 rfl rfl) (fun s43 => ?_)
        exact fu_leaf rfl ⟨.inl rfl, .inl rfl, .inl rfl, .inl rfl, .inl rfl, .inl rfl, .inl rfl, .inl rfl, .inr rfl, .inl rfl, .inl rfl, .inl rfl, .inl rfl, .inl rfl, trivial⟩
      · exact fu_leaf rfl ⟨.inl rfl, .inl rfl, .inl rfl, .inl rfl, .inl rfl, .inl rfl, .inl rfl, .inl rfl, .inr rfl, .inl rfl, .inl rfl, .inl rfl, .inl rfl, .inl rfl, trivial⟩
    show fu_J _ _ (fr_X d (some .int) k_X12_plays 236 [am_U, am_U, am_U, am_U, am_U, am_U, am_U, am_U, .int r40.1, am_U, am_U, am_U, am_U, am_U] [] j41)
    refine fu_go 1 (pc' := 238) (ls' := [am_U, am_U, am_U, am_U, am_U, am_U, am_U, am_U, .int r40.1, am_U, am_U, am_U, am_U, am_U]) (st' := [.int r40.1]) (s' := j41) rfl ?_
    exact fu_iret rfl rfl
theorem e_X12_plays : ∀ (n d : Nat) (_ : 6 + 1 * n ≤ d) (s : fu_S) (a1 : Int32) (a2 : Int32) (a3 : Int32) (a4 : Int32) (a5 : Int32), fu_J (f_X12_plays n s a1 a2 a3 a4 a5) (fun r => some (some (.int r.1), r.2)) (am_D (fu_ho fr_sh) am_m d 364 [.ref 117, .int a1, .int a2, .int a3, .int a4, .int a5] s)
  | 0 => fun d _ _ _ _ _ _ _ => fu_none
  | n + 1 => fun d hd s a1 a2 a3 a4 a5 => eb_X12_plays (f_X12_plays n) (6 + 1 * n) (fun d hd => e_X12_plays n d hd) d (by omega) (by omega) s a1 a2 a3 a4 a5
/-! X12_whyNoGame -/
set_option maxRecDepth 100000 in
theorem e_X12_whyNoGame (d : Nat) (hd : 3 ≤ d) (s : fu_S) (a1 : Int32) (a2 : Int32) (a3 : Int32) (a4 : Int32) : fu_J (some (f_X12_whyNoGame s a1 a2 a3 a4)) (fun r => some (some (.int r), s)) (am_D (fu_ho fr_sh) am_m d 365 [.ref 117, .int a1, .int a2, .int a3, .int a4] s) := by
  obtain ⟨d, rfl⟩ : ∃ e, d = e + 1 := ⟨d - 1, by omega⟩
  refine fu_enter (ls := [.ref 117, .int a1, .int a2, .int a3, .int a4]) am_at_X12_whyNoGame rfl rfl ?_
  show fu_J _ _ (fr_X d (some .int) k_X12_whyNoGame 0 [.ref 117, .int a1, .int a2, .int a3, .int a4] [] s)
  unfold f_X12_whyNoGame
  refine fu_go 3 (pc' := 3) (ls' := [.ref 117, .int a1, .int a2, .int a3, .int a4]) (st' := [.long (Int32.toInt64 a1), .ref 117]) (s' := s) rfl ?_
  refine fu_step (fu_cV rfl rfl rfl rfl rfl (fu_recv fr_117 am_at_X12_isPersonAt rfl) (fu_eq (e_X12_isPersonAt d (by omega) s (Int32.toInt64 a1)) rfl)) ?_
  show fu_J _ _ (fr_X d (some .int) k_X12_whyNoGame 6 [.ref 117, .int a1, .int a2, .int a3, .int a4] [.int (fu_b (f_X12_isPersonAt s (Int32.toInt64 a1)))] s)
  refine fu_iteS (fun h1 => fu_step (fu_ib_eq_t rfl h1) ?_) (fun h1 => fu_step (fu_ib_eq_f rfl h1) ?_)
  · refine fu_go 3 (pc' := 12) (ls' := [.ref 117, .int a1, .int a2, .int a3, .int a4]) (st' := [.long (Int32.toInt64 a2), .ref 117]) (s' := s) rfl ?_
    refine fu_step (fu_cV rfl rfl rfl rfl rfl (fu_recv fr_117 am_at_X12_isPersonAt rfl) (fu_eq (e_X12_isPersonAt d (by omega) s (Int32.toInt64 a2)) rfl)) ?_
    show fu_J _ _ (fr_X d (some .int) k_X12_whyNoGame 15 [.ref 117, .int a1, .int a2, .int a3, .int a4] [.int (fu_b (f_X12_isPersonAt s (Int32.toInt64 a2)))] s)
    refine fu_iteS (fun h2 => fu_step (fu_ib_ne_t rfl h2) ?_) (fun h2 => fu_step (fu_ib_ne_f rfl h2) ?_)
    · refine fu_go 2 (pc' := 22) (ls' := [.ref 117, .int a1, .int a2, .int a3, .int a4]) (st' := [.int a2, .int a1]) (s' := s) rfl ?_
      refine fu_letS (V := fun j3 : Int32 => fr_X d (some .int) k_X12_whyNoGame 44 [am_U, am_U, am_U, am_U, am_U] [.int j3] s) ?_ (fun j3 => ?_)
      · refine fu_iteS (fun h4 => fu_step (fu_ic_eq_t rfl h4) ?_) (fun h4 => fu_step (fu_ic_eq_f rfl h4) ?_)
        · refine fu_go 1 (pc' := 44) (ls' := [.ref 117, .int a1, .int a2, .int a3, .int a4]) (st' := [.int (5 : Int32)]) (s' := s) rfl ?_
          exact fu_leaf rfl ⟨.inl rfl, .inl rfl, .inl rfl, .inl rfl, .inl rfl, trivial⟩
        · refine fu_go 5 (pc' := 33) (ls' := [.ref 117, .int a1, .int a2, .int a3, .int a4]) (st' := [.long (4 : Int64), .long (Int32.toInt64 a4), .long (Int32.toInt64 a3)]) (s' := s) rfl ?_
          refine fu_step (fu_cS rfl rfl rfl rfl rfl rfl (fu_eq (e_X12_isIn d (by omega) s (Int32.toInt64 a3) (Int32.toInt64 a4) (4 : Int64)) rfl)) ?_
          show fu_J _ _ (fr_X d (some .int) k_X12_whyNoGame 36 [.ref 117, .int a1, .int a2, .int a3, .int a4] [.int (fu_b (f_X12_isIn (Int32.toInt64 a3) (Int32.toInt64 a4) (4 : Int64)))] s)
          refine fu_iteS (fun h5 => fu_step (fu_ib_eq_t rfl h5) ?_) (fun h5 => fu_step (fu_ib_eq_f rfl h5) ?_)
          · refine fu_go 2 (pc' := 44) (ls' := [.ref 117, .int a1, .int a2, .int a3, .int a4]) (st' := [.int (0 : Int32)]) (s' := s) rfl ?_
            exact fu_leaf rfl ⟨.inl rfl, .inl rfl, .inl rfl, .inl rfl, .inl rfl, trivial⟩
          · refine fu_go 1 (pc' := 44) (ls' := [.ref 117, .int a1, .int a2, .int a3, .int a4]) (st' := [.int (5 : Int32)]) (s' := s) rfl ?_
            exact fu_leaf rfl ⟨.inl rfl, .inl rfl, .inl rfl, .inl rfl, .inl rfl, trivial⟩
      show fu_J _ _ (fr_X d (some .int) k_X12_whyNoGame 44 [am_U, am_U, am_U, am_U, am_U] [.int j3] s)
      exact fu_iret rfl rfl
    · refine fu_go 1 (pc' := 19) (ls' := [.ref 117, .int a1, .int a2, .int a3, .int a4]) (st' := [.int (2 : Int32)]) (s' := s) rfl ?_
      exact fu_iret rfl rfl
  · refine fu_go 1 (pc' := 19) (ls' := [.ref 117, .int a1, .int a2, .int a3, .int a4]) (st' := [.int (2 : Int32)]) (s' := s) rfl ?_
    exact fu_iret rfl rfl
/-! X12_game -/
set_option maxRecDepth 100000 in
theorem e_X12_game (d : Nat) (hd : 23 ≤ d) (s : fu_S) (a1 : Int32) (a2 : Int32) (a3 : Int32) : fu_J (f_X12_game s a1 a2 a3) (fun r => some (some (.int r.1), r.2)) (am_D (fu_ho fr_sh) am_m d 366 [.ref 117, .int a1, .int a2, .int a3] s) := by
  obtain ⟨d, rfl⟩ : ∃ e, d = e + 1 := ⟨d - 1, by omega⟩
  refine fu_enter (ls := [.ref 117, .int a1, .int a2, .int a3]) am_at_X12_game rfl rfl ?_
  show fu_J _ _ (fr_X d (some .int) k_X12_game 0 [.ref 117, .int a1, .int a2, .int a3] [] s)
  unfold f_X12_game
  refine fu_go 2 (pc' := 2) (ls' := [.ref 117, .int a1, .int a2, .int a3]) (st' := [.int (0 : Int32), .ref 117]) (s' := s) rfl ?_
  refine fu_lets (b := (fu_pi s 117 1 (0 : Int32))) (fu_putI rfl fr_117 rfl rfl) (fun s1 => ?_)
  refine fu_go 6 (pc' := 11) (ls' := [.ref 117, .int a1, .int a2, .int a3]) (st' := [.int (0 : Int32), .int a3, .int a2, .int a1, .ref 117, .ref 117]) (s' := s1) rfl ?_
  refine fu_step (fu_cV rfl rfl rfl rfl rfl (fu_recv fr_117 am_at_X12_whyNoGame rfl) (fu_eq (e_X12_whyNoGame d (by omega) s1 a1 a2 a3 (0 : Int32)) rfl)) ?_
  show fu_J _ _ (fr_X d (some .int) k_X12_game 14 [.ref 117, .int a1, .int a2, .int a3] [.int (f_X12_whyNoGame s1 a1 a2 a3 (0 : Int32)), .ref 117] s1)
  refine fu_lets (b := (fu_pi s1 117 0 (f_X12_whyNoGame s1 a1 a2 a3 (0 : Int32)))) (fu_putI rfl fr_117 rfl rfl) (fun s2 => ?_)
  refine fu_go 1 (pc' := 18) (ls' := [.ref 117, .int a1, .int a2, .int a3]) (st' := [.ref 117]) (s' := s2) rfl ?_
  refine fu_step (fu_getI rfl fr_117 rfl rfl) ?_
  refine fu_bind (V := fun j3 : Int32 × fu_S => fr_X d (some .int) k_X12_game 37 [am_U, am_U, am_U, am_U] [.int j3.1] j3.2) ?_ (fun j3 => ?_)
  · refine fu_ite (fun h4 => fu_step (fu_if_le_t rfl h4) ?_) (fun h4 => fu_step (fu_if_le_f rfl h4) ?_)
    · refine fu_go 6 (pc' := 34) (ls' := [.ref 117, .int a1, .int a2, .int a3]) (st' := [.int (0 : Int32), .int a3, .int (0 : Int32), .int a2, .int a1, .ref 117]) (s' := s2) rfl ?_
      refine fu_bind (fu_cVJ rfl rfl rfl rfl rfl (fu_recv fr_117 am_at_X12_plays rfl) (e_X12_plays 16 d (by omega) s2 a1 a2 (0 : Int32) a3 (0 : Int32))) (fun r5 => ?_)
      show fu_J _ _ (fr_X d (some .int) k_X12_game 37 [.ref 117, .int a1, .int a2, .int a3] [.int r5.1] r5.2)
      exact fu_leaf rfl ⟨.inl rfl, .inl rfl, .inl rfl, .inl rfl, trivial⟩
    · refine fu_go 2 (pc' := 37) (ls' := [.ref 117, .int a1, .int a2, .int a3]) (st' := [.int (-1 : Int32)]) (s' := s2) rfl ?_
      exact fu_leaf rfl ⟨.inl rfl, .inl rfl, .inl rfl, .inl rfl, trivial⟩
  show fu_J _ _ (fr_X d (some .int) k_X12_game 37 [am_U, am_U, am_U, am_U] [.int j3.1] j3.2)
  exact fu_iret rfl rfl
/-! X12_moveOf -/
set_option maxRecDepth 100000 in
theorem e_X12_moveOf (d : Nat) (hd : 23 ≤ d) (s : fu_S) (a1 : Int32) (a2 : Int32) (a3 : Int32) : fu_J (f_X12_moveOf s a1 a2 a3) (fun r => some (some (.int r.1), r.2)) (am_D (fu_ho fr_sh) am_m d 367 [.ref 117, .int a1, .int a2, .int a3] s) := by
  obtain ⟨d, rfl⟩ : ∃ e, d = e + 1 := ⟨d - 1, by omega⟩
  refine fu_enter (ls := [.ref 117, .int a1, .int a2, .int a3]) am_at_X12_moveOf rfl rfl ?_
  show fu_J _ _ (fr_X d (some .int) k_X12_moveOf 0 [.ref 117, .int a1, .int a2, .int a3] [] s)
  unfold f_X12_moveOf
  refine fu_go 2 (pc' := 2) (ls' := [.ref 117, .int a1, .int a2, .int a3]) (st' := [.int (0 : Int32), .ref 117]) (s' := s) rfl ?_
  refine fu_lets (b := (fu_pi s 117 1 (0 : Int32))) (fu_putI rfl fr_117 rfl rfl) (fun s1 => ?_)
  refine fu_go 6 (pc' := 11) (ls' := [.ref 117, .int a1, .int a2, .int a3]) (st' := [.int (1 : Int32), .int a3, .int a2, .int a1, .ref 117, .ref 117]) (s' := s1) rfl ?_
  refine fu_step (fu_cV rfl rfl rfl rfl rfl (fu_recv fr_117 am_at_X12_whyNoGame rfl) (fu_eq (e_X12_whyNoGame d (by omega) s1 a1 a2 a3 (1 : Int32)) rfl)) ?_
  show fu_J _ _ (fr_X d (some .int) k_X12_moveOf 14 [.ref 117, .int a1, .int a2, .int a3] [.int (f_X12_whyNoGame s1 a1 a2 a3 (1 : Int32)), .ref 117] s1)
  refine fu_lets (b := (fu_pi s1 117 0 (f_X12_whyNoGame s1 a1 a2 a3 (1 : Int32)))) (fu_putI rfl fr_117 rfl rfl) (fun s2 => ?_)
  refine fu_go 1 (pc' := 18) (ls' := [.ref 117, .int a1, .int a2, .int a3]) (st' := [.ref 117]) (s' := s2) rfl ?_
  refine fu_step (fu_getI rfl fr_117 rfl rfl) ?_
  refine fu_ite (fun h3 => fu_step (fu_if_le_t rfl h3) ?_) (fun h3 => fu_step (fu_if_le_f rfl h3) ?_)
  · refine fu_go 6 (pc' := 32) (ls' := [.ref 117, .int a1, .int a2, .int a3]) (st' := [.int (0 : Int32), .int a3, .int (0 : Int32), .int a2, .int a1, .ref 117]) (s' := s2) rfl ?_
    refine fu_bind (fu_cVJ rfl rfl rfl rfl rfl (fu_recv fr_117 am_at_X12_plays rfl) (e_X12_plays 16 d (by omega) s2 a1 a2 (0 : Int32) a3 (0 : Int32))) (fun r4 => ?_)
    show fu_J _ _ (fr_X d (some .int) k_X12_moveOf 35 [.ref 117, .int a1, .int a2, .int a3] [.int r4.1] r4.2)
    refine fu_go 2 (pc' := 37) (ls' := [.ref 117, .int a1, .int a2, .int a3]) (st' := [.ref 117]) (s' := r4.2) rfl ?_
    refine fu_step (fu_getI rfl fr_117 rfl rfl) ?_
    refine fu_go 1 (pc' := 41) (ls' := [.ref 117, .int a1, .int a2, .int a3]) (st' := [.ref 117, .int (r4.2.1 117 29)]) (s' := r4.2) rfl ?_
    refine fu_step (fu_getR rfl fr_117 rfl rfl) ?_
    refine fu_go 1 (pc' := 45) (ls' := [.ref 117, .int a1, .int a2, .int a3]) (st' := [.int (2 : Int32), .ref 122, .int (r4.2.1 117 29)]) (s' := r4.2) rfl ?_
    refine fu_step (fu_ldIk (k := 2) rfl fr_122 (by decide) (by decide)) ?_
    refine fu_bind (V := fun j5 : Int32 × fu_S => fr_X d (some .int) k_X12_moveOf 62 [am_U, am_U, am_U, am_U] [.int j5.1] j5.2) ?_ (fun j5 => ?_)
    · refine fu_ite (fun h6 => fu_step (fu_ic_ne_t rfl h6) ?_) (fun h6 => fu_step (fu_ic_ne_f rfl h6) ?_)
      · refine fu_go 2 (pc' := 52) (ls' := [.ref 117, .int a1, .int a2, .int a3]) (st' := [.int (8 : Int32), .ref 117]) (s' := r4.2) rfl ?_
        refine fu_let (fu_cVJ rfl rfl rfl rfl rfl (fu_recv fr_117 am_at_X12_refuse rfl) (e_X12_refuse d (by omega) r4.2 (8 : Int32))) (fun r7 => ?_)
        show fu_J _ _ (fr_X d (some .int) k_X12_moveOf 55 [.ref 117, .int a1, .int a2, .int a3] [.int r7.1] r7.2)
        refine fu_go 1 (pc' := 62) (ls' := [.ref 117, .int a1, .int a2, .int a3]) (st' := [.int r7.1]) (s' := r7.2) rfl ?_
        exact fu_leaf rfl ⟨.inl rfl, .inl rfl, .inl rfl, .inl rfl, trivial⟩
      · refine fu_go 1 (pc' := 59) (ls' := [.ref 117, .int a1, .int a2, .int a3]) (st' := [.ref 117]) (s' := r4.2) rfl ?_
        refine fu_step (fu_getI rfl fr_117 rfl rfl) ?_
        exact fu_leaf rfl ⟨.inl rfl, .inl rfl, .inl rfl, .inl rfl, trivial⟩
    show fu_J _ _ (fr_X d (some .int) k_X12_moveOf 62 [am_U, am_U, am_U, am_U] [.int j5.1] j5.2)
    exact fu_iret rfl rfl
  · refine fu_go 1 (pc' := 25) (ls' := [.ref 117, .int a1, .int a2, .int a3]) (st' := [.int (-1 : Int32)]) (s' := s2) rfl ?_
    exact fu_iret rfl rfl
/-! X12_tongue -/
theorem el_X12_tongue_36 (d : Nat) (hd : 0 ≤ d) : ∀ (n : Nat) (s : fu_S) (x1 : Int32) (x2 : Int64) (x4 : Int64) (x6 : Int32), fu_J (l_X12_tongue_36 n s x1 x2 x4 x6) (fun r => fr_X d (some .boolean) k_X12_tongue 69 [.ref 117, am_U, .long r.1, am_U, .long r.2, am_U, am_U] [] s) (fr_X d (some .boolean) k_X12_tongue 36 [.ref 117, .int x1, .long x2, am_U, .long x4, am_U, .int x6] [] s) := by
  intro n
  induction n with
  | zero => intros; exact fu_none
  | succ n ih =>
    intro s x1 x2 x4 x6
    rw [l_X12_tongue_36]
    refine fu_go 2 (pc' := 39) (ls' := [.ref 117, .int x1, .long x2, am_U, .long x4, am_U, .int x6]) (st' := [.int x1, .int x6]) (s' := s) rfl ?_
    refine fu_ite (fun h4 => fu_step (fu_ic_ge_t rfl h4) ?_) (fun h4 => fu_step (fu_ic_ge_f rfl h4) ?_)
    · refine fu_go 3 (pc' := 46) (ls' := [.ref 117, .int x1, .long x2, am_U, .long x4, am_U, .int x6]) (st' := [.ref 117, .int (16 : Int32), .long x2]) (s' := s) rfl ?_
      refine fu_step (fu_getR rfl fr_117 rfl rfl) ?_
      refine fu_go 1 (pc' := 50) (ls' := [.ref 117, .int x1, .long x2, am_U, .long x4, am_U, .int x6]) (st' := [.int (3 : Int32), .ref 122, .int (16 : Int32), .long x2]) (s' := s) rfl ?_
      refine fu_step (fu_ldIk (k := 3) rfl fr_122 (by decide) (by decide)) ?_
      refine fu_go 10 (pc' := 36) (ls' := [.ref 117, .int x1, .long (x2 * (Int32.toInt64 ((16 : Int32) - (s.1 122 3)))), am_U, .long (x4 * (16 : Int64)), am_U, .int (x6 + (1 : Int32))]) (st' := []) (s' := s) rfl ?_
      exact fu_drop (ls' := [.ref 117, .int x1, .long (x2 * (Int32.toInt64 ((16 : Int32) - (s.1 122 3)))), am_U, .long (x4 * (16 : Int64)), am_U, .int (x6 + (1 : Int32))]) ⟨.inr rfl, .inr rfl, .inr rfl, .inl rfl, .inr rfl, .inl rfl, .inr rfl, trivial⟩ (ih s x1 (x2 * (Int32.toInt64 ((16 : Int32) - (s.1 122 3)))) (x4 * (16 : Int64)) (x6 + (1 : Int32)))
    · exact fu_leaf rfl ⟨.inr rfl, .inl rfl, .inr rfl, .inl rfl, .inr rfl, .inl rfl, .inl rfl, trivial⟩
set_option maxRecDepth 100000 in
theorem e_X12_tongue (d : Nat) (hd : 2 ≤ d) (s : fu_S) (a1 : Int32) : fu_J (f_X12_tongue s a1) (fun r => some (some (.int (fu_b r.1)), r.2)) (am_D (fu_ho fr_sh) am_m d 368 [.ref 117, .int a1] s) := by
  obtain ⟨d, rfl⟩ : ∃ e, d = e + 1 := ⟨d - 1, by omega⟩
  refine fu_enter (ls := [.ref 117, .int a1, am_U, am_U, am_U, am_U, am_U]) am_at_X12_tongue rfl rfl ?_
  show fu_J _ _ (fr_X d (some .boolean) k_X12_tongue 0 [.ref 117, .int a1, am_U, am_U, am_U, am_U, am_U] [] s)
  unfold f_X12_tongue
  refine fu_go 2 (pc' := 2) (ls' := [.ref 117, .int a1, am_U, am_U, am_U, am_U, am_U]) (st' := [.int (0 : Int32), .ref 117]) (s' := s) rfl ?_
  refine fu_lets (b := (fu_pi s 117 1 (0 : Int32))) (fu_putI rfl fr_117 rfl rfl) (fun s1 => ?_)
  refine fu_go 2 (pc' := 7) (ls' := [.ref 117, .int a1, am_U, am_U, am_U, am_U, am_U]) (st' := [.int (0 : Int32), .ref 117]) (s' := s1) rfl ?_
  refine fu_lets (b := (fu_pi s1 117 0 (0 : Int32))) (fu_putI rfl fr_117 rfl rfl) (fun s2 => ?_)
  refine fu_go 4 (pc' := 16) (ls' := [.ref 117, .int a1, am_U, am_U, am_U, am_U, am_U]) (st' := [.long (12 : Int64), .long (0 : Int64), .long (Int32.toInt64 a1)]) (s' := s2) rfl ?_
  refine fu_step (fu_cS rfl rfl rfl rfl rfl rfl (fu_eq (e_X12_isIn d (by omega) s2 (Int32.toInt64 a1) (0 : Int64) (12 : Int64)) rfl)) ?_
  show fu_J _ _ (fr_X d (some .boolean) k_X12_tongue 19 [.ref 117, .int a1, am_U, am_U, am_U, am_U, am_U] [.int (fu_b (f_X12_isIn (Int32.toInt64 a1) (0 : Int64) (12 : Int64)))] s2)
  refine fu_ite (fun h3 => fu_step (fu_ib_ne_t rfl h3) ?_) (fun h3 => fu_step (fu_ib_ne_f rfl h3) ?_)
  · refine fu_go 6 (pc' := 36) (ls' := [.ref 117, .int a1, .long (1 : Int64), am_U, .long (1 : Int64), am_U, .int (0 : Int32)]) (st' := []) (s' := s2) rfl ?_
    refine fu_drop (ls' := [.ref 117, .int a1, .long (1 : Int64), am_U, .long (1 : Int64), am_U, .int (0 : Int32)]) ⟨.inr rfl, .inr rfl, .inr rfl, .inl rfl, .inr rfl, .inl rfl, .inr rfl, trivial⟩ ?_
    refine fu_bind (el_X12_tongue_36 d (by omega) fu_N s2 a1 (1 : Int64) (1 : Int64) (0 : Int32)) (fun r5 => ?_)
    show fu_J _ _ (fr_X d (some .boolean) k_X12_tongue 69 [.ref 117, am_U, .long r5.1, am_U, .long r5.2, am_U, am_U] [] s2)
    refine fu_go 5 (pc' := 76) (ls' := [.ref 117, am_U, .long r5.1, am_U, .long r5.2, am_U, am_U]) (st' := [.long r5.2, .long (r5.2 - r5.1), .ref 117]) (s' := s2) rfl ?_
    refine fu_bind (fu_cVJ rfl rfl rfl rfl rfl (fu_recv fr_117 am_at_X12_fraction rfl) (e_X12_fraction d (by omega) s2 (r5.2 - r5.1) r5.2)) (fun r6 => ?_)
    show fu_J _ _ (fr_X d (some .boolean) k_X12_tongue 79 [.ref 117, am_U, .long r5.1, am_U, .long r5.2, am_U, am_U] [.int (fu_b r6.1)] r6.2)
    exact fu_bret (b := r6.1) rfl rfl
  · refine fu_go 2 (pc' := 24) (ls' := [.ref 117, .int a1, am_U, am_U, am_U, am_U, am_U]) (st' := [.int (5 : Int32), .ref 117]) (s' := s2) rfl ?_
    refine fu_let (fu_cVJ rfl rfl rfl rfl rfl (fu_recv fr_117 am_at_X12_no rfl) (e_X12_no d (by omega) s2 (5 : Int32))) (fun r7 => ?_)
    show fu_J _ _ (fr_X d (some .boolean) k_X12_tongue 27 [.ref 117, .int a1, am_U, am_U, am_U, am_U, am_U] [.int (fu_b r7.1)] r7.2)
    exact fu_bret (b := r7.1) rfl rfl
/-! X12_draw -/
set_option maxRecDepth 100000 in
theorem e_X12_draw (d : Nat) (hd : 1 ≤ d) (s : fu_S) (a1 : Int32) : fu_J (f_X12_draw s a1) (fun r => some (some (.int r.1), r.2)) (am_D (fu_ho fr_sh) am_m d 369 [.ref 117, .int a1] s) := by
  obtain ⟨d, rfl⟩ : ∃ e, d = e + 1 := ⟨d - 1, by omega⟩
  refine fu_enter (ls := [.ref 117, .int a1]) am_at_X12_draw rfl rfl ?_
  show fu_J _ _ (fr_X d (some .int) k_X12_draw 0 [.ref 117, .int a1] [] s)
  unfold f_X12_draw
  refine fu_go 2 (pc' := 2) (ls' := [.ref 117, .int a1]) (st' := [.ref 117, .ref 117]) (s' := s) rfl ?_
  refine fu_step (fu_getI rfl fr_117 rfl rfl) ?_
  refine fu_go 5 (pc' := 16) (ls' := [.ref 117, .int a1]) (st' := [.int (65536 : Int32), .int (((s.1 117 33) * (2971 : Int32)) + (10957 : Int32)), .ref 117]) (s' := s) rfl ?_
  refine fu_step (fu_rem rfl (by decide)) ?_
  refine fu_lets (b := (fu_pi s 117 33 ((((s.1 117 33) * (2971 : Int32)) + (10957 : Int32)) - (((s.1 117 33) * (2971 : Int32)) + (10957 : Int32)) / (65536 : Int32) * (65536 : Int32)))) (fu_putI rfl fr_117 rfl rfl) (fun s1 => ?_)
  refine fu_go 1 (pc' := 21) (ls' := [.ref 117, .int a1]) (st' := [.ref 117]) (s' := s1) rfl ?_
  refine fu_step (fu_getI rfl fr_117 rfl rfl) ?_
  refine fu_go 1 (pc' := 26) (ls' := [.ref 117, .int a1]) (st' := [.int (8 : Int32), .int (s1.1 117 33)]) (s' := s1) rfl ?_
  refine fu_step (fu_div rfl (by decide)) ?_
  refine fu_go 1 (pc' := 28) (ls' := [.ref 117, .int a1]) (st' := [.int a1, .int ((s1.1 117 33) / (8 : Int32))]) (s' := s1) rfl ?_
  refine fu_ite (fun _ => fu_none) (fun h2 => fu_step (fu_rem rfl h2) ?_)
  exact fu_iret rfl rfl
/-! X12_waits -/
set_option maxRecDepth 100000 in
theorem e_X12_waits (d : Nat) (hd : 1 ≤ d) (s : fu_S) (a1 : Int32) : fu_J (f_X12_waits s a1) (fun r => some (some (.int (fu_b r.1)), r.2)) (am_D (fu_ho fr_sh) am_m d 370 [.ref 117, .int a1] s) := by
  obtain ⟨d, rfl⟩ : ∃ e, d = e + 1 := ⟨d - 1, by omega⟩
  refine fu_enter (ls := [.ref 117, .int a1]) am_at_X12_waits rfl rfl ?_
  show fu_J _ _ (fr_X d (some .boolean) k_X12_waits 0 [.ref 117, .int a1] [] s)
  unfold f_X12_waits
  refine fu_go 1 (pc' := 1) (ls' := [.ref 117, .int a1]) (st' := [.ref 117]) (s' := s) rfl ?_
  refine fu_step (fu_getR rfl fr_117 rfl rfl) ?_
  refine fu_go 1 (pc' := 5) (ls' := [.ref 117, .int a1]) (st' := [.int (5 : Int32), .ref 122]) (s' := s) rfl ?_
  refine fu_step (fu_ldIk (k := 5) rfl fr_122 (by decide) (by decide)) ?_
  refine fu_go 3 (pc' := 11) (ls' := [.ref 117, .int a1]) (st' := [.int (9999 : Int32), .int ((s.1 122 5) + a1)]) (s' := s) rfl ?_
  refine fu_ite (fun h1 => fu_step (fu_ic_le_t rfl h1) ?_) (fun h1 => fu_step (fu_ic_le_f rfl h1) ?_)
  · refine fu_go 1 (pc' := 17) (ls' := [.ref 117, .int a1]) (st' := [.ref 117]) (s' := s) rfl ?_
    refine fu_step (fu_getR rfl fr_117 rfl rfl) ?_
    refine fu_go 2 (pc' := 22) (ls' := [.ref 117, .int a1]) (st' := [.int (5 : Int32), .ref 122, .int (5 : Int32), .ref 122]) (s' := s) rfl ?_
    refine fu_step (fu_ldIk (k := 5) rfl fr_122 (by decide) (by decide)) ?_
    refine fu_go 2 (pc' := 25) (ls' := [.ref 117, .int a1]) (st' := [.int ((s.1 122 5) + a1), .int (5 : Int32), .ref 122]) (s' := s) rfl ?_
    refine fu_lets (b := (fu_pi s 122 5 ((s.1 122 5) + a1))) (fu_stIk rfl fr_122 (by decide) (by decide)) (fun s2 => ?_)
    refine fu_go 1 (pc' := 27) (ls' := [.ref 117, .int a1]) (st' := [.int (1 : Int32)]) (s' := s2) rfl ?_
    exact fu_bret (b := true) rfl rfl
  · refine fu_go 1 (pc' := 15) (ls' := [.ref 117, .int a1]) (st' := [.int (0 : Int32)]) (s' := s) rfl ?_
    exact fu_bret (b := false) rfl rfl
/-! X12_isLost -/
set_option maxRecDepth 100000 in
theorem e_X12_isLost (d : Nat) (hd : 2 ≤ d) (s : fu_S) (a1 : Int32) (a2 : Int32) : fu_J (f_X12_isLost s a1 a2) (fun r => some (some (.int (fu_b r.1)), r.2)) (am_D (fu_ho fr_sh) am_m d 371 [.ref 117, .int a1, .int a2] s) := by
  obtain ⟨d, rfl⟩ : ∃ e, d = e + 1 := ⟨d - 1, by omega⟩
  refine fu_enter (ls := [.ref 117, .int a1, .int a2]) am_at_X12_isLost rfl rfl ?_
  show fu_J _ _ (fr_X d (some .boolean) k_X12_isLost 0 [.ref 117, .int a1, .int a2] [] s)
  unfold f_X12_isLost
  refine fu_go 1 (pc' := 1) (ls' := [.ref 117, .int a1, .int a2]) (st' := [.ref 117]) (s' := s) rfl ?_
  refine fu_step (fu_getR rfl fr_117 rfl rfl) ?_
  refine fu_go 1 (pc' := 5) (ls' := [.ref 117, .int a1, .int a2]) (st' := [.int (2 : Int32), .ref 122]) (s' := s) rfl ?_
  refine fu_step (fu_ldIk (k := 2) rfl fr_122 (by decide) (by decide)) ?_
  refine fu_go 1 (pc' := 8) (ls' := [.ref 117, .int a1, .int a2]) (st' := [.int (8 : Int32), .int (s.1 122 2)]) (s' := s) rfl ?_
  refine fu_ite (fun h1 => fu_step (fu_ic_ne_t rfl h1) ?_) (fun h1 => fu_step (fu_ic_ne_f rfl h1) ?_)
  · refine fu_go 1 (pc' := 12) (ls' := [.ref 117, .int a1, .int a2]) (st' := [.int (0 : Int32)]) (s' := s) rfl ?_
    exact fu_bret (b := false) rfl rfl
  · refine fu_go 5 (pc' := 18) (ls' := [.ref 117, .int a1, .int a2]) (st' := [.int (1 : Int32), .int a2, .int a1, .int (0 : Int32), .ref 117]) (s' := s) rfl ?_
    refine fu_bind (fu_cVJ rfl rfl rfl rfl rfl (fu_recv fr_117 am_at_X12_loses rfl) (e_X12_loses d (by omega) s (0 : Int32) a1 a2 (1 : Int32))) (fun r2 => ?_)
    show fu_J _ _ (fr_X d (some .boolean) k_X12_isLost 21 [.ref 117, .int a1, .int a2] [] r2)
    refine fu_go 2 (pc' := 23) (ls' := [.ref 117, .int a1, .int a2]) (st' := [.ref 117, .ref 117]) (s' := r2) rfl ?_
    refine fu_step (fu_getI rfl fr_117 rfl rfl) ?_
    refine fu_go 2 (pc' := 28) (ls' := [.ref 117, .int a1, .int a2]) (st' := [.int ((r2.1 117 37) + (1 : Int32)), .ref 117]) (s' := r2) rfl ?_
    refine fu_lets (b := (fu_pi r2 117 37 ((r2.1 117 37) + (1 : Int32)))) (fu_putI rfl fr_117 rfl rfl) (fun s3 => ?_)
    refine fu_go 1 (pc' := 32) (ls' := [.ref 117, .int a1, .int a2]) (st' := [.int (1 : Int32)]) (s' := s3) rfl ?_
    exact fu_bret (b := true) rfl rfl
/-! X12_isDone -/
set_option maxRecDepth 100000 in
theorem e_X12_isDone (d : Nat) (hd : 7 ≤ d) (s : fu_S) (a1 : Int32) (a2 : Int32) : fu_J (f_X12_isDone s a1 a2) (fun r => some (some (.int (fu_b r.1)), r.2)) (am_D (fu_ho fr_sh) am_m d 372 [.ref 117, .int a1, .int a2] s) := by
  obtain ⟨d, rfl⟩ : ∃ e, d = e + 1 := ⟨d - 1, by omega⟩
  refine fu_enter (ls := [.ref 117, .int a1, .int a2, am_U]) am_at_X12_isDone rfl rfl ?_
  show fu_J _ _ (fr_X d (some .boolean) k_X12_isDone 0 [.ref 117, .int a1, .int a2, am_U] [] s)
  unfold f_X12_isDone
  refine fu_go 3 (pc' := 3) (ls' := [.ref 117, .int a1, .int a2, am_U]) (st' := [.int a2, .int a1, .ref 117]) (s' := s) rfl ?_
  refine fu_bind (fu_cVJ rfl rfl rfl rfl rfl (fu_recv fr_117 am_at_X12_scratches rfl) (e_X12_scratches d (by omega) s a1 a2)) (fun r1 => ?_)
  show fu_J _ _ (fr_X d (some .boolean) k_X12_isDone 6 [.ref 117, .int a1, .int a2, am_U] [.int (fu_b r1.1)] r1.2)
  refine fu_go 3 (pc' := 9) (ls' := [.ref 117, .int a1, .int a2, .int (fu_b r1.1)]) (st' := [.ref 117, .ref 117]) (s' := r1.2) rfl ?_
  refine fu_step (fu_getI rfl fr_117 rfl rfl) ?_
  refine fu_go 1 (pc' := 13) (ls' := [.ref 117, .int a1, .int a2, .int (fu_b r1.1)]) (st' := [.int (fu_b r1.1), .int (r1.2.1 117 38), .ref 117]) (s' := r1.2) rfl ?_
  refine fu_bind (V := fun j2 : Bool => fr_X d (some .boolean) k_X12_isDone 21 [am_U, am_U, am_U, .int (fu_b r1.1)] [.int (fu_b j2), .int (r1.2.1 117 38), .ref 117] r1.2) ?_ (fun j2 => ?_)
  · refine fu_ite (fun h3 => fu_step (fu_ib_eq_t rfl h3) ?_) (fun h3 => fu_step (fu_ib_eq_f rfl h3) ?_)
    · refine fu_go 2 (pc' := 21) (ls' := [.ref 117, .int a1, .int a2, .int (fu_b r1.1)]) (st' := [.int (1 : Int32), .int (r1.2.1 117 38), .ref 117]) (s' := r1.2) rfl ?_
      exact fu_leaf rfl ⟨.inl rfl, .inl rfl, .inl rfl, .inr rfl, trivial⟩
    · refine fu_go 1 (pc' := 21) (ls' := [.ref 117, .int a1, .int a2, .int (fu_b r1.1)]) (st' := [.int (0 : Int32), .int (r1.2.1 117 38), .ref 117]) (s' := r1.2) rfl ?_
      exact fu_leaf rfl ⟨.inl rfl, .inl rfl, .inl rfl, .inr rfl, trivial⟩
  show fu_J _ _ (fr_X d (some .boolean) k_X12_isDone 21 [am_U, am_U, am_U, .int (fu_b r1.1)] [.int (fu_b j2), .int (r1.2.1 117 38), .ref 117] r1.2)
  refine fu_go 1 (pc' := 22) (ls' := [am_U, am_U, am_U, .int (fu_b r1.1)]) (st' := [.int ((r1.2.1 117 38) + (fu_b j2)), .ref 117]) (s' := r1.2) rfl ?_
  refine fu_lets (b := (fu_pi r1.2 117 38 ((r1.2.1 117 38) + (fu_b j2)))) (fu_putI rfl fr_117 rfl rfl) (fun s4 => ?_)
  refine fu_go 1 (pc' := 26) (ls' := [am_U, am_U, am_U, .int (fu_b r1.1)]) (st' := [.int (fu_b r1.1)]) (s' := s4) rfl ?_
  exact fu_bret (b := r1.1) rfl rfl
/-! X12_isAny -/
set_option maxRecDepth 100000 in
theorem e_X12_isAny (d : Nat) (hd : 8 ≤ d) (s : fu_S) : fu_J (f_X12_isAny s) (fun r => some (some (.int (fu_b r.1)), r.2)) (am_D (fu_ho fr_sh) am_m d 373 [.ref 117] s) := by
  obtain ⟨d, rfl⟩ : ∃ e, d = e + 1 := ⟨d - 1, by omega⟩
  refine fu_enter (ls := [.ref 117, am_U, am_U]) am_at_X12_isAny rfl rfl ?_
  show fu_J _ _ (fr_X d (some .boolean) k_X12_isAny 0 [.ref 117, am_U, am_U] [] s)
  unfold f_X12_isAny
  refine fu_go 1 (pc' := 1) (ls' := [.ref 117, am_U, am_U]) (st' := [.ref 117]) (s' := s) rfl ?_
  refine fu_step (fu_getR rfl fr_117 rfl rfl) ?_
  refine fu_go 1 (pc' := 5) (ls' := [.ref 117, am_U, am_U]) (st' := [.int (1 : Int32), .ref 122]) (s' := s) rfl ?_
  refine fu_step (fu_ldIk (k := 1) rfl fr_122 (by decide) (by decide)) ?_
  refine fu_ite (fun h1 => fu_step (fu_if_eq_t rfl h1) ?_) (fun h1 => fu_step (fu_if_eq_f rfl h1) ?_)
  · refine fu_go 1 (pc' := 19) (ls' := [.ref 117, am_U, am_U]) (st' := [.int (0 : Int32)]) (s' := s) rfl ?_
    exact fu_bret (b := false) rfl rfl
  · refine fu_go 1 (pc' := 10) (ls' := [.ref 117, am_U, am_U]) (st' := [.ref 117]) (s' := s) rfl ?_
    refine fu_step (fu_getR rfl fr_117 rfl rfl) ?_
    refine fu_go 1 (pc' := 14) (ls' := [.ref 117, am_U, am_U]) (st' := [.int (2 : Int32), .ref 122]) (s' := s) rfl ?_
    refine fu_step (fu_ldIk (k := 2) rfl fr_122 (by decide) (by decide)) ?_
    refine fu_ite (fun h2 => fu_step (fu_if_ne_t rfl h2) ?_) (fun h2 => fu_step (fu_if_ne_f rfl h2) ?_)
    · refine fu_go 1 (pc' := 19) (ls' := [.ref 117, am_U, am_U]) (st' := [.int (0 : Int32)]) (s' := s) rfl ?_
      exact fu_bret (b := false) rfl rfl
    · refine fu_go 2 (pc' := 22) (ls' := [.ref 117, am_U, am_U]) (st' := [.ref 117, .ref 117]) (s' := s) rfl ?_
      refine fu_step (fu_getR rfl fr_117 rfl rfl) ?_
      refine fu_go 1 (pc' := 26) (ls' := [.ref 117, am_U, am_U]) (st' := [.int (1 : Int32), .ref 122, .ref 117]) (s' := s) rfl ?_
      refine fu_step (fu_ldIk (k := 1) rfl fr_122 (by decide) (by decide)) ?_
      refine fu_bind (fu_cVJ rfl rfl rfl rfl rfl (fu_recv fr_117 am_at_X12_draw rfl) (e_X12_draw d (by omega) s (s.1 122 1))) (fun r3 => ?_)
      show fu_J _ _ (fr_X d (some .boolean) k_X12_isAny 30 [.ref 117, am_U, am_U] [.int r3.1] r3.2)
      refine fu_go 3 (pc' := 33) (ls' := [.ref 117, .int r3.1, am_U]) (st' := [.ref 117, .ref 117]) (s' := r3.2) rfl ?_
      refine fu_step (fu_getR rfl fr_117 rfl rfl) ?_
      refine fu_go 1 (pc' := 37) (ls' := [.ref 117, .int r3.1, am_U]) (st' := [.int (2 : Int32), .ref 122, .ref 117]) (s' := r3.2) rfl ?_
      refine fu_step (fu_ldIk (k := 2) rfl fr_122 (by decide) (by decide)) ?_
      refine fu_bind (fu_cVJ rfl rfl rfl rfl rfl (fu_recv fr_117 am_at_X12_draw rfl) (e_X12_draw d (by omega) r3.2 (r3.2.1 122 2))) (fun r4 => ?_)
      show fu_J _ _ (fr_X d (some .boolean) k_X12_isAny 41 [.ref 117, .int r3.1, am_U] [.int r4.1] r4.2)
      refine fu_go 3 (pc' := 45) (ls' := [.ref 117, .int r3.1, .int r4.1]) (st' := [.int (16 : Int32), .ref 117]) (s' := r4.2) rfl ?_
      refine fu_bind (fu_cVJ rfl rfl rfl rfl rfl (fu_recv fr_117 am_at_X12_draw rfl) (e_X12_draw d (by omega) r4.2 (16 : Int32))) (fun r5 => ?_)
      show fu_J _ _ (fr_X d (some .boolean) k_X12_isAny 48 [.ref 117, .int r3.1, .int r4.1] [.int r5.1] r5.2)
      refine fu_go 1 (pc' := 49) (ls' := [.ref 117, .int r3.1, .int r4.1]) (st' := [.ref 117, .int r5.1]) (s' := r5.2) rfl ?_
      refine fu_step (fu_getR rfl fr_117 rfl rfl) ?_
      refine fu_go 1 (pc' := 53) (ls' := [.ref 117, .int r3.1, .int r4.1]) (st' := [.int (3 : Int32), .ref 122, .int r5.1]) (s' := r5.2) rfl ?_
      refine fu_step (fu_ldIk (k := 3) rfl fr_122 (by decide) (by decide)) ?_
      refine fu_bind (V := fun j6 : Bool × fu_S => fr_X d (some .boolean) k_X12_isAny 71 [am_U, am_U, am_U] [.int (fu_b j6.1)] j6.2) ?_ (fun j6 => ?_)
      · refine fu_ite (fun h7 => fu_step (fu_ic_ge_t rfl h7) ?_) (fun h7 => fu_step (fu_ic_ge_f rfl h7) ?_)
        · refine fu_go 3 (pc' := 60) (ls' := [.ref 117, .int r3.1, .int r4.1]) (st' := [.int r4.1, .int r3.1, .ref 117]) (s' := r5.2) rfl ?_
          refine fu_bind (fu_cVJ rfl rfl rfl rfl rfl (fu_recv fr_117 am_at_X12_isDone rfl) (e_X12_isDone d (by omega) r5.2 r3.1 r4.1)) (fun r8 => ?_)
          show fu_J _ _ (fr_X d (some .boolean) k_X12_isAny 63 [.ref 117, .int r3.1, .int r4.1] [.int (fu_b r8.1)] r8.2)
          refine fu_go 1 (pc' := 71) (ls' := [.ref 117, .int r3.1, .int r4.1]) (st' := [.int (fu_b r8.1)]) (s' := r8.2) rfl ?_
          exact fu_leaf rfl ⟨.inl rfl, .inl rfl, .inl rfl, trivial⟩
        · refine fu_go 2 (pc' := 68) (ls' := [.ref 117, .int r3.1, .int r4.1]) (st' := [.int (1 : Int32), .ref 117]) (s' := r5.2) rfl ?_
          refine fu_bind (fu_cVJ rfl rfl rfl rfl rfl (fu_recv fr_117 am_at_X12_waits rfl) (e_X12_waits d (by omega) r5.2 (1 : Int32))) (fun r9 => ?_)
          show fu_J _ _ (fr_X d (some .boolean) k_X12_isAny 71 [.ref 117, .int r3.1, .int r4.1] [.int (fu_b r9.1)] r9.2)
          exact fu_leaf rfl ⟨.inl rfl, .inl rfl, .inl rfl, trivial⟩
      show fu_J _ _ (fr_X d (some .boolean) k_X12_isAny 71 [am_U, am_U, am_U] [.int (fu_b j6.1)] j6.2)
      exact fu_bret (b := j6.1) rfl rfl
/-! X12_does -/
set_option maxRecDepth 100000 in
theorem e_X12_does (d : Nat) (hd : 9 ≤ d) (s : fu_S) (a1 : Int32) : fu_J (f_X12_does s a1) (fun r => some (some (.int (fu_b r.1)), r.2)) (am_D (fu_ho fr_sh) am_m d 374 [.ref 117, .int a1] s) := by
  obtain ⟨d, rfl⟩ : ∃ e, d = e + 1 := ⟨d - 1, by omega⟩
  refine fu_enter (ls := [.ref 117, .int a1, am_U, am_U]) am_at_X12_does rfl rfl ?_
  show fu_J _ _ (fr_X d (some .boolean) k_X12_does 0 [.ref 117, .int a1, am_U, am_U] [] s)
  unfold f_X12_does
  refine fu_go 1 (pc' := 1) (ls' := [.ref 117, .int a1, am_U, am_U]) (st' := [.ref 117]) (s' := s) rfl ?_
  refine fu_step (fu_getR rfl fr_117 rfl rfl) ?_
  refine fu_go 1 (pc' := 5) (ls' := [.ref 117, .int a1, am_U, am_U]) (st' := [.int a1, .ref 122]) (s' := s) rfl ?_
  refine fu_guard (fun h1 => fu_step (fu_ldI rfl fr_122 h1) ?_)
  refine fu_go 2 (pc' := 8) (ls' := [.ref 117, .int a1, .int (s.1 122 (Int32.toNatClampNeg a1)), am_U]) (st' := [.ref 117]) (s' := s) rfl ?_
  refine fu_step (fu_getR rfl fr_117 rfl rfl) ?_
  refine fu_go 3 (pc' := 14) (ls' := [.ref 117, .int a1, .int (s.1 122 (Int32.toNatClampNeg a1)), am_U]) (st' := [.int (a1 + (1 : Int32)), .ref 122]) (s' := s) rfl ?_
  refine fu_guard (fun h2 => fu_step (fu_ldI rfl fr_122 h2) ?_)
  refine fu_go 2 (pc' := 17) (ls' := [.ref 117, .int a1, .int (s.1 122 (Int32.toNatClampNeg a1)), .int (s.1 122 (Int32.toNatClampNeg (a1 + (1 : Int32))))]) (st' := [.int (s.1 122 (Int32.toNatClampNeg a1))]) (s' := s) rfl ?_
  refine fu_ite (fun h3 => fu_step (fu_if_ne_t rfl h3) ?_) (fun h3 => fu_step (fu_if_ne_f rfl h3) ?_)
  · refine fu_go 2 (pc' := 22) (ls' := [.ref 117, .int a1, .int (s.1 122 (Int32.toNatClampNeg a1)), .int (s.1 122 (Int32.toNatClampNeg (a1 + (1 : Int32))))]) (st' := [.int (s.1 122 (Int32.toNatClampNeg (a1 + (1 : Int32)))), .ref 117]) (s' := s) rfl ?_
    refine fu_bind (fu_cVJ rfl rfl rfl rfl rfl (fu_recv fr_117 am_at_X12_waits rfl) (e_X12_waits d (by omega) s (s.1 122 (Int32.toNatClampNeg (a1 + (1 : Int32)))))) (fun r4 => ?_)
    show fu_J _ _ (fr_X d (some .boolean) k_X12_does 25 [.ref 117, .int a1, .int (s.1 122 (Int32.toNatClampNeg a1)), .int (s.1 122 (Int32.toNatClampNeg (a1 + (1 : Int32))))] [.int (fu_b r4.1)] r4.2)
    exact fu_bret (b := r4.1) rfl rfl
  · refine fu_go 2 (pc' := 28) (ls' := [.ref 117, .int a1, .int (s.1 122 (Int32.toNatClampNeg a1)), .int (s.1 122 (Int32.toNatClampNeg (a1 + (1 : Int32))))]) (st' := [.int (1 : Int32), .int (s.1 122 (Int32.toNatClampNeg a1))]) (s' := s) rfl ?_
    refine fu_ite (fun h5 => fu_step (fu_ic_ne_t rfl h5) ?_) (fun h5 => fu_step (fu_ic_ne_f rfl h5) ?_)
    · refine fu_go 3 (pc' := 34) (ls' := [.ref 117, .int a1, .int (s.1 122 (Int32.toNatClampNeg a1)), .int (s.1 122 (Int32.toNatClampNeg (a1 + (1 : Int32))))]) (st' := [.ref 117, .int (s.1 122 (Int32.toNatClampNeg (a1 + (1 : Int32)))), .ref 117]) (s' := s) rfl ?_
      refine fu_step (fu_getR rfl fr_117 rfl rfl) ?_
      refine fu_go 3 (pc' := 40) (ls' := [.ref 117, .int a1, .int (s.1 122 (Int32.toNatClampNeg a1)), .int (s.1 122 (Int32.toNatClampNeg (a1 + (1 : Int32))))]) (st' := [.int (a1 + (2 : Int32)), .ref 122, .int (s.1 122 (Int32.toNatClampNeg (a1 + (1 : Int32)))), .ref 117]) (s' := s) rfl ?_
      refine fu_guard (fun h6 => fu_step (fu_ldI rfl fr_122 h6) ?_)
      refine fu_bind (fu_cVJ rfl rfl rfl rfl rfl (fu_recv fr_117 am_at_X12_isLost rfl) (e_X12_isLost d (by omega) s (s.1 122 (Int32.toNatClampNeg (a1 + (1 : Int32)))) (s.1 122 (Int32.toNatClampNeg (a1 + (2 : Int32)))))) (fun r7 => ?_)
      show fu_J _ _ (fr_X d (some .boolean) k_X12_does 44 [.ref 117, .int a1, .int (s.1 122 (Int32.toNatClampNeg a1)), .int (s.1 122 (Int32.toNatClampNeg (a1 + (1 : Int32))))] [.int (fu_b r7.1)] r7.2)
      exact fu_bret (b := r7.1) rfl rfl
    · refine fu_go 2 (pc' := 47) (ls' := [.ref 117, .int a1, .int (s.1 122 (Int32.toNatClampNeg a1)), .int (s.1 122 (Int32.toNatClampNeg (a1 + (1 : Int32))))]) (st' := [.int (2 : Int32), .int (s.1 122 (Int32.toNatClampNeg a1))]) (s' := s) rfl ?_
      refine fu_bind (V := fun j8 : Bool × fu_S => fr_X d (some .boolean) k_X12_does 70 [am_U, am_U, am_U, am_U] [.int (fu_b j8.1)] j8.2) ?_ (fun j8 => ?_)
      · refine fu_ite (fun h9 => fu_step (fu_ic_ne_t rfl h9) ?_) (fun h9 => fu_step (fu_ic_ne_f rfl h9) ?_)
        · refine fu_go 3 (pc' := 53) (ls' := [.ref 117, .int a1, .int (s.1 122 (Int32.toNatClampNeg a1)), .int (s.1 122 (Int32.toNatClampNeg (a1 + (1 : Int32))))]) (st' := [.ref 117, .int (s.1 122 (Int32.toNatClampNeg (a1 + (1 : Int32)))), .ref 117]) (s' := s) rfl ?_
          refine fu_step (fu_getR rfl fr_117 rfl rfl) ?_
          refine fu_go 3 (pc' := 59) (ls' := [.ref 117, .int a1, .int (s.1 122 (Int32.toNatClampNeg a1)), .int (s.1 122 (Int32.toNatClampNeg (a1 + (1 : Int32))))]) (st' := [.int (a1 + (2 : Int32)), .ref 122, .int (s.1 122 (Int32.toNatClampNeg (a1 + (1 : Int32)))), .ref 117]) (s' := s) rfl ?_
          refine fu_guard (fun h10 => fu_step (fu_ldI rfl fr_122 h10) ?_)
          refine fu_bind (fu_cVJ rfl rfl rfl rfl rfl (fu_recv fr_117 am_at_X12_isDone rfl) (e_X12_isDone d (by omega) s (s.1 122 (Int32.toNatClampNeg (a1 + (1 : Int32)))) (s.1 122 (Int32.toNatClampNeg (a1 + (2 : Int32)))))) (fun r11 => ?_)
          show fu_J _ _ (fr_X d (some .boolean) k_X12_does 63 [.ref 117, .int a1, .int (s.1 122 (Int32.toNatClampNeg a1)), .int (s.1 122 (Int32.toNatClampNeg (a1 + (1 : Int32))))] [.int (fu_b r11.1)] r11.2)
          refine fu_go 1 (pc' := 70) (ls' := [.ref 117, .int a1, .int (s.1 122 (Int32.toNatClampNeg a1)), .int (s.1 122 (Int32.toNatClampNeg (a1 + (1 : Int32))))]) (st' := [.int (fu_b r11.1)]) (s' := r11.2) rfl ?_
          exact fu_leaf rfl ⟨.inl rfl, .inl rfl, .inl rfl, .inl rfl, trivial⟩
        · refine fu_go 1 (pc' := 67) (ls' := [.ref 117, .int a1, .int (s.1 122 (Int32.toNatClampNeg a1)), .int (s.1 122 (Int32.toNatClampNeg (a1 + (1 : Int32))))]) (st' := [.ref 117]) (s' := s) rfl ?_
          refine fu_bind (fu_cVJ rfl rfl rfl rfl rfl (fu_recv fr_117 am_at_X12_isAny rfl) (e_X12_isAny d (by omega) s)) (fun r12 => ?_)
          show fu_J _ _ (fr_X d (some .boolean) k_X12_does 70 [.ref 117, .int a1, .int (s.1 122 (Int32.toNatClampNeg a1)), .int (s.1 122 (Int32.toNatClampNeg (a1 + (1 : Int32))))] [.int (fu_b r12.1)] r12.2)
          exact fu_leaf rfl ⟨.inl rfl, .inl rfl, .inl rfl, .inl rfl, trivial⟩
      show fu_J _ _ (fr_X d (some .boolean) k_X12_does 70 [am_U, am_U, am_U, am_U] [.int (fu_b j8.1)] j8.2)
      exact fu_bret (b := j8.1) rfl rfl
/-! X12_holds -/
set_option maxRecDepth 100000 in
theorem e_X12_holds (d : Nat) (hd : 6 ≤ d) (s : fu_S) (a1 : Int32) : fu_J (f_X12_holds s a1) (fun r => some (some (.int (fu_b r)), s)) (am_D (fu_ho fr_sh) am_m d 375 [.ref 117, .int a1] s) := by
  obtain ⟨d, rfl⟩ : ∃ e, d = e + 1 := ⟨d - 1, by omega⟩
  refine fu_enter (ls := [.ref 117, .int a1, am_U, am_U, am_U]) am_at_X12_holds rfl rfl ?_
  show fu_J _ _ (fr_X d (some .boolean) k_X12_holds 0 [.ref 117, .int a1, am_U, am_U, am_U] [] s)
  unfold f_X12_holds
  refine fu_go 1 (pc' := 1) (ls' := [.ref 117, .int a1, am_U, am_U, am_U]) (st' := [.ref 117]) (s' := s) rfl ?_
  refine fu_step (fu_getR rfl fr_117 rfl rfl) ?_
  refine fu_go 3 (pc' := 7) (ls' := [.ref 117, .int a1, am_U, am_U, am_U]) (st' := [.int (a1 + (5 : Int32)), .ref 122]) (s' := s) rfl ?_
  refine fu_guard (fun h1 => fu_step (fu_ldI rfl fr_122 h1) ?_)
  refine fu_go 2 (pc' := 10) (ls' := [.ref 117, .int a1, .int (s.1 122 (Int32.toNatClampNeg (a1 + (5 : Int32)))), am_U, am_U]) (st' := [.ref 117]) (s' := s) rfl ?_
  refine fu_step (fu_getR rfl fr_117 rfl rfl) ?_
  refine fu_go 3 (pc' := 16) (ls' := [.ref 117, .int a1, .int (s.1 122 (Int32.toNatClampNeg (a1 + (5 : Int32)))), am_U, am_U]) (st' := [.int (a1 + (1 : Int32)), .ref 122]) (s' := s) rfl ?_
  refine fu_guard (fun h2 => fu_step (fu_ldI rfl fr_122 h2) ?_)
  refine fu_go 3 (pc' := 20) (ls' := [.ref 117, .int a1, .int (s.1 122 (Int32.toNatClampNeg (a1 + (5 : Int32)))), .int (s.1 122 (Int32.toNatClampNeg (a1 + (1 : Int32)))), am_U]) (st' := [.int (2 : Int32), .int (s.1 122 (Int32.toNatClampNeg (a1 + (5 : Int32))))]) (s' := s) rfl ?_
  refine fu_ite (fun h3 => fu_step (fu_ic_ge_t rfl h3) ?_) (fun h3 => fu_step (fu_ic_ge_f rfl h3) ?_)
  · refine fu_go 2 (pc' := 25) (ls' := [.ref 117, .int a1, .int (s.1 122 (Int32.toNatClampNeg (a1 + (5 : Int32)))), .int (s.1 122 (Int32.toNatClampNeg (a1 + (1 : Int32)))), am_U]) (st' := [.int (s.1 122 (Int32.toNatClampNeg (a1 + (1 : Int32)))), .ref 117]) (s' := s) rfl ?_
    refine fu_step (fu_cV rfl rfl rfl rfl rfl (fu_recv fr_117 am_at_X12_isThingAt rfl) (fu_eq (e_X12_isThingAt d (by omega) s (s.1 122 (Int32.toNatClampNeg (a1 + (1 : Int32))))) rfl)) ?_
    show fu_J _ _ (fr_X d (some .boolean) k_X12_holds 28 [.ref 117, .int a1, .int (s.1 122 (Int32.toNatClampNeg (a1 + (5 : Int32)))), .int (s.1 122 (Int32.toNatClampNeg (a1 + (1 : Int32)))), am_U] [.int (fu_b (f_X12_isThingAt s (s.1 122 (Int32.toNatClampNeg (a1 + (1 : Int32))))))] s)
    refine fu_bind (V := fun j4 : Bool => fr_X d (some .boolean) k_X12_holds 59 [am_U, am_U, am_U, am_U, am_U] [.int (fu_b j4)] s) ?_ (fun j4 => ?_)
    · refine fu_ite (fun h5 => fu_step (fu_ib_eq_t rfl h5) ?_) (fun h5 => fu_step (fu_ib_eq_f rfl h5) ?_)
      · refine fu_go 1 (pc' := 32) (ls' := [.ref 117, .int a1, .int (s.1 122 (Int32.toNatClampNeg (a1 + (5 : Int32)))), .int (s.1 122 (Int32.toNatClampNeg (a1 + (1 : Int32)))), am_U]) (st' := [.int (s.1 122 (Int32.toNatClampNeg (a1 + (5 : Int32))))]) (s' := s) rfl ?_
        refine fu_ite (fun h6 => fu_step (fu_if_ne_t rfl h6) ?_) (fun h6 => fu_step (fu_if_ne_f rfl h6) ?_)
        · refine fu_go 2 (pc' := 37) (ls' := [.ref 117, .int a1, .int (s.1 122 (Int32.toNatClampNeg (a1 + (5 : Int32)))), .int (s.1 122 (Int32.toNatClampNeg (a1 + (1 : Int32)))), am_U]) (st' := [.int (s.1 122 (Int32.toNatClampNeg (a1 + (1 : Int32)))), .ref 117]) (s' := s) rfl ?_
          refine fu_bind (fu_cVJ rfl rfl rfl rfl rfl (fu_recv fr_117 am_at_X12_isFound rfl) (e_X12_isFound d (by omega) s (s.1 122 (Int32.toNatClampNeg (a1 + (1 : Int32)))))) (fun r7 => ?_)
          show fu_J _ _ (fr_X d (some .boolean) k_X12_holds 40 [.ref 117, .int a1, .int (s.1 122 (Int32.toNatClampNeg (a1 + (5 : Int32)))), .int (s.1 122 (Int32.toNatClampNeg (a1 + (1 : Int32)))), am_U] [.int (fu_b r7)] s)
          refine fu_ite (fun h8 => fu_step (fu_ib_eq_t rfl h8) ?_) (fun h8 => fu_step (fu_ib_eq_f rfl h8) ?_)
          · refine fu_go 3 (pc' := 59) (ls' := [.ref 117, .int a1, .int (s.1 122 (Int32.toNatClampNeg (a1 + (5 : Int32)))), .int (s.1 122 (Int32.toNatClampNeg (a1 + (1 : Int32)))), am_U]) (st' := [.int (1 : Int32)]) (s' := s) rfl ?_
            exact fu_leaf rfl ⟨.inl rfl, .inl rfl, .inl rfl, .inl rfl, .inl rfl, trivial⟩
          · refine fu_go 1 (pc' := 59) (ls' := [.ref 117, .int a1, .int (s.1 122 (Int32.toNatClampNeg (a1 + (5 : Int32)))), .int (s.1 122 (Int32.toNatClampNeg (a1 + (1 : Int32)))), am_U]) (st' := [.int (0 : Int32)]) (s' := s) rfl ?_
            exact fu_leaf rfl ⟨.inl rfl, .inl rfl, .inl rfl, .inl rfl, .inl rfl, trivial⟩
        · refine fu_go 2 (pc' := 48) (ls' := [.ref 117, .int a1, .int (s.1 122 (Int32.toNatClampNeg (a1 + (5 : Int32)))), .int (s.1 122 (Int32.toNatClampNeg (a1 + (1 : Int32)))), am_U]) (st' := [.int (s.1 122 (Int32.toNatClampNeg (a1 + (1 : Int32)))), .ref 117]) (s' := s) rfl ?_
          refine fu_bind (fu_cVJ rfl rfl rfl rfl rfl (fu_recv fr_117 am_at_X12_isUp rfl) (e_X12_isUp d (by omega) s (s.1 122 (Int32.toNatClampNeg (a1 + (1 : Int32)))))) (fun r9 => ?_)
          show fu_J _ _ (fr_X d (some .boolean) k_X12_holds 51 [.ref 117, .int a1, .int (s.1 122 (Int32.toNatClampNeg (a1 + (5 : Int32)))), .int (s.1 122 (Int32.toNatClampNeg (a1 + (1 : Int32)))), am_U] [.int (fu_b r9)] s)
          refine fu_ite (fun h10 => fu_step (fu_ib_eq_t rfl h10) ?_) (fun h10 => fu_step (fu_ib_eq_f rfl h10) ?_)
          · refine fu_go 2 (pc' := 59) (ls' := [.ref 117, .int a1, .int (s.1 122 (Int32.toNatClampNeg (a1 + (5 : Int32)))), .int (s.1 122 (Int32.toNatClampNeg (a1 + (1 : Int32)))), am_U]) (st' := [.int (1 : Int32)]) (s' := s) rfl ?_
            exact fu_leaf rfl ⟨.inl rfl, .inl rfl, .inl rfl, .inl rfl, .inl rfl, trivial⟩
          · refine fu_go 1 (pc' := 59) (ls' := [.ref 117, .int a1, .int (s.1 122 (Int32.toNatClampNeg (a1 + (5 : Int32)))), .int (s.1 122 (Int32.toNatClampNeg (a1 + (1 : Int32)))), am_U]) (st' := [.int (0 : Int32)]) (s' := s) rfl ?_
            exact fu_leaf rfl ⟨.inl rfl, .inl rfl, .inl rfl, .inl rfl, .inl rfl, trivial⟩
      · refine fu_go 1 (pc' := 59) (ls' := [.ref 117, .int a1, .int (s.1 122 (Int32.toNatClampNeg (a1 + (5 : Int32)))), .int (s.1 122 (Int32.toNatClampNeg (a1 + (1 : Int32)))), am_U]) (st' := [.int (0 : Int32)]) (s' := s) rfl ?_
        exact fu_leaf rfl ⟨.inl rfl, .inl rfl, .inl rfl, .inl rfl, .inl rfl, trivial⟩
    show fu_J _ _ (fr_X d (some .boolean) k_X12_holds 59 [am_U, am_U, am_U, am_U, am_U] [.int (fu_b j4)] s)
    exact fu_bret (b := j4) rfl rfl
  · refine fu_go 1 (pc' := 61) (ls' := [.ref 117, .int a1, .int (s.1 122 (Int32.toNatClampNeg (a1 + (5 : Int32)))), .int (s.1 122 (Int32.toNatClampNeg (a1 + (1 : Int32)))), am_U]) (st' := [.ref 117]) (s' := s) rfl ?_
    refine fu_step (fu_getR rfl fr_117 rfl rfl) ?_
    refine fu_go 1 (pc' := 65) (ls' := [.ref 117, .int a1, .int (s.1 122 (Int32.toNatClampNeg (a1 + (5 : Int32)))), .int (s.1 122 (Int32.toNatClampNeg (a1 + (1 : Int32)))), am_U]) (st' := [.int (5 : Int32), .ref 122]) (s' := s) rfl ?_
    refine fu_step (fu_ldIk (k := 5) rfl fr_122 (by decide) (by decide)) ?_
    refine fu_go 2 (pc' := 69) (ls' := [.ref 117, .int a1, .int (s.1 122 (Int32.toNatClampNeg (a1 + (5 : Int32)))), .int (s.1 122 (Int32.toNatClampNeg (a1 + (1 : Int32)))), .int (s.1 122 5)]) (st' := [.ref 117]) (s' := s) rfl ?_
    refine fu_step (fu_getR rfl fr_117 rfl rfl) ?_
    refine fu_go 3 (pc' := 76) (ls' := [.ref 117, .int a1, .int (s.1 122 (Int32.toNatClampNeg (a1 + (5 : Int32)))), .int (s.1 122 (Int32.toNatClampNeg (a1 + (1 : Int32)))), .int (s.1 122 5)]) (st' := [.int (a1 + (7 : Int32)), .ref 122]) (s' := s) rfl ?_
    refine fu_guard (fun h11 => fu_step (fu_ldI rfl fr_122 h11) ?_)
    refine fu_go 1 (pc' := 79) (ls' := [.ref 117, .int a1, .int (s.1 122 (Int32.toNatClampNeg (a1 + (5 : Int32)))), .int (s.1 122 (Int32.toNatClampNeg (a1 + (1 : Int32)))), .int (s.1 122 5)]) (st' := [.int (60 : Int32), .int (s.1 122 (Int32.toNatClampNeg (a1 + (7 : Int32))))]) (s' := s) rfl ?_
    refine fu_bind (V := fun j12 : Bool => fr_X d (some .boolean) k_X12_holds 159 [am_U, am_U, am_U, am_U, am_U] [.int (fu_b j12)] s) ?_ (fun j12 => ?_)
    · refine fu_ite (fun h13 => fu_step (fu_ic_ne_t rfl h13) ?_) (fun h13 => fu_step (fu_ic_ne_f rfl h13) ?_)
      · refine fu_go 2 (pc' := 85) (ls' := [.ref 117, .int a1, .int (s.1 122 (Int32.toNatClampNeg (a1 + (5 : Int32)))), .int (s.1 122 (Int32.toNatClampNeg (a1 + (1 : Int32)))), .int (s.1 122 5)]) (st' := [.ref 117, .int (s.1 122 5)]) (s' := s) rfl ?_
        refine fu_step (fu_getR rfl fr_117 rfl rfl) ?_
        refine fu_go 3 (pc' := 92) (ls' := [.ref 117, .int a1, .int (s.1 122 (Int32.toNatClampNeg (a1 + (5 : Int32)))), .int (s.1 122 (Int32.toNatClampNeg (a1 + (1 : Int32)))), .int (s.1 122 5)]) (st' := [.int (a1 + (6 : Int32)), .ref 122, .int (s.1 122 5)]) (s' := s) rfl ?_
        refine fu_guard (fun h14 => fu_step (fu_ldI rfl fr_122 h14) ?_)
        refine fu_ite (fun h15 => fu_step (fu_ic_ge_t rfl h15) ?_) (fun h15 => fu_step (fu_ic_ge_f rfl h15) ?_)
        · refine fu_go 2 (pc' := 159) (ls' := [.ref 117, .int a1, .int (s.1 122 (Int32.toNatClampNeg (a1 + (5 : Int32)))), .int (s.1 122 (Int32.toNatClampNeg (a1 + (1 : Int32)))), .int (s.1 122 5)]) (st' := [.int (1 : Int32)]) (s' := s) rfl ?_
          exact fu_leaf rfl ⟨.inl rfl, .inl rfl, .inl rfl, .inl rfl, .inl rfl, trivial⟩
        · refine fu_go 2 (pc' := 159) (ls' := [.ref 117, .int a1, .int (s.1 122 (Int32.toNatClampNeg (a1 + (5 : Int32)))), .int (s.1 122 (Int32.toNatClampNeg (a1 + (1 : Int32)))), .int (s.1 122 5)]) (st' := [.int (0 : Int32)]) (s' := s) rfl ?_
          exact fu_leaf rfl ⟨.inl rfl, .inl rfl, .inl rfl, .inl rfl, .inl rfl, trivial⟩
      · refine fu_go 1 (pc' := 105) (ls' := [.ref 117, .int a1, .int (s.1 122 (Int32.toNatClampNeg (a1 + (5 : Int32)))), .int (s.1 122 (Int32.toNatClampNeg (a1 + (1 : Int32)))), .int (s.1 122 5)]) (st' := [.ref 117]) (s' := s) rfl ?_
        refine fu_step (fu_getR rfl fr_117 rfl rfl) ?_
        refine fu_go 3 (pc' := 112) (ls' := [.ref 117, .int a1, .int (s.1 122 (Int32.toNatClampNeg (a1 + (5 : Int32)))), .int (s.1 122 (Int32.toNatClampNeg (a1 + (1 : Int32)))), .int (s.1 122 5)]) (st' := [.int (a1 + (7 : Int32)), .ref 122]) (s' := s) rfl ?_
        refine fu_guard (fun h16 => fu_step (fu_ldI rfl fr_122 h16) ?_)
        refine fu_go 1 (pc' := 115) (ls' := [.ref 117, .int a1, .int (s.1 122 (Int32.toNatClampNeg (a1 + (5 : Int32)))), .int (s.1 122 (Int32.toNatClampNeg (a1 + (1 : Int32)))), .int (s.1 122 5)]) (st' := [.int (62 : Int32), .int (s.1 122 (Int32.toNatClampNeg (a1 + (7 : Int32))))]) (s' := s) rfl ?_
        refine fu_ite (fun h17 => fu_step (fu_ic_ne_t rfl h17) ?_) (fun h17 => fu_step (fu_ic_ne_f rfl h17) ?_)
        · refine fu_go 2 (pc' := 121) (ls' := [.ref 117, .int a1, .int (s.1 122 (Int32.toNatClampNeg (a1 + (5 : Int32)))), .int (s.1 122 (Int32.toNatClampNeg (a1 + (1 : Int32)))), .int (s.1 122 5)]) (st' := [.ref 117, .int (s.1 122 5)]) (s' := s) rfl ?_
          refine fu_step (fu_getR rfl fr_117 rfl rfl) ?_
          refine fu_go 3 (pc' := 128) (ls' := [.ref 117, .int a1, .int (s.1 122 (Int32.toNatClampNeg (a1 + (5 : Int32)))), .int (s.1 122 (Int32.toNatClampNeg (a1 + (1 : Int32)))), .int (s.1 122 5)]) (st' := [.int (a1 + (6 : Int32)), .ref 122, .int (s.1 122 5)]) (s' := s) rfl ?_
          refine fu_guard (fun h18 => fu_step (fu_ldI rfl fr_122 h18) ?_)
          refine fu_ite (fun h19 => fu_step (fu_ic_le_t rfl h19) ?_) (fun h19 => fu_step (fu_ic_le_f rfl h19) ?_)
          · refine fu_go 2 (pc' := 159) (ls' := [.ref 117, .int a1, .int (s.1 122 (Int32.toNatClampNeg (a1 + (5 : Int32)))), .int (s.1 122 (Int32.toNatClampNeg (a1 + (1 : Int32)))), .int (s.1 122 5)]) (st' := [.int (0 : Int32)]) (s' := s) rfl ?_
            exact fu_leaf rfl ⟨.inl rfl, .inl rfl, .inl rfl, .inl rfl, .inl rfl, trivial⟩
          · refine fu_go 2 (pc' := 159) (ls' := [.ref 117, .int a1, .int (s.1 122 (Int32.toNatClampNeg (a1 + (5 : Int32)))), .int (s.1 122 (Int32.toNatClampNeg (a1 + (1 : Int32)))), .int (s.1 122 5)]) (st' := [.int (1 : Int32)]) (s' := s) rfl ?_
            exact fu_leaf rfl ⟨.inl rfl, .inl rfl, .inl rfl, .inl rfl, .inl rfl, trivial⟩
        · refine fu_go 2 (pc' := 143) (ls' := [.ref 117, .int a1, .int (s.1 122 (Int32.toNatClampNeg (a1 + (5 : Int32)))), .int (s.1 122 (Int32.toNatClampNeg (a1 + (1 : Int32)))), .int (s.1 122 5)]) (st' := [.ref 117, .int (s.1 122 5)]) (s' := s) rfl ?_
          refine fu_step (fu_getR rfl fr_117 rfl rfl) ?_
          refine fu_go 3 (pc' := 150) (ls' := [.ref 117, .int a1, .int (s.1 122 (Int32.toNatClampNeg (a1 + (5 : Int32)))), .int (s.1 122 (Int32.toNatClampNeg (a1 + (1 : Int32)))), .int (s.1 122 5)]) (st' := [.int (a1 + (6 : Int32)), .ref 122, .int (s.1 122 5)]) (s' := s) rfl ?_
          refine fu_guard (fun h20 => fu_step (fu_ldI rfl fr_122 h20) ?_)
          refine fu_ite (fun h21 => fu_step (fu_ic_ne_t rfl h21) ?_) (fun h21 => fu_step (fu_ic_ne_f rfl h21) ?_)
          · refine fu_go 2 (pc' := 159) (ls' := [.ref 117, .int a1, .int (s.1 122 (Int32.toNatClampNeg (a1 + (5 : Int32)))), .int (s.1 122 (Int32.toNatClampNeg (a1 + (1 : Int32)))), .int (s.1 122 5)]) (st' := [.int (1 : Int32)]) (s' := s) rfl ?_
            exact fu_leaf rfl ⟨.inl rfl, .inl rfl, .inl rfl, .inl rfl, .inl rfl, trivial⟩
          · refine fu_go 1 (pc' := 159) (ls' := [.ref 117, .int a1, .int (s.1 122 (Int32.toNatClampNeg (a1 + (5 : Int32)))), .int (s.1 122 (Int32.toNatClampNeg (a1 + (1 : Int32)))), .int (s.1 122 5)]) (st' := [.int (0 : Int32)]) (s' := s) rfl ?_
            exact fu_leaf rfl ⟨.inl rfl, .inl rfl, .inl rfl, .inl rfl, .inl rfl, trivial⟩
    show fu_J _ _ (fr_X d (some .boolean) k_X12_holds 159 [am_U, am_U, am_U, am_U, am_U] [.int (fu_b j12)] s)
    exact fu_bret (b := j12) rfl rfl
