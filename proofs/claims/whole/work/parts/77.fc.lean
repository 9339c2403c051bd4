/-! printed by wip/whole/lift/lift.py: the small machine comes to what the functions answer -/
/-! X7_isTray -/
set_option maxRecDepth 100000 in
theorem e_X7_isTray (d : Nat) (hd : 1 ≤ d) (s : fu_S) (a1 : Int32) : fu_J (some (f_X7_isTray a1)) (fun r => some (some (.int (fu_b r)), s)) (am_D (fu_ho fc_sh) am_m d 127 [.ref 1, .int a1] s) := by
  obtain ⟨d, rfl⟩ : ∃ e, d = e + 1 := ⟨d - 1, by omega⟩
  refine fu_enter (ls := [.ref 1, .int a1]) am_at_X7_isTray rfl rfl ?_
  show fu_J _ _ (fc_X d (some .boolean) k_X7_isTray 0 [.ref 1, .int a1] [] s)
  unfold f_X7_isTray
  refine fu_go 1 (pc' := 1) (ls' := [.ref 1, .int a1]) (st' := [.int a1]) (s' := s) rfl ?_
  refine fu_letS (V := fun j1 : Bool => fc_X d (some .boolean) k_X7_isTray 14 [am_U, am_U] [.int (fu_b j1)] s) ?_ (fun j1 => ?_)
  · refine fu_iteS (fun h2 => fu_step (fu_if_lt_t rfl h2) ?_) (fun h2 => fu_step (fu_if_lt_f rfl h2) ?_)
    · refine fu_go 1 (pc' := 14) (ls' := [.ref 1, .int a1]) (st' := [.int (0 : Int32)]) (s' := s) rfl ?_
      exact fu_leaf rfl ⟨.inl rfl, .inl rfl, trivial⟩
    · refine fu_go 2 (pc' := 6) (ls' := [.ref 1, .int a1]) (st' := [.int (4 : Int32), .int a1]) (s' := s) rfl ?_
      refine fu_iteS (fun h3 => fu_step (fu_ic_ge_t rfl h3) ?_) (fun h3 => fu_step (fu_ic_ge_f rfl h3) ?_)
      · refine fu_go 2 (pc' := 14) (ls' := [.ref 1, .int a1]) (st' := [.int (1 : Int32)]) (s' := s) rfl ?_
        exact fu_leaf rfl ⟨.inl rfl, .inl rfl, trivial⟩
      · refine fu_go 1 (pc' := 14) (ls' := [.ref 1, .int a1]) (st' := [.int (0 : Int32)]) (s' := s) rfl ?_
        exact fu_leaf rfl ⟨.inl rfl, .inl rfl, trivial⟩
  show fu_J _ _ (fc_X d (some .boolean) k_X7_isTray 14 [am_U, am_U] [.int (fu_b j1)] s)
  exact fu_bret (b := j1) rfl rfl
/-! X7_isThere -/
set_option maxRecDepth 100000 in
theorem e_X7_isThere (d : Nat) (hd : 2 ≤ d) (s : fu_S) (a1 : Int32) : fu_J (f_X7_isThere s a1) (fun r => some (some (.int (fu_b r)), s)) (am_D (fu_ho fc_sh) am_m d 129 [.ref 1, .int a1] s) := by
  obtain ⟨d, rfl⟩ : ∃ e, d = e + 1 := ⟨d - 1, by omega⟩
  refine fu_enter (ls := [.ref 1, .int a1]) am_at_X7_isThere rfl rfl ?_
  show fu_J _ _ (fc_X d (some .boolean) k_X7_isThere 0 [.ref 1, .int a1] [] s)
  unfold f_X7_isThere
  refine fu_go 2 (pc' := 2) (ls' := [.ref 1, .int a1]) (st' := [.int a1, .ref 1]) (s' := s) rfl ?_
  refine fu_step (fu_cV rfl rfl rfl rfl rfl (fu_recv fc_1 am_at_X7_isTray rfl) (fu_eq (e_X7_isTray d (by omega) s a1) rfl)) ?_
  show fu_J _ _ (fc_X d (some .boolean) k_X7_isThere 5 [.ref 1, .int a1] [.int (fu_b (f_X7_isTray a1))] s)
  refine fu_bind (V := fun j1 : Bool => fc_X d (some .boolean) k_X7_isThere 23 [am_U, am_U] [.int (fu_b j1)] s) ?_ (fun j1 => ?_)
  · refine fu_ite (fun h2 => fu_step (fu_ib_eq_t rfl h2) ?_) (fun h2 => fu_step (fu_ib_eq_f rfl h2) ?_)
    · refine fu_go 1 (pc' := 9) (ls' := [.ref 1, .int a1]) (st' := [.ref 1]) (s' := s) rfl ?_
      refine fu_step (fu_getR rfl fc_1 rfl rfl) ?_
      refine fu_go 1 (pc' := 13) (ls' := [.ref 1, .int a1]) (st' := [.int a1, .ref 4]) (s' := s) rfl ?_
      refine fu_guard (fun h3 => fu_step (fu_ldI rfl fc_4 h3) ?_)
      refine fu_go 1 (pc' := 15) (ls' := [.ref 1, .int a1]) (st' := [.int (-1 : Int32), .int (s.1 4 (Int32.toNatClampNeg a1))]) (s' := s) rfl ?_
      refine fu_ite (fun h4 => fu_step (fu_ic_eq_t rfl h4) ?_) (fun h4 => fu_step (fu_ic_eq_f rfl h4) ?_)
      · refine fu_go 1 (pc' := 23) (ls' := [.ref 1, .int a1]) (st' := [.int (0 : Int32)]) (s' := s) rfl ?_
        exact fu_leaf rfl ⟨.inl rfl, .inl rfl, trivial⟩
      · refine fu_go 2 (pc' := 23) (ls' := [.ref 1, .int a1]) (st' := [.int (1 : Int32)]) (s' := s) rfl ?_
        exact fu_leaf rfl ⟨.inl rfl, .inl rfl, trivial⟩
    · refine fu_go 1 (pc' := 23) (ls' := [.ref 1, .int a1]) (st' := [.int (0 : Int32)]) (s' := s) rfl ?_
      exact fu_leaf rfl ⟨.inl rfl, .inl rfl, trivial⟩
  show fu_J _ _ (fc_X d (some .boolean) k_X7_isThere 23 [am_U, am_U] [.int (fu_b j1)] s)
  exact fu_bret (b := j1) rfl rfl
/-! X7_hasPlaces -/
set_option maxRecDepth 100000 in
theorem e_X7_hasPlaces (d : Nat) (hd : 3 ≤ d) (s : fu_S) (a1 : Int32) (a2 : Int32) (a3 : Int32) : fu_J (f_X7_hasPlaces s a1 a2 a3) (fun r => some (some (.int (fu_b r)), s)) (am_D (fu_ho fc_sh) am_m d 132 [.ref 1, .int a1, .int a2, .int a3] s) := by
  obtain ⟨d, rfl⟩ : ∃ e, d = e + 1 := ⟨d - 1, by omega⟩
  refine fu_enter (ls := [.ref 1, .int a1, .int a2, .int a3]) am_at_X7_hasPlaces rfl rfl ?_
  show fu_J _ _ (fc_X d (some .boolean) k_X7_hasPlaces 0 [.ref 1, .int a1, .int a2, .int a3] [] s)
  unfold f_X7_hasPlaces
  refine fu_go 2 (pc' := 2) (ls' := [.ref 1, .int a1, .int a2, .int a3]) (st' := [.int a1, .ref 1]) (s' := s) rfl ?_
  refine fu_bind (fu_cVJ rfl rfl rfl rfl rfl (fu_recv fc_1 am_at_X7_isThere rfl) (e_X7_isThere d (by omega) s a1)) (fun r1 => ?_)
  show fu_J _ _ (fc_X d (some .boolean) k_X7_hasPlaces 5 [.ref 1, .int a1, .int a2, .int a3] [.int (fu_b r1)] s)
  refine fu_bind (V := fun j2 : Bool => fc_X d (some .boolean) k_X7_hasPlaces 43 [am_U, am_U, am_U, am_U] [.int (fu_b j2)] s) ?_ (fun j2 => ?_)
  · refine fu_ite (fun h3 => fu_step (fu_ib_eq_t rfl h3) ?_) (fun h3 => fu_step (fu_ib_eq_f rfl h3) ?_)
    · refine fu_go 1 (pc' := 9) (ls' := [.ref 1, .int a1, .int a2, .int a3]) (st' := [.int a2]) (s' := s) rfl ?_
      refine fu_ite (fun h4 => fu_step (fu_if_lt_t rfl h4) ?_) (fun h4 => fu_step (fu_if_lt_f rfl h4) ?_)
      · refine fu_go 1 (pc' := 43) (ls' := [.ref 1, .int a1, .int a2, .int a3]) (st' := [.int (0 : Int32)]) (s' := s) rfl ?_
        exact fu_leaf rfl ⟨.inl rfl, .inl rfl, .inl rfl, .inl rfl, trivial⟩
      · refine fu_go 1 (pc' := 13) (ls' := [.ref 1, .int a1, .int a2, .int a3]) (st' := [.int a3]) (s' := s) rfl ?_
        refine fu_ite (fun h5 => fu_step (fu_if_lt_t rfl h5) ?_) (fun h5 => fu_step (fu_if_lt_f rfl h5) ?_)
        · refine fu_go 1 (pc' := 43) (ls' := [.ref 1, .int a1, .int a2, .int a3]) (st' := [.int (0 : Int32)]) (s' := s) rfl ?_
          exact fu_leaf rfl ⟨.inl rfl, .inl rfl, .inl rfl, .inl rfl, trivial⟩
        · refine fu_go 2 (pc' := 18) (ls' := [.ref 1, .int a1, .int a2, .int a3]) (st' := [.ref 1, .int a3]) (s' := s) rfl ?_
          refine fu_step (fu_getR rfl fc_1 rfl rfl) ?_
          refine fu_go 1 (pc' := 22) (ls' := [.ref 1, .int a1, .int a2, .int a3]) (st' := [.int a1, .ref 4, .int a3]) (s' := s) rfl ?_
          refine fu_guard (fun h6 => fu_step (fu_ldI rfl fc_4 h6) ?_)
          refine fu_ite (fun h7 => fu_step (fu_ic_gt_t rfl h7) ?_) (fun h7 => fu_step (fu_ic_gt_f rfl h7) ?_)
          · refine fu_go 2 (pc' := 28) (ls' := [.ref 1, .int a1, .int a2, .int a3]) (st' := [.ref 1, .int a2]) (s' := s) rfl ?_
            refine fu_step (fu_getR rfl fc_1 rfl rfl) ?_
            refine fu_go 1 (pc' := 32) (ls' := [.ref 1, .int a1, .int a2, .int a3]) (st' := [.int a1, .ref 4, .int a2]) (s' := s) rfl ?_
            refine fu_guard (fun h8 => fu_step (fu_ldI rfl fc_4 h8) ?_)
            refine fu_go 2 (pc' := 35) (ls' := [.ref 1, .int a1, .int a2, .int a3]) (st' := [.int ((s.1 4 (Int32.toNatClampNeg a1)) - a3), .int a2]) (s' := s) rfl ?_
            refine fu_ite (fun h9 => fu_step (fu_ic_gt_t rfl h9) ?_) (fun h9 => fu_step (fu_ic_gt_f rfl h9) ?_)
            · refine fu_go 2 (pc' := 43) (ls' := [.ref 1, .int a1, .int a2, .int a3]) (st' := [.int (1 : Int32)]) (s' := s) rfl ?_
              exact fu_leaf rfl ⟨.inl rfl, .inl rfl, .inl rfl, .inl rfl, trivial⟩
            · refine fu_go 1 (pc' := 43) (ls' := [.ref 1, .int a1, .int a2, .int a3]) (st' := [.int (0 : Int32)]) (s' := s) rfl ?_
              exact fu_leaf rfl ⟨.inl rfl, .inl rfl, .inl rfl, .inl rfl, trivial⟩
          · refine fu_go 1 (pc' := 43) (ls' := [.ref 1, .int a1, .int a2, .int a3]) (st' := [.int (0 : Int32)]) (s' := s) rfl ?_
            exact fu_leaf rfl ⟨.inl rfl, .inl rfl, .inl rfl, .inl rfl, trivial⟩
    · refine fu_go 1 (pc' := 43) (ls' := [.ref 1, .int a1, .int a2, .int a3]) (st' := [.int (0 : Int32)]) (s' := s) rfl ?_
      exact fu_leaf rfl ⟨.inl rfl, .inl rfl, .inl rfl, .inl rfl, trivial⟩
  show fu_J _ _ (fc_X d (some .boolean) k_X7_hasPlaces 43 [am_U, am_U, am_U, am_U] [.int (fu_b j2)] s)
  exact fu_bret (b := j2) rfl rfl
/-! X7_numberAt -/
set_option maxRecDepth 100000 in
theorem e_X7_numberAt (d : Nat) (hd : 4 ≤ d) (s : fu_S) (a1 : Int32) (a2 : Int32) : fu_J (f_X7_numberAt s a1 a2) (fun r => some (some (.long r), s)) (am_D (fu_ho fc_sh) am_m d 134 [.ref 1, .int a1, .int a2] s) := by
  obtain ⟨d, rfl⟩ : ∃ e, d = e + 1 := ⟨d - 1, by omega⟩
  refine fu_enter (ls := [.ref 1, .int a1, .int a2]) am_at_X7_numberAt rfl rfl ?_
  show fu_J _ _ (fc_X d (some .long) k_X7_numberAt 0 [.ref 1, .int a1, .int a2] [] s)
  unfold f_X7_numberAt
  refine fu_go 4 (pc' := 4) (ls' := [.ref 1, .int a1, .int a2]) (st' := [.int (1 : Int32), .int a2, .int a1, .ref 1]) (s' := s) rfl ?_
  refine fu_bind (fu_cVJ rfl rfl rfl rfl rfl (fu_recv fc_1 am_at_X7_hasPlaces rfl) (e_X7_hasPlaces d (by omega) s a1 a2 (1 : Int32))) (fun r1 => ?_)
  show fu_J _ _ (fc_X d (some .long) k_X7_numberAt 7 [.ref 1, .int a1, .int a2] [.int (fu_b r1)] s)
  refine fu_bind (V := fun j2 : Int64 => fc_X d (some .long) k_X7_numberAt 27 [am_U, am_U, am_U] [.long j2] s) ?_ (fun j2 => ?_)
  · refine fu_ite (fun h3 => fu_step (fu_ib_eq_t rfl h3) ?_) (fun h3 => fu_step (fu_ib_eq_f rfl h3) ?_)
    · refine fu_go 1 (pc' := 11) (ls' := [.ref 1, .int a1, .int a2]) (st' := [.ref 1]) (s' := s) rfl ?_
      refine fu_step (fu_getR rfl fc_1 rfl rfl) ?_
      refine fu_go 5 (pc' := 20) (ls' := [.ref 1, .int a1, .int a2]) (st' := [.int ((a1 * (60 : Int32)) + a2), .ref 2]) (s' := s) rfl ?_
      refine fu_guard (fun h4 => fu_step (fu_ldL rfl fc_2 h4) ?_)
      refine fu_go 1 (pc' := 27) (ls' := [.ref 1, .int a1, .int a2]) (st' := [.long (s.2 2 (Int32.toNatClampNeg ((a1 * (60 : Int32)) + a2)))]) (s' := s) rfl ?_
      exact fu_leaf rfl ⟨.inl rfl, .inl rfl, .inl rfl, trivial⟩
    · refine fu_go 1 (pc' := 27) (ls' := [.ref 1, .int a1, .int a2]) (st' := [.long (-1 : Int64)]) (s' := s) rfl ?_
      exact fu_leaf rfl ⟨.inl rfl, .inl rfl, .inl rfl, trivial⟩
  show fu_J _ _ (fc_X d (some .long) k_X7_numberAt 27 [am_U, am_U, am_U] [.long j2] s)
  exact fu_lret rfl rfl
/-! X1_areThrees -/
theorem el_X1_areThrees_3 (d : Nat) (hd : 4 ≤ d) : ∀ (n : Nat) (s : fu_S) (P0 : Nat) (hP0 : fc_is3 P0) (x2 : Int32) (x3 : Int32) (x4 : Int32), fu_J (l_X1_areThrees_3 n s P0 x2 x3 x4) (fun u => Sum.elim (fun r => some (some (.int (fu_b r)), s)) (fun r => fc_X d (some .boolean) k_X1_areThrees 125 [am_U, am_U, am_U, am_U, am_U, am_U, am_U, am_U, am_U, am_U, am_U, am_U] [] s) u) (fc_X d (some .boolean) k_X1_areThrees 3 [.ref P0, .ref 1, .int x2, .int x3, .int x4, am_U, am_U, am_U, am_U, am_U, am_U, am_U] [] s) := by
  intro n
  induction n with
  | zero => intros; exact fu_none
  | succ n ih =>
    intro s P0 hP0 x2 x3 x4
    rw [l_X1_areThrees_3]
    refine fu_go 2 (pc' := 6) (ls' := [.ref P0, .ref 1, .int x2, .int x3, .int x4, am_U, am_U, am_U, am_U, am_U, am_U, am_U]) (st' := [.int x3, .int x4]) (s' := s) rfl ?_
    refine fu_ite (fun h1 => fu_step (fu_ic_ge_t rfl h1) ?_) (fun h1 => fu_step (fu_ic_ge_f rfl h1) ?_)
    · refine fu_go 2 (pc' := 13) (ls' := [.ref P0, .ref 1, .int x2, .int x3, .int x4, am_U, am_U, am_U, am_U, am_U, am_U, am_U]) (st' := [.int (15 : Int32), .int x4]) (s' := s) rfl ?_
      refine fu_ite (fun h2 => fu_step (fu_ic_ge_t rfl h2) ?_) (fun h2 => fu_step (fu_ic_ge_f rfl h2) ?_)
      · refine fu_go 5 (pc' := 22) (ls' := [.ref P0, .ref 1, .int x2, .int x3, .int x4, am_U, am_U, am_U, am_U, am_U, am_U, am_U]) (st' := [.int ((3 : Int32) * x4), .int x2, .ref 1]) (s' := s) rfl ?_
        refine fu_bind (fu_cVJ rfl rfl rfl rfl rfl (fu_recv fc_1 am_at_X7_numberAt rfl) (e_X7_numberAt d (by omega) s x2 ((3 : Int32) * x4))) (fun r3 => ?_)
        show fu_J _ _ (fc_X d (some .boolean) k_X1_areThrees 25 [.ref P0, .ref 1, .int x2, .int x3, .int x4, am_U, am_U, am_U, am_U, am_U, am_U, am_U] [.long r3] s)
        refine fu_go 8 (pc' := 35) (ls' := [.ref P0, .ref 1, .int x2, .int x3, .int x4, .long r3, am_U, am_U, am_U, am_U, am_U, am_U]) (st' := [.int (((3 : Int32) * x4) + (1 : Int32)), .int x2, .ref 1]) (s' := s) rfl ?_
        refine fu_bind (fu_cVJ rfl rfl rfl rfl rfl (fu_recv fc_1 am_at_X7_numberAt rfl) (e_X7_numberAt d (by omega) s x2 (((3 : Int32) * x4) + (1 : Int32)))) (fun r4 => ?_)
        show fu_J _ _ (fc_X d (some .boolean) k_X1_areThrees 38 [.ref P0, .ref 1, .int x2, .int x3, .int x4, .long r3, am_U, am_U, am_U, am_U, am_U, am_U] [.long r4] s)
        refine fu_go 8 (pc' := 48) (ls' := [.ref P0, .ref 1, .int x2, .int x3, .int x4, .long r3, am_U, .long r4, am_U, am_U, am_U, am_U]) (st' := [.int (((3 : Int32) * x4) + (2 : Int32)), .int x2, .ref 1]) (s' := s) rfl ?_
        refine fu_bind (fu_cVJ rfl rfl rfl rfl rfl (fu_recv fc_1 am_at_X7_numberAt rfl) (e_X7_numberAt d (by omega) s x2 (((3 : Int32) * x4) + (2 : Int32)))) (fun r5 => ?_)
        show fu_J _ _ (fc_X d (some .boolean) k_X1_areThrees 51 [.ref P0, .ref 1, .int x2, .int x3, .int x4, .long r3, am_U, .long r4, am_U, am_U, am_U, am_U] [.long r5] s)
        refine fu_go 3 (pc' := 56) (ls' := [.ref P0, .ref 1, .int x2, .int x3, .int x4, .long r3, am_U, .long r4, am_U, .long r5, am_U, am_U]) (st' := [.long (0 : Int64), .long r3]) (s' := s) rfl ?_
        refine fu_bind (V := fun j6 : Bool => fc_X d (some .boolean) k_X1_areThrees 110 [.ref P0, .ref 1, .int x2, .int x3, .int x4, am_U, am_U, am_U, am_U, am_U, am_U, am_U] [.int (fu_b j6)] s) ?_ (fun j6 => ?_)
        · refine fu_ite (fun h7 => fu_step (fu_lc_lt_t rfl rfl h7) ?_) (fun h7 => fu_step (fu_lc_lt_f rfl rfl h7) ?_)
          · refine fu_go 1 (pc' := 110) (ls' := [.ref P0, .ref 1, .int x2, .int x3, .int x4, .long r3, am_U, .long r4, am_U, .long r5, am_U, am_U]) (st' := [.int (0 : Int32)]) (s' := s) rfl ?_
            exact fu_leaf rfl ⟨.inr rfl, .inr rfl, .inr rfl, .inr rfl, .inr rfl, .inl rfl, .inl rfl, .inl rfl, .inl rfl, .inl rfl, .inl rfl, .inl rfl, trivial⟩
          · refine fu_go 2 (pc' := 63) (ls' := [.ref P0, .ref 1, .int x2, .int x3, .int x4, .long r3, am_U, .long r4, am_U, .long r5, am_U, am_U]) (st' := [.ref P0, .long r3]) (s' := s) rfl ?_
            refine fu_step (fu_cV rfl rfl rfl rfl rfl (fu_recv hP0.1 am_at_X4_people rfl) (fu_eq (e_X4_people d (by omega) s P0 hP0) rfl)) ?_
            show fu_J _ _ (fc_X d (some .boolean) k_X1_areThrees 66 [.ref P0, .ref 1, .int x2, .int x3, .int x4, .long r3, am_U, .long r4, am_U, .long r5, am_U, am_U] [.int (f_X4_people s P0), .long r3] s)
            refine fu_go 1 (pc' := 67) (ls' := [.ref P0, .ref 1, .int x2, .int x3, .int x4, .long r3, am_U, .long r4, am_U, .long r5, am_U, am_U]) (st' := [.long (Int32.toInt64 (f_X4_people s P0)), .long r3]) (s' := s) rfl ?_
            refine fu_ite (fun h8 => fu_step (fu_lc_ge_t rfl rfl h8) ?_) (fun h8 => fu_step (fu_lc_ge_f rfl rfl h8) ?_)
            · refine fu_go 2 (pc' := 74) (ls' := [.ref P0, .ref 1, .int x2, .int x3, .int x4, .long r3, am_U, .long r4, am_U, .long r5, am_U, am_U]) (st' := [.long (0 : Int64), .long r4]) (s' := s) rfl ?_
              refine fu_ite (fun h9 => fu_step (fu_lc_lt_t rfl rfl h9) ?_) (fun h9 => fu_step (fu_lc_lt_f rfl rfl h9) ?_)
              · refine fu_go 1 (pc' := 110) (ls' := [.ref P0, .ref 1, .int x2, .int x3, .int x4, .long r3, am_U, .long r4, am_U, .long r5, am_U, am_U]) (st' := [.int (0 : Int32)]) (s' := s) rfl ?_
                exact fu_leaf rfl ⟨.inr rfl, .inr rfl, .inr rfl, .inr rfl, .inr rfl, .inl rfl, .inl rfl, .inl rfl, .inl rfl, .inl rfl, .inl rfl, .inl rfl, trivial⟩
              · refine fu_go 2 (pc' := 81) (ls' := [.ref P0, .ref 1, .int x2, .int x3, .int x4, .long r3, am_U, .long r4, am_U, .long r5, am_U, am_U]) (st' := [.ref P0, .long r4]) (s' := s) rfl ?_
                refine fu_step (fu_cV rfl rfl rfl rfl rfl (fu_recv hP0.1 am_at_X4_people rfl) (fu_eq (e_X4_people d (by omega) s P0 hP0) rfl)) ?_
                show fu_J _ _ (fc_X d (some .boolean) k_X1_areThrees 84 [.ref P0, .ref 1, .int x2, .int x3, .int x4, .long r3, am_U, .long r4, am_U, .long r5, am_U, am_U] [.int (f_X4_people s P0), .long r4] s)
                refine fu_go 1 (pc' := 85) (ls' := [.ref P0, .ref 1, .int x2, .int x3, .int x4, .long r3, am_U, .long r4, am_U, .long r5, am_U, am_U]) (st' := [.long (Int32.toInt64 (f_X4_people s P0)), .long r4]) (s' := s) rfl ?_
                refine fu_ite (fun h10 => fu_step (fu_lc_ge_t rfl rfl h10) ?_) (fun h10 => fu_step (fu_lc_ge_f rfl rfl h10) ?_)
                · refine fu_go 2 (pc' := 92) (ls' := [.ref P0, .ref 1, .int x2, .int x3, .int x4, .long r3, am_U, .long r4, am_U, .long r5, am_U, am_U]) (st' := [.long (0 : Int64), .long r5]) (s' := s) rfl ?_
                  refine fu_ite (fun h11 => fu_step (fu_lc_lt_t rfl rfl h11) ?_) (fun h11 => fu_step (fu_lc_lt_f rfl rfl h11) ?_)
                  · refine fu_go 1 (pc' := 110) (ls' := [.ref P0, .ref 1, .int x2, .int x3, .int x4, .long r3, am_U, .long r4, am_U, .long r5, am_U, am_U]) (st' := [.int (0 : Int32)]) (s' := s) rfl ?_
                    exact fu_leaf rfl ⟨.inr rfl, .inr rfl, .inr rfl, .inr rfl, .inr rfl, .inl rfl, .inl rfl, .inl rfl, .inl rfl, .inl rfl, .inl rfl, .inl rfl, trivial⟩
                  · refine fu_go 2 (pc' := 101) (ls' := [.ref P0, .ref 1, .int x2, .int x3, .int x4, .long r3, am_U, .long r4, am_U, .long r5, am_U, am_U]) (st' := [.long (10 : Int64), .long r5]) (s' := s) rfl ?_
                    refine fu_ite (fun h12 => fu_step (fu_lc_ge_t rfl rfl h12) ?_) (fun h12 => fu_step (fu_lc_ge_f rfl rfl h12) ?_)
                    · refine fu_go 2 (pc' := 110) (ls' := [.ref P0, .ref 1, .int x2, .int x3, .int x4, .long r3, am_U, .long r4, am_U, .long r5, am_U, am_U]) (st' := [.int (1 : Int32)]) (s' := s) rfl ?_
                      exact fu_leaf rfl ⟨.inr rfl, .inr rfl, .inr rfl, .inr rfl, .inr rfl, .inl rfl, .inl rfl, .inl rfl, .inl rfl, .inl rfl, .inl rfl, .inl rfl, trivial⟩
                    · refine fu_go 1 (pc' := 110) (ls' := [.ref P0, .ref 1, .int x2, .int x3, .int x4, .long r3, am_U, .long r4, am_U, .long r5, am_U, am_U]) (st' := [.int (0 : Int32)]) (s' := s) rfl ?_
                      exact fu_leaf rfl ⟨.inr rfl, .inr rfl, .inr rfl, .inr rfl, .inr rfl, .inl rfl, .inl rfl, .inl rfl, .inl rfl, .inl rfl, .inl rfl, .inl rfl, trivial⟩
                · refine fu_go 1 (pc' := 110) (ls' := [.ref P0, .ref 1, .int x2, .int x3, .int x4, .long r3, am_U, .long r4, am_U, .long r5, am_U, am_U]) (st' := [.int (0 : Int32)]) (s' := s) rfl ?_
                  exact fu_leaf rfl ⟨.inr rfl, .inr rfl, .inr rfl, .inr rfl, .inr rfl, .inl rfl, .inl rfl, .inl rfl, .inl rfl, .inl rfl, .inl rfl, .inl rfl, trivial⟩
            · refine fu_go 1 (pc' := 110) (ls' := [.ref P0, .ref 1, .int x2, .int x3, .int x4, .long r3, am_U, .long r4, am_U, .long r5, am_U, am_U]) (st' := [.int (0 : Int32)]) (s' := s) rfl ?_
              exact fu_leaf rfl ⟨.inr rfl, .inr rfl, .inr rfl, .inr rfl, .inr rfl, .inl rfl, .inl rfl, .inl rfl, .inl rfl, .inl rfl, .inl rfl, .inl rfl, trivial⟩
        show fu_J _ _ (fc_X d (some .boolean) k_X1_areThrees 110 [.ref P0, .ref 1, .int x2, .int x3, .int x4, am_U, am_U, am_U, am_U, am_U, am_U, am_U] [.int (fu_b j6)] s)
        refine fu_go 2 (pc' := 114) (ls' := [.ref P0, .ref 1, .int x2, .int x3, .int x4, am_U, am_U, am_U, am_U, am_U, am_U, .int (fu_b j6)]) (st' := [.int (fu_b j6)]) (s' := s) rfl ?_
        refine fu_ite (fun h13 => fu_step (fu_ib_ne_t rfl h13) ?_) (fun h13 => fu_step (fu_ib_ne_f rfl h13) ?_)
        · refine fu_go 2 (pc' := 3) (ls' := [.ref P0, .ref 1, .int x2, .int x3, .int (x4 + (1 : Int32)), am_U, am_U, am_U, am_U, am_U, am_U, .int (fu_b j6)]) (st' := []) (s' := s) rfl ?_
          exact fu_drop (ls' := [.ref P0, .ref 1, .int x2, .int x3, .int (x4 + (1 : Int32)), am_U, am_U, am_U, am_U, am_U, am_U, am_U]) ⟨.inr rfl, .inr rfl, .inr rfl, .inr rfl, .inr rfl, .inl rfl, .inl rfl, .inl rfl, .inl rfl, .inl rfl, .inl rfl, .inl rfl, trivial⟩ (ih s P0 hP0 x2 x3 (x4 + (1 : Int32)))
        · refine fu_go 1 (pc' := 118) (ls' := [.ref P0, .ref 1, .int x2, .int x3, .int x4, am_U, am_U, am_U, am_U, am_U, am_U, .int (fu_b j6)]) (st' := [.int (0 : Int32)]) (s' := s) rfl ?_
          exact fu_bret (b := false) rfl rfl
      · exact fu_leaf rfl ⟨.inl rfl, .inl rfl, .inl rfl, .inl rfl, .inl rfl, .inl rfl, .inl rfl, .inl rfl, .inl rfl, .inl rfl, .inl rfl, .inl rfl, trivial⟩
    · exact fu_leaf rfl ⟨.inl rfl, .inl rfl, .inl rfl, .inl rfl, .inl rfl, .inl rfl, .inl rfl, .inl rfl, .inl rfl, .inl rfl, .inl rfl, .inl rfl, trivial⟩
set_option maxRecDepth 100000 in
theorem e_X1_areThrees (d : Nat) (hd : 5 ≤ d) (s : fu_S) (P0 : Nat) (hP0 : fc_is3 P0) (a2 : Int32) (a3 : Int32) : fu_J (f_X1_areThrees s P0 a2 a3) (fun r => some (some (.int (fu_b r)), s)) (am_D (fu_ho fc_sh) am_m d 17 [.ref P0, .ref 1, .int a2, .int a3] s) := by
  obtain ⟨d, rfl⟩ : ∃ e, d = e + 1 := ⟨d - 1, by omega⟩
  refine fu_enter (ls := [.ref P0, .ref 1, .int a2, .int a3, am_U, am_U, am_U, am_U, am_U, am_U, am_U, am_U]) am_at_X1_areThrees rfl rfl ?_
  show fu_J _ _ (fc_X d (some .boolean) k_X1_areThrees 0 [.ref P0, .ref 1, .int a2, .int a3, am_U, am_U, am_U, am_U, am_U, am_U, am_U, am_U] [] s)
  unfold f_X1_areThrees
  refine fu_go 2 (pc' := 3) (ls' := [.ref P0, .ref 1, .int a2, .int a3, .int (0 : Int32), am_U, am_U, am_U, am_U, am_U, am_U, am_U]) (st' := []) (s' := s) rfl ?_
  refine fu_drop (ls' := [.ref P0, .ref 1, .int a2, .int a3, .int (0 : Int32), am_U, am_U, am_U, am_U, am_U, am_U, am_U]) ⟨.inr rfl, .inr rfl, .inr rfl, .inr rfl, .inr rfl, .inl rfl, .inl rfl, .inl rfl, .inl rfl, .inl rfl, .inl rfl, .inl rfl, trivial⟩ ?_
  refine fu_bind (el_X1_areThrees_3 d (by omega) fu_N s P0 hP0 a2 a3 (0 : Int32)) (fun u => fu_sum (fun a => ?_) (fun r14 => ?_))
  · exact fu_ret rfl
  show fu_J _ _ (fc_X d (some .boolean) k_X1_areThrees 125 [am_U, am_U, am_U, am_U, am_U, am_U, am_U, am_U, am_U, am_U, am_U, am_U] [] s)
  refine fu_go 1 (pc' := 126) (ls' := [am_U, am_U, am_U, am_U, am_U, am_U, am_U, am_U, am_U, am_U, am_U, am_U]) (st' := [.int (1 : Int32)]) (s' := s) rfl ?_
  exact fu_bret (b := true) rfl rfl
/-! X1_isLaw -/
theorem el_X1_isLaw_3 (d : Nat) (hd : 4 ≤ d) : ∀ (n : Nat) (s : fu_S) (P0 : Nat) (hP0 : fc_is3 P0) (x2 : Int32) (x3 : Int32) (x4 : Int32) (x5 : Int32), fu_J (l_X1_isLaw_3 n s P0 x2 x3 x4 x5) (fun u => Sum.elim (fun r => some (some (.int (fu_b r)), s)) (fun r => fc_X d (some .boolean) k_X1_isLaw 98 [am_U, am_U, am_U, am_U, am_U, am_U, am_U, am_U, am_U] [] s) u) (fc_X d (some .boolean) k_X1_isLaw 3 [.ref P0, .ref 1, .int x2, .int x3, .int x4, .int x5, am_U, am_U, am_U] [] s) := by
  intro n
  induction n with
  | zero => intros; exact fu_none
  | succ n ih =>
    intro s P0 hP0 x2 x3 x4 x5
    rw [l_X1_isLaw_3]
    refine fu_go 2 (pc' := 6) (ls' := [.ref P0, .ref 1, .int x2, .int x3, .int x4, .int x5, am_U, am_U, am_U]) (st' := [.int x3, .int x5]) (s' := s) rfl ?_
    refine fu_ite (fun h1 => fu_step (fu_ic_ge_t rfl h1) ?_) (fun h1 => fu_step (fu_ic_ge_f rfl h1) ?_)
    · refine fu_go 2 (pc' := 13) (ls' := [.ref P0, .ref 1, .int x2, .int x3, .int x4, .int x5, am_U, am_U, am_U]) (st' := [.int (15 : Int32), .int x5]) (s' := s) rfl ?_
      refine fu_ite (fun h2 => fu_step (fu_ic_ge_t rfl h2) ?_) (fun h2 => fu_step (fu_ic_ge_f rfl h2) ?_)
      · refine fu_go 5 (pc' := 22) (ls' := [.ref P0, .ref 1, .int x2, .int x3, .int x4, .int x5, am_U, am_U, am_U]) (st' := [.int ((3 : Int32) * x5), .int x2, .ref 1]) (s' := s) rfl ?_
        refine fu_bind (fu_cVJ rfl rfl rfl rfl rfl (fu_recv fc_1 am_at_X7_numberAt rfl) (e_X7_numberAt d (by omega) s x2 ((3 : Int32) * x5))) (fun r3 => ?_)
        show fu_J _ _ (fc_X d (some .boolean) k_X1_isLaw 25 [.ref P0, .ref 1, .int x2, .int x3, .int x4, .int x5, am_U, am_U, am_U] [.long r3] s)
        refine fu_go 6 (pc' := 35) (ls' := [.ref P0, .ref 1, .int x2, .int x3, .int x4, .int x5, .int (Int64.toInt32 r3), am_U, am_U]) (st' := [.int (10 : Int32), .int x4, .int (Int64.toInt32 r3), .ref P0]) (s' := s) rfl ?_
        refine fu_step (fu_div rfl (by decide)) ?_
        refine fu_bind (fu_cVJ rfl rfl rfl rfl rfl (fu_recv hP0.1 am_at_X4_bearerBySteps rfl) (e_X4_bearerBySteps d (by omega) s P0 hP0 (Int64.toInt32 r3) (x4 / (10 : Int32)))) (fun r4 => ?_)
        show fu_J _ _ (fc_X d (some .boolean) k_X1_isLaw 39 [.ref P0, .ref 1, .int x2, .int x3, .int x4, .int x5, .int (Int64.toInt32 r3), am_U, am_U] [.int r4] s)
        refine fu_go 5 (pc' := 48) (ls' := [.ref P0, .ref 1, .int x2, .int x3, .int x4, .int x5, .int (Int64.toInt32 r3), .int r4, am_U]) (st' := [.int (10 : Int32), .int x4, .int (Int64.toInt32 r3), .ref P0]) (s' := s) rfl ?_
        refine fu_step (fu_rem rfl (by decide)) ?_
        refine fu_step (fu_cV rfl rfl rfl rfl rfl (fu_recv hP0.1 am_at_X4_spotFrom rfl) (fu_eq (e_X4_spotFrom d (by omega) s P0 hP0 (Int64.toInt32 r3) (x4 - x4 / (10 : Int32) * (10 : Int32))) rfl)) ?_
        show fu_J _ _ (fc_X d (some .boolean) k_X1_isLaw 52 [.ref P0, .ref 1, .int x2, .int x3, .int x4, .int x5, .int (Int64.toInt32 r3), .int r4, am_U] [.int (f_X4_spotFrom P0 (Int64.toInt32 r3) (x4 - x4 / (10 : Int32) * (10 : Int32)))] s)
        refine fu_go 8 (pc' := 62) (ls' := [.ref P0, .ref 1, .int x2, .int x3, .int x4, .int x5, .int (Int64.toInt32 r3), .int r4, .int (f_X4_spotFrom P0 (Int64.toInt32 r3) (x4 - x4 / (10 : Int32) * (10 : Int32)))]) (st' := [.int (((3 : Int32) * x5) + (1 : Int32)), .int x2, .ref 1]) (s' := s) rfl ?_
        refine fu_bind (fu_cVJ rfl rfl rfl rfl rfl (fu_recv fc_1 am_at_X7_numberAt rfl) (e_X7_numberAt d (by omega) s x2 (((3 : Int32) * x5) + (1 : Int32)))) (fun r5 => ?_)
        show fu_J _ _ (fc_X d (some .boolean) k_X1_isLaw 65 [.ref P0, .ref 1, .int x2, .int x3, .int x4, .int x5, .int (Int64.toInt32 r3), .int r4, .int (f_X4_spotFrom P0 (Int64.toInt32 r3) (x4 - x4 / (10 : Int32) * (10 : Int32)))] [.long r5] s)
        refine fu_go 2 (pc' := 68) (ls' := [.ref P0, .ref 1, .int x2, .int x3, .int x4, .int x5, .int (Int64.toInt32 r3), .int r4, .int (f_X4_spotFrom P0 (Int64.toInt32 r3) (x4 - x4 / (10 : Int32) * (10 : Int32)))]) (st' := [.long (Int32.toInt64 r4), .long r5]) (s' := s) rfl ?_
        refine fu_ite (fun h6 => fu_step (fu_lc_ne_t rfl rfl h6) ?_) (fun h6 => fu_step (fu_lc_ne_f rfl rfl h6) ?_)
        · refine fu_go 7 (pc' := 80) (ls' := [.ref P0, .ref 1, .int x2, .int x3, .int x4, .int x5, .int (Int64.toInt32 r3), .int r4, .int (f_X4_spotFrom P0 (Int64.toInt32 r3) (x4 - x4 / (10 : Int32) * (10 : Int32)))]) (st' := [.int (((3 : Int32) * x5) + (2 : Int32)), .int x2, .ref 1]) (s' := s) rfl ?_
          refine fu_bind (fu_cVJ rfl rfl rfl rfl rfl (fu_recv fc_1 am_at_X7_numberAt rfl) (e_X7_numberAt d (by omega) s x2 (((3 : Int32) * x5) + (2 : Int32)))) (fun r7 => ?_)
          show fu_J _ _ (fc_X d (some .boolean) k_X1_isLaw 83 [.ref P0, .ref 1, .int x2, .int x3, .int x4, .int x5, .int (Int64.toInt32 r3), .int r4, .int (f_X4_spotFrom P0 (Int64.toInt32 r3) (x4 - x4 / (10 : Int32) * (10 : Int32)))] [.long r7] s)
          refine fu_go 2 (pc' := 86) (ls' := [.ref P0, .ref 1, .int x2, .int x3, .int x4, .int x5, .int (Int64.toInt32 r3), .int r4, .int (f_X4_spotFrom P0 (Int64.toInt32 r3) (x4 - x4 / (10 : Int32) * (10 : Int32)))]) (st' := [.long (Int32.toInt64 (f_X4_spotFrom P0 (Int64.toInt32 r3) (x4 - x4 / (10 : Int32) * (10 : Int32)))), .long r7]) (s' := s) rfl ?_
          refine fu_ite (fun h8 => fu_step (fu_lc_eq_t rfl rfl h8) ?_) (fun h8 => fu_step (fu_lc_eq_f rfl rfl h8) ?_)
          · refine fu_go 2 (pc' := 3) (ls' := [.ref P0, .ref 1, .int x2, .int x3, .int x4, .int (x5 + (1 : Int32)), .int (Int64.toInt32 r3), .int r4, .int (f_X4_spotFrom P0 (Int64.toInt32 r3) (x4 - x4 / (10 : Int32) * (10 : Int32)))]) (st' := []) (s' := s) rfl ?_
            exact fu_drop (ls' := [.ref P0, .ref 1, .int x2, .int x3, .int x4, .int (x5 + (1 : Int32)), am_U, am_U, am_U]) ⟨.inr rfl, .inr rfl, .inr rfl, .inr rfl, .inr rfl, .inr rfl, .inl rfl, .inl rfl, .inl rfl, trivial⟩ (ih s P0 hP0 x2 x3 x4 (x5 + (1 : Int32)))
          · refine fu_go 1 (pc' := 91) (ls' := [.ref P0, .ref 1, .int x2, .int x3, .int x4, .int x5, .int (Int64.toInt32 r3), .int r4, .int (f_X4_spotFrom P0 (Int64.toInt32 r3) (x4 - x4 / (10 : Int32) * (10 : Int32)))]) (st' := [.int (0 : Int32)]) (s' := s) rfl ?_
            exact fu_bret (b := false) rfl rfl
        · refine fu_go 1 (pc' := 91) (ls' := [.ref P0, .ref 1, .int x2, .int x3, .int x4, .int x5, .int (Int64.toInt32 r3), .int r4, .int (f_X4_spotFrom P0 (Int64.toInt32 r3) (x4 - x4 / (10 : Int32) * (10 : Int32)))]) (st' := [.int (0 : Int32)]) (s' := s) rfl ?_
          exact fu_bret (b := false) rfl rfl
      · exact fu_leaf rfl ⟨.inl rfl, .inl rfl, .inl rfl, .inl rfl, .inl rfl, .inl rfl, .inl rfl, .inl rfl, .inl rfl, trivial⟩
    · exact fu_leaf rfl ⟨.inl rfl, .inl rfl, .inl rfl, .inl rfl, .inl rfl, .inl rfl, .inl rfl, .inl rfl, .inl rfl, trivial⟩
set_option maxRecDepth 100000 in
theorem e_X1_isLaw (d : Nat) (hd : 5 ≤ d) (s : fu_S) (P0 : Nat) (hP0 : fc_is3 P0) (a2 : Int32) (a3 : Int32) (a4 : Int32) : fu_J (f_X1_isLaw s P0 a2 a3 a4) (fun r => some (some (.int (fu_b r)), s)) (am_D (fu_ho fc_sh) am_m d 18 [.ref P0, .ref 1, .int a2, .int a3, .int a4] s) := by
  obtain ⟨d, rfl⟩ : ∃ e, d = e + 1 := ⟨d - 1, by omega⟩
  refine fu_enter (ls := [.ref P0, .ref 1, .int a2, .int a3, .int a4, am_U, am_U, am_U, am_U]) am_at_X1_isLaw rfl rfl ?_
  show fu_J _ _ (fc_X d (some .boolean) k_X1_isLaw 0 [.ref P0, .ref 1, .int a2, .int a3, .int a4, am_U, am_U, am_U, am_U] [] s)
  unfold f_X1_isLaw
  refine fu_go 2 (pc' := 3) (ls' := [.ref P0, .ref 1, .int a2, .int a3, .int a4, .int (0 : Int32), am_U, am_U, am_U]) (st' := []) (s' := s) rfl ?_
  refine fu_drop (ls' := [.ref P0, .ref 1, .int a2, .int a3, .int a4, .int (0 : Int32), am_U, am_U, am_U]) ⟨.inr rfl, .inr rfl, .inr rfl, .inr rfl, .inr rfl, .inr rfl, .inl rfl, .inl rfl, .inl rfl, trivial⟩ ?_
  refine fu_bind (el_X1_isLaw_3 d (by omega) fu_N s P0 hP0 a2 a3 a4 (0 : Int32)) (fun u => fu_sum (fun a => ?_) (fun r9 => ?_))
  · exact fu_ret rfl
  show fu_J _ _ (fc_X d (some .boolean) k_X1_isLaw 98 [am_U, am_U, am_U, am_U, am_U, am_U, am_U, am_U, am_U] [] s)
  refine fu_go 1 (pc' := 99) (ls' := [am_U, am_U, am_U, am_U, am_U, am_U, am_U, am_U, am_U]) (st' := [.int (1 : Int32)]) (s' := s) rfl ?_
  exact fu_bret (b := true) rfl rfl
/-! X1_countLaws -/
theorem el_X1_countLaws_7 (d : Nat) (hd : 5 ≤ d) : ∀ (n : Nat) (s : fu_S) (P0 : Nat) (hP0 : fc_is3 P0) (x2 : Int32) (x3 : Int32) (x4 : Int32) (x5 : Int32), fu_J (l_X1_countLaws_7 n s P0 x2 x3 x4 x5) (fun r => fc_X d (some .int) k_X1_countLaws 42 [am_U, am_U, am_U, am_U, .int r, am_U] [] s) (fc_X d (some .int) k_X1_countLaws 7 [.ref P0, .ref 1, .int x2, .int x3, .int x4, .int x5] [] s) := by
  intro n
  induction n with
  | zero => intros; exact fu_none
  | succ n ih =>
    intro s P0 hP0 x2 x3 x4 x5
    rw [l_X1_countLaws_7]
    refine fu_go 2 (pc' := 11) (ls' := [.ref P0, .ref 1, .int x2, .int x3, .int x4, .int x5]) (st' := [.int (100 : Int32), .int x5]) (s' := s) rfl ?_
    refine fu_ite (fun h1 => fu_step (fu_ic_ge_t rfl h1) ?_) (fun h1 => fu_step (fu_ic_ge_f rfl h1) ?_)
    · refine fu_go 6 (pc' := 22) (ls' := [.ref P0, .ref 1, .int x2, .int x3, .int x4, .int x5]) (st' := [.int x5, .int x3, .int x2, .ref 1, .ref P0, .int x4]) (s' := s) rfl ?_
      refine fu_bind (fu_cSJ rfl rfl rfl rfl rfl rfl (e_X1_isLaw d (by omega) s P0 hP0 x2 x3 x5)) (fun r2 => ?_)
      show fu_J _ _ (fc_X d (some .int) k_X1_countLaws 25 [.ref P0, .ref 1, .int x2, .int x3, .int x4, .int x5] [.int (fu_b r2), .int x4] s)
      refine fu_bind (V := fun j3 : Bool => fc_X d (some .int) k_X1_countLaws 33 [.ref P0, .ref 1, .int x2, .int x3, am_U, .int x5] [.int (fu_b j3), .int x4] s) ?_ (fun j3 => ?_)
      · refine fu_ite (fun h4 => fu_step (fu_ib_eq_t rfl h4) ?_) (fun h4 => fu_step (fu_ib_eq_f rfl h4) ?_)
        · refine fu_go 2 (pc' := 33) (ls' := [.ref P0, .ref 1, .int x2, .int x3, .int x4, .int x5]) (st' := [.int (1 : Int32), .int x4]) (s' := s) rfl ?_
          exact fu_leaf rfl ⟨.inr rfl, .inr rfl, .inr rfl, .inr rfl, .inl rfl, .inr rfl, trivial⟩
        · refine fu_go 1 (pc' := 33) (ls' := [.ref P0, .ref 1, .int x2, .int x3, .int x4, .int x5]) (st' := [.int (0 : Int32), .int x4]) (s' := s) rfl ?_
          exact fu_leaf rfl ⟨.inr rfl, .inr rfl, .inr rfl, .inr rfl, .inl rfl, .inr rfl, trivial⟩
      show fu_J _ _ (fc_X d (some .int) k_X1_countLaws 33 [.ref P0, .ref 1, .int x2, .int x3, am_U, .int x5] [.int (fu_b j3), .int x4] s)
      refine fu_go 4 (pc' := 7) (ls' := [.ref P0, .ref 1, .int x2, .int x3, .int (x4 + (fu_b j3)), .int (x5 + (1 : Int32))]) (st' := []) (s' := s) rfl ?_
      exact fu_drop (ls' := [.ref P0, .ref 1, .int x2, .int x3, .int (x4 + (fu_b j3)), .int (x5 + (1 : Int32))]) ⟨.inr rfl, .inr rfl, .inr rfl, .inr rfl, .inr rfl, .inr rfl, trivial⟩ (ih s P0 hP0 x2 x3 (x4 + (fu_b j3)) (x5 + (1 : Int32)))
    · exact fu_leaf rfl ⟨.inl rfl, .inl rfl, .inl rfl, .inl rfl, .inr rfl, .inl rfl, trivial⟩
set_option maxRecDepth 100000 in
theorem e_X1_countLaws (d : Nat) (hd : 6 ≤ d) (s : fu_S) (P0 : Nat) (hP0 : fc_is3 P0) (a2 : Int32) (a3 : Int32) : fu_J (f_X1_countLaws s P0 a2 a3) (fun r => some (some (.int r), s)) (am_D (fu_ho fc_sh) am_m d 19 [.ref P0, .ref 1, .int a2, .int a3] s) := by
  obtain ⟨d, rfl⟩ : ∃ e, d = e + 1 := ⟨d - 1, by omega⟩
  refine fu_enter (ls := [.ref P0, .ref 1, .int a2, .int a3, am_U, am_U]) am_at_X1_countLaws rfl rfl ?_
  show fu_J _ _ (fc_X d (some .int) k_X1_countLaws 0 [.ref P0, .ref 1, .int a2, .int a3, am_U, am_U] [] s)
  unfold f_X1_countLaws
  refine fu_go 4 (pc' := 7) (ls' := [.ref P0, .ref 1, .int a2, .int a3, .int (0 : Int32), .int (10 : Int32)]) (st' := []) (s' := s) rfl ?_
  refine fu_drop (ls' := [.ref P0, .ref 1, .int a2, .int a3, .int (0 : Int32), .int (10 : Int32)]) ⟨.inr rfl, .inr rfl, .inr rfl, .inr rfl, .inr rfl, .inr rfl, trivial⟩ ?_
  refine fu_bind (el_X1_countLaws_7 d (by omega) fu_N s P0 hP0 a2 a3 (0 : Int32) (10 : Int32)) (fun r5 => ?_)
  show fu_J _ _ (fc_X d (some .int) k_X1_countLaws 42 [am_U, am_U, am_U, am_U, .int r5, am_U] [] s)
  refine fu_go 1 (pc' := 44) (ls' := [am_U, am_U, am_U, am_U, .int r5, am_U]) (st' := [.int r5]) (s' := s) rfl ?_
  exact fu_iret rfl rfl
/-! X1_firstLaw -/
theorem el_X1_firstLaw_4 (d : Nat) (hd : 5 ≤ d) : ∀ (n : Nat) (s : fu_S) (P0 : Nat) (hP0 : fc_is3 P0) (x2 : Int32) (x3 : Int32) (x4 : Int32), fu_J (l_X1_firstLaw_4 n s P0 x2 x3 x4) (fun u => Sum.elim (fun r => some (some (.int r), s)) (fun r => fc_X d (some .int) k_X1_firstLaw 32 [am_U, am_U, am_U, am_U, am_U] [] s) u) (fc_X d (some .int) k_X1_firstLaw 4 [.ref P0, .ref 1, .int x2, .int x3, .int x4] [] s) := by
  intro n
  induction n with
  | zero => intros; exact fu_none
  | succ n ih =>
    intro s P0 hP0 x2 x3 x4
    rw [l_X1_firstLaw_4]
    refine fu_go 2 (pc' := 8) (ls' := [.ref P0, .ref 1, .int x2, .int x3, .int x4]) (st' := [.int (100 : Int32), .int x4]) (s' := s) rfl ?_
    refine fu_ite (fun h1 => fu_step (fu_ic_ge_t rfl h1) ?_) (fun h1 => fu_step (fu_ic_ge_f rfl h1) ?_)
    · refine fu_go 5 (pc' := 17) (ls' := [.ref P0, .ref 1, .int x2, .int x3, .int x4]) (st' := [.int x4, .int x3, .int x2, .ref 1, .ref P0]) (s' := s) rfl ?_
      refine fu_bind (fu_cSJ rfl rfl rfl rfl rfl rfl (e_X1_isLaw d (by omega) s P0 hP0 x2 x3 x4)) (fun r2 => ?_)
      show fu_J _ _ (fc_X d (some .int) k_X1_firstLaw 20 [.ref P0, .ref 1, .int x2, .int x3, .int x4] [.int (fu_b r2)] s)
      refine fu_ite (fun h3 => fu_step (fu_ib_eq_t rfl h3) ?_) (fun h3 => fu_step (fu_ib_eq_f rfl h3) ?_)
      · refine fu_go 1 (pc' := 25) (ls' := [.ref P0, .ref 1, .int x2, .int x3, .int x4]) (st' := [.int x4]) (s' := s) rfl ?_
        exact fu_iret rfl rfl
      · refine fu_go 2 (pc' := 4) (ls' := [.ref P0, .ref 1, .int x2, .int x3, .int (x4 + (1 : Int32))]) (st' := []) (s' := s) rfl ?_
        exact fu_drop (ls' := [.ref P0, .ref 1, .int x2, .int x3, .int (x4 + (1 : Int32))]) ⟨.inr rfl, .inr rfl, .inr rfl, .inr rfl, .inr rfl, trivial⟩ (ih s P0 hP0 x2 x3 (x4 + (1 : Int32)))
    · exact fu_leaf rfl ⟨.inl rfl, .inl rfl, .inl rfl, .inl rfl, .inl rfl, trivial⟩
set_option maxRecDepth 100000 in
theorem e_X1_firstLaw (d : Nat) (hd : 6 ≤ d) (s : fu_S) (P0 : Nat) (hP0 : fc_is3 P0) (a2 : Int32) (a3 : Int32) : fu_J (f_X1_firstLaw s P0 a2 a3) (fun r => some (some (.int r), s)) (am_D (fu_ho fc_sh) am_m d 20 [.ref P0, .ref 1, .int a2, .int a3] s) := by
  obtain ⟨d, rfl⟩ : ∃ e, d = e + 1 := ⟨d - 1, by omega⟩
  refine fu_enter (ls := [.ref P0, .ref 1, .int a2, .int a3, am_U]) am_at_X1_firstLaw rfl rfl ?_
  show fu_J _ _ (fc_X d (some .int) k_X1_firstLaw 0 [.ref P0, .ref 1, .int a2, .int a3, am_U] [] s)
  unfold f_X1_firstLaw
  refine fu_go 2 (pc' := 4) (ls' := [.ref P0, .ref 1, .int a2, .int a3, .int (10 : Int32)]) (st' := []) (s' := s) rfl ?_
  refine fu_drop (ls' := [.ref P0, .ref 1, .int a2, .int a3, .int (10 : Int32)]) ⟨.inr rfl, .inr rfl, .inr rfl, .inr rfl, .inr rfl, trivial⟩ ?_
  refine fu_bind (el_X1_firstLaw_4 d (by omega) fu_N s P0 hP0 a2 a3 (10 : Int32)) (fun u => fu_sum (fun a => ?_) (fun r4 => ?_))
  · exact fu_ret rfl
  show fu_J _ _ (fc_X d (some .int) k_X1_firstLaw 32 [am_U, am_U, am_U, am_U, am_U] [] s)
  refine fu_go 1 (pc' := 33) (ls' := [am_U, am_U, am_U, am_U, am_U]) (st' := [.int (-1 : Int32)]) (s' := s) rfl ?_
  exact fu_iret rfl rfl
/-! X4_clear -/
set_option maxRecDepth 100000 in
theorem e_X4_clear (d : Nat) (hd : 1 ≤ d) (s : fu_S) (P0 : Nat) (hP0 : fc_is3 P0) : fu_J (some (f_X4_clear s P0)) (fun r => some (none, r)) (am_D (fu_ho fc_sh) am_m d 42 [.ref P0] s) := by
  obtain ⟨d, rfl⟩ : ∃ e, d = e + 1 := ⟨d - 1, by omega⟩
  refine fu_enter (ls := [.ref P0]) am_at_X4_clear rfl rfl ?_
  show fu_J _ _ (fc_X d none k_X4_clear 0 [.ref P0] [] s)
  unfold f_X4_clear
  refine fu_go 2 (pc' := 2) (ls' := [.ref P0]) (st' := [.int (4 : Int32), .ref P0]) (s' := s) rfl ?_
  refine fu_letsS (b := (fu_pi s P0 0 (4 : Int32))) (fu_putI rfl hP0.1 rfl rfl) (fun s1 => ?_)
  refine fu_go 2 (pc' := 7) (ls' := [.ref P0]) (st' := [.int (5 : Int32), .ref P0]) (s' := s1) rfl ?_
  refine fu_letsS (b := (fu_pi s1 P0 1 (5 : Int32))) (fu_putI rfl hP0.1 rfl rfl) (fun s2 => ?_)
  refine fu_go 2 (pc' := 12) (ls' := [.ref P0]) (st' := [.int (0 : Int32), .ref P0]) (s' := s2) rfl ?_
  refine fu_letsS (b := (fu_pi s2 P0 2 (0 : Int32))) (fu_putI rfl hP0.1 rfl rfl) (fun s3 => ?_)
  refine fu_go 2 (pc' := 17) (ls' := [.ref P0]) (st' := [.int (0 : Int32), .ref P0]) (s' := s3) rfl ?_
  refine fu_letsS (b := (fu_pi s3 P0 3 (0 : Int32))) (fu_putI rfl hP0.1 rfl rfl) (fun s4 => ?_)
  refine fu_go 2 (pc' := 22) (ls' := [.ref P0]) (st' := [.int (0 : Int32), .ref P0]) (s' := s4) rfl ?_
  refine fu_letsS (b := (fu_pi s4 P0 4 (0 : Int32))) (fu_putI rfl hP0.1 rfl rfl) (fun s5 => ?_)
  refine fu_go 2 (pc' := 27) (ls' := [.ref P0]) (st' := [.int (0 : Int32), .ref P0]) (s' := s5) rfl ?_
  refine fu_letsS (b := (fu_pi s5 P0 5 (0 : Int32))) (fu_putI rfl hP0.1 rfl rfl) (fun s6 => ?_)
  exact fu_vret rfl rfl
/-! X8_sortHere -/
set_option maxRecDepth 100000 in
theorem e_X8_sortHere (d : Nat) (hd : 1 ≤ d) (s : fu_S) : fu_J (f_X8_sortHere s) (fun r => some (some (.int r), s)) (am_D (fu_ho fc_sh) am_m d 154 [.ref 5] s) := by
  obtain ⟨d, rfl⟩ : ∃ e, d = e + 1 := ⟨d - 1, by omega⟩
  refine fu_enter (ls := [.ref 5]) am_at_X8_sortHere rfl rfl ?_
  show fu_J _ _ (fc_X d (some .int) k_X8_sortHere 0 [.ref 5] [] s)
  unfold f_X8_sortHere
  refine fu_go 1 (pc' := 1) (ls' := [.ref 5]) (st' := [.ref 5]) (s' := s) rfl ?_
  refine fu_step (fu_getI rfl fc_5 rfl rfl) ?_
  refine fu_bind (V := fun j1 : Int32 => fc_X d (some .int) k_X8_sortHere 31 [am_U] [.int j1] s) ?_ (fun j1 => ?_)
  · refine fu_ite (fun h2 => fu_step (fu_if_lt_t rfl h2) ?_) (fun h2 => fu_step (fu_if_lt_f rfl h2) ?_)
    · refine fu_go 1 (pc' := 31) (ls' := [.ref 5]) (st' := [.int (0 : Int32)]) (s' := s) rfl ?_
      exact fu_leaf rfl ⟨.inl rfl, trivial⟩
    · refine fu_go 1 (pc' := 8) (ls' := [.ref 5]) (st' := [.ref 5]) (s' := s) rfl ?_
      refine fu_step (fu_getI rfl fc_5 rfl rfl) ?_
      refine fu_go 1 (pc' := 12) (ls' := [.ref 5]) (st' := [.ref 5, .int (s.1 5 7)]) (s' := s) rfl ?_
      refine fu_step (fu_getI rfl fc_5 rfl rfl) ?_
      refine fu_ite (fun h3 => fu_step (fu_ic_ge_t rfl h3) ?_) (fun h3 => fu_step (fu_ic_ge_f rfl h3) ?_)
      · refine fu_go 1 (pc' := 19) (ls' := [.ref 5]) (st' := [.ref 5]) (s' := s) rfl ?_
        refine fu_step (fu_getR rfl fc_5 rfl rfl) ?_
        refine fu_go 1 (pc' := 23) (ls' := [.ref 5]) (st' := [.ref 5, .ref 8]) (s' := s) rfl ?_
        refine fu_step (fu_getI rfl fc_5 rfl rfl) ?_
        refine fu_guard (fun h4 => fu_step (fu_ldI rfl fc_8 h4) ?_)
        refine fu_go 1 (pc' := 31) (ls' := [.ref 5]) (st' := [.int (s.1 8 (Int32.toNatClampNeg (s.1 5 7)))]) (s' := s) rfl ?_
        exact fu_leaf rfl ⟨.inl rfl, trivial⟩
      · refine fu_go 1 (pc' := 31) (ls' := [.ref 5]) (st' := [.int (0 : Int32)]) (s' := s) rfl ?_
        exact fu_leaf rfl ⟨.inl rfl, trivial⟩
  show fu_J _ _ (fc_X d (some .int) k_X8_sortHere 31 [am_U] [.int j1] s)
  exact fu_iret rfl rfl
/-! X8_isAtEnd -/
set_option maxRecDepth 100000 in
theorem e_X8_isAtEnd (d : Nat) (hd : 2 ≤ d) (s : fu_S) : fu_J (f_X8_isAtEnd s) (fun r => some (some (.int (fu_b r)), s)) (am_D (fu_ho fc_sh) am_m d 157 [.ref 5] s) := by
  obtain ⟨d, rfl⟩ : ∃ e, d = e + 1 := ⟨d - 1, by omega⟩
  refine fu_enter (ls := [.ref 5]) am_at_X8_isAtEnd rfl rfl ?_
  show fu_J _ _ (fc_X d (some .boolean) k_X8_isAtEnd 0 [.ref 5] [] s)
  unfold f_X8_isAtEnd
  refine fu_go 1 (pc' := 1) (ls' := [.ref 5]) (st' := [.ref 5]) (s' := s) rfl ?_
  refine fu_bind (fu_cVJ rfl rfl rfl rfl rfl (fu_recv fc_5 am_at_X8_sortHere rfl) (e_X8_sortHere d (by omega) s)) (fun r1 => ?_)
  show fu_J _ _ (fc_X d (some .boolean) k_X8_isAtEnd 4 [.ref 5] [.int r1] s)
  refine fu_bind (V := fun j2 : Bool => fc_X d (some .boolean) k_X8_isAtEnd 12 [am_U] [.int (fu_b j2)] s) ?_ (fun j2 => ?_)
  · refine fu_ite (fun h3 => fu_step (fu_if_ne_t rfl h3) ?_) (fun h3 => fu_step (fu_if_ne_f rfl h3) ?_)
    · refine fu_go 2 (pc' := 12) (ls' := [.ref 5]) (st' := [.int (1 : Int32)]) (s' := s) rfl ?_
      exact fu_leaf rfl ⟨.inl rfl, trivial⟩
    · refine fu_go 1 (pc' := 12) (ls' := [.ref 5]) (st' := [.int (0 : Int32)]) (s' := s) rfl ?_
      exact fu_leaf rfl ⟨.inl rfl, trivial⟩
  show fu_J _ _ (fc_X d (some .boolean) k_X8_isAtEnd 12 [am_U] [.int (fu_b j2)] s)
  exact fu_bret (b := j2) rfl rfl
/-! X8_refuse -/
set_option maxRecDepth 100000 in
theorem e_X8_refuse (d : Nat) (hd : 2 ≤ d) (s : fu_S) (a1 : Int32) : fu_J (f_X8_refuse s a1) (fun r => some (some (.int (fu_b r.1)), r.2)) (am_D (fu_ho fc_sh) am_m d 162 [.ref 5, .int a1] s) := by
  obtain ⟨d, rfl⟩ : ∃ e, d = e + 1 := ⟨d - 1, by omega⟩
  refine fu_enter (ls := [.ref 5, .int a1]) am_at_X8_refuse rfl rfl ?_
  show fu_J _ _ (fc_X d (some .boolean) k_X8_refuse 0 [.ref 5, .int a1] [] s)
  unfold f_X8_refuse
  refine fu_go 2 (pc' := 2) (ls' := [.ref 5, .int a1]) (st' := [.ref 5, .ref 5]) (s' := s) rfl ?_
  refine fu_bind (fu_cVJ rfl rfl rfl rfl rfl (fu_recv fc_5 am_at_X8_sortHere rfl) (e_X8_sortHere d (by omega) s)) (fun r1 => ?_)
  show fu_J _ _ (fc_X d (some .boolean) k_X8_refuse 5 [.ref 5, .int a1] [.int r1, .ref 5] s)
  refine fu_go 1 (pc' := 6) (ls' := [.ref 5, .int a1]) (st' := [.int (1 : Int32), .int r1, .ref 5]) (s' := s) rfl ?_
  refine fu_bind (V := fun j2 : Int32 => fc_X d (some .boolean) k_X8_refuse 14 [.ref 5, am_U] [.int j2, .ref 5] s) ?_ (fun j2 => ?_)
  · refine fu_ite (fun h3 => fu_step (fu_ic_ne_t rfl h3) ?_) (fun h3 => fu_step (fu_ic_ne_f rfl h3) ?_)
    · refine fu_go 2 (pc' := 14) (ls' := [.ref 5, .int a1]) (st' := [.int (1 : Int32), .ref 5]) (s' := s) rfl ?_
      exact fu_leaf rfl ⟨.inr rfl, .inl rfl, trivial⟩
    · refine fu_go 1 (pc' := 14) (ls' := [.ref 5, .int a1]) (st' := [.int a1, .ref 5]) (s' := s) rfl ?_
      exact fu_leaf rfl ⟨.inr rfl, .inl rfl, trivial⟩
  show fu_J _ _ (fc_X d (some .boolean) k_X8_refuse 14 [.ref 5, am_U] [.int j2, .ref 5] s)
  refine fu_lets (b := (fu_pi s 5 8 j2)) (fu_putI rfl fc_5 rfl rfl) (fun s4 => ?_)
  refine fu_go 2 (pc' := 19) (ls' := [.ref 5, am_U]) (st' := [.ref 5, .ref 5]) (s' := s4) rfl ?_
  refine fu_step (fu_getI rfl fc_5 rfl rfl) ?_
  refine fu_bind (V := fun j5 : Int32 => fc_X d (some .boolean) k_X8_refuse 49 [am_U, am_U] [.int j5, .ref 5] s4) ?_ (fun j5 => ?_)
  · refine fu_ite (fun h6 => fu_step (fu_if_lt_t rfl h6) ?_) (fun h6 => fu_step (fu_if_lt_f rfl h6) ?_)
    · refine fu_go 1 (pc' := 49) (ls' := [.ref 5, am_U]) (st' := [.int (0 : Int32), .ref 5]) (s' := s4) rfl ?_
      exact fu_leaf rfl ⟨.inl rfl, .inl rfl, trivial⟩
    · refine fu_go 1 (pc' := 26) (ls' := [.ref 5, am_U]) (st' := [.ref 5, .ref 5]) (s' := s4) rfl ?_
      refine fu_step (fu_getI rfl fc_5 rfl rfl) ?_
      refine fu_go 1 (pc' := 30) (ls' := [.ref 5, am_U]) (st' := [.ref 5, .int (s4.1 5 7), .ref 5]) (s' := s4) rfl ?_
      refine fu_step (fu_getI rfl fc_5 rfl rfl) ?_
      refine fu_ite (fun h7 => fu_step (fu_ic_ge_t rfl h7) ?_) (fun h7 => fu_step (fu_ic_ge_f rfl h7) ?_)
      · refine fu_go 1 (pc' := 37) (ls' := [.ref 5, am_U]) (st' := [.ref 5, .ref 5]) (s' := s4) rfl ?_
        refine fu_step (fu_getR rfl fc_5 rfl rfl) ?_
        refine fu_go 1 (pc' := 41) (ls' := [.ref 5, am_U]) (st' := [.ref 5, .ref 9, .ref 5]) (s' := s4) rfl ?_
        refine fu_step (fu_getI rfl fc_5 rfl rfl) ?_
        refine fu_guard (fun h8 => fu_step (fu_ldI rfl fc_9 h8) ?_)
        refine fu_go 1 (pc' := 49) (ls' := [.ref 5, am_U]) (st' := [.int (s4.1 9 (Int32.toNatClampNeg (s4.1 5 7))), .ref 5]) (s' := s4) rfl ?_
        exact fu_leaf rfl ⟨.inl rfl, .inl rfl, trivial⟩
      · refine fu_go 1 (pc' := 49) (ls' := [.ref 5, am_U]) (st' := [.int (0 : Int32), .ref 5]) (s' := s4) rfl ?_
        exact fu_leaf rfl ⟨.inl rfl, .inl rfl, trivial⟩
  show fu_J _ _ (fc_X d (some .boolean) k_X8_refuse 49 [am_U, am_U] [.int j5, .ref 5] s4)
  refine fu_lets (b := (fu_pi s4 5 9 j5)) (fu_putI rfl fc_5 rfl rfl) (fun s9 => ?_)
  refine fu_go 1 (pc' := 53) (ls' := [am_U, am_U]) (st' := [.int (0 : Int32)]) (s' := s9) rfl ?_
  exact fu_bret (b := false) rfl rfl
/-! X8_next -/
set_option maxRecDepth 100000 in
theorem e_X8_next (d : Nat) (hd : 1 ≤ d) (s : fu_S) : fu_J (some (f_X8_next s)) (fun r => some (none, r)) (am_D (fu_ho fc_sh) am_m d 156 [.ref 5] s) := by
  obtain ⟨d, rfl⟩ : ∃ e, d = e + 1 := ⟨d - 1, by omega⟩
  refine fu_enter (ls := [.ref 5]) am_at_X8_next rfl rfl ?_
  show fu_J _ _ (fc_X d none k_X8_next 0 [.ref 5] [] s)
  unfold f_X8_next
  refine fu_go 1 (pc' := 1) (ls' := [.ref 5]) (st' := [.ref 5]) (s' := s) rfl ?_
  refine fu_step (fu_getI rfl fc_5 rfl rfl) ?_
  refine fu_go 1 (pc' := 5) (ls' := [.ref 5]) (st' := [.ref 5, .int (s.1 5 7)]) (s' := s) rfl ?_
  refine fu_step (fu_getI rfl fc_5 rfl rfl) ?_
  refine fu_go 2 (pc' := 10) (ls' := [.ref 5]) (st' := [.int ((s.1 5 6) - (1 : Int32)), .int (s.1 5 7)]) (s' := s) rfl ?_
  refine fu_letS (V := fun j1 : fu_S => fc_X d none k_X8_next 23 [am_U] [] j1) ?_ (fun j1 => ?_)
  · refine fu_iteS (fun h2 => fu_step (fu_ic_ge_t rfl h2) ?_) (fun h2 => fu_step (fu_ic_ge_f rfl h2) ?_)
    · refine fu_go 2 (pc' := 15) (ls' := [.ref 5]) (st' := [.ref 5, .ref 5]) (s' := s) rfl ?_
      refine fu_step (fu_getI rfl fc_5 rfl rfl) ?_
      refine fu_go 2 (pc' := 20) (ls' := [.ref 5]) (st' := [.int ((s.1 5 7) + (1 : Int32)), .ref 5]) (s' := s) rfl ?_
      refine fu_letsS (b := (fu_pi s 5 7 ((s.1 5 7) + (1 : Int32)))) (fu_putI rfl fc_5 rfl rfl) (fun s3 => ?_)
      exact fu_leaf rfl ⟨.inl rfl, trivial⟩
    · exact fu_leaf rfl ⟨.inl rfl, trivial⟩
  show fu_J _ _ (fc_X d none k_X8_next 23 [am_U] [] j1)
  exact fu_vret rfl rfl
/-! X8_valueHere -/
set_option maxRecDepth 100000 in
theorem e_X8_valueHere (d : Nat) (hd : 1 ≤ d) (s : fu_S) : fu_J (f_X8_valueHere s) (fun r => some (some (.long r), s)) (am_D (fu_ho fc_sh) am_m d 155 [.ref 5] s) := by
  obtain ⟨d, rfl⟩ : ∃ e, d = e + 1 := ⟨d - 1, by omega⟩
  refine fu_enter (ls := [.ref 5]) am_at_X8_valueHere rfl rfl ?_
  show fu_J _ _ (fc_X d (some .long) k_X8_valueHere 0 [.ref 5] [] s)
  unfold f_X8_valueHere
  refine fu_go 1 (pc' := 1) (ls' := [.ref 5]) (st' := [.ref 5]) (s' := s) rfl ?_
  refine fu_step (fu_getI rfl fc_5 rfl rfl) ?_
  refine fu_bind (V := fun j1 : Int64 => fc_X d (some .long) k_X8_valueHere 31 [am_U] [.long j1] s) ?_ (fun j1 => ?_)
  · refine fu_ite (fun h2 => fu_step (fu_if_lt_t rfl h2) ?_) (fun h2 => fu_step (fu_if_lt_f rfl h2) ?_)
    · refine fu_go 1 (pc' := 31) (ls' := [.ref 5]) (st' := [.long (0 : Int64)]) (s' := s) rfl ?_
      exact fu_leaf rfl ⟨.inl rfl, trivial⟩
    · refine fu_go 1 (pc' := 8) (ls' := [.ref 5]) (st' := [.ref 5]) (s' := s) rfl ?_
      refine fu_step (fu_getI rfl fc_5 rfl rfl) ?_
      refine fu_go 1 (pc' := 12) (ls' := [.ref 5]) (st' := [.ref 5, .int (s.1 5 7)]) (s' := s) rfl ?_
      refine fu_step (fu_getI rfl fc_5 rfl rfl) ?_
      refine fu_ite (fun h3 => fu_step (fu_ic_ge_t rfl h3) ?_) (fun h3 => fu_step (fu_ic_ge_f rfl h3) ?_)
      · refine fu_go 1 (pc' := 19) (ls' := [.ref 5]) (st' := [.ref 5]) (s' := s) rfl ?_
        refine fu_step (fu_getR rfl fc_5 rfl rfl) ?_
        refine fu_go 1 (pc' := 23) (ls' := [.ref 5]) (st' := [.ref 5, .ref 10]) (s' := s) rfl ?_
        refine fu_step (fu_getI rfl fc_5 rfl rfl) ?_
        refine fu_guard (fun h4 => fu_step (fu_ldL rfl fc_10 h4) ?_)
        refine fu_go 1 (pc' := 31) (ls' := [.ref 5]) (st' := [.long (s.2 10 (Int32.toNatClampNeg (s.1 5 7)))]) (s' := s) rfl ?_
        exact fu_leaf rfl ⟨.inl rfl, trivial⟩
      · refine fu_go 1 (pc' := 31) (ls' := [.ref 5]) (st' := [.long (0 : Int64)]) (s' := s) rfl ?_
        exact fu_leaf rfl ⟨.inl rfl, trivial⟩
  show fu_J _ _ (fc_X d (some .long) k_X8_valueHere 31 [am_U] [.long j1] s)
  exact fu_lret rfl rfl
/-! X8_takeNumber -/
set_option maxRecDepth 100000 in
theorem e_X8_takeNumber (d : Nat) (hd : 3 ≤ d) (s : fu_S) (a1 : Int32) (a2 : Int32) : fu_J (f_X8_takeNumber s a1 a2) (fun r => some (some (.int r.1), r.2)) (am_D (fu_ho fc_sh) am_m d 164 [.ref 5, .int a1, .int a2] s) := by
  obtain ⟨d, rfl⟩ : ∃ e, d = e + 1 := ⟨d - 1, by omega⟩
  refine fu_enter (ls := [.ref 5, .int a1, .int a2, am_U, am_U]) am_at_X8_takeNumber rfl rfl ?_
  show fu_J _ _ (fc_X d (some .int) k_X8_takeNumber 0 [.ref 5, .int a1, .int a2, am_U, am_U] [] s)
  unfold f_X8_takeNumber
  refine fu_go 1 (pc' := 1) (ls' := [.ref 5, .int a1, .int a2, am_U, am_U]) (st' := [.ref 5]) (s' := s) rfl ?_
  refine fu_bind (fu_cVJ rfl rfl rfl rfl rfl (fu_recv fc_5 am_at_X8_valueHere rfl) (e_X8_valueHere d (by omega) s)) (fun r1 => ?_)
  show fu_J _ _ (fc_X d (some .int) k_X8_takeNumber 4 [.ref 5, .int a1, .int a2, am_U, am_U] [.long r1] s)
  refine fu_go 2 (pc' := 6) (ls' := [.ref 5, .int a1, .int a2, .long r1, am_U]) (st' := [.ref 5]) (s' := s) rfl ?_
  refine fu_bind (fu_cVJ rfl rfl rfl rfl rfl (fu_recv fc_5 am_at_X8_sortHere rfl) (e_X8_sortHere d (by omega) s)) (fun r2 => ?_)
  show fu_J _ _ (fc_X d (some .int) k_X8_takeNumber 9 [.ref 5, .int a1, .int a2, .long r1, am_U] [.int r2] s)
  refine fu_go 1 (pc' := 10) (ls' := [.ref 5, .int a1, .int a2, .long r1, am_U]) (st' := [.int (2 : Int32), .int r2]) (s' := s) rfl ?_
  refine fu_ite (fun h3 => fu_step (fu_ic_ne_t rfl h3) ?_) (fun h3 => fu_step (fu_ic_ne_f rfl h3) ?_)
  · refine fu_go 3 (pc' := 16) (ls' := [.ref 5, .int a1, .int a2, .long r1, am_U]) (st' := [.long (Int32.toInt64 a1), .long r1]) (s' := s) rfl ?_
    refine fu_ite (fun h4 => fu_step (fu_lc_lt_t rfl rfl h4) ?_) (fun h4 => fu_step (fu_lc_lt_f rfl rfl h4) ?_)
    · refine fu_go 2 (pc' := 29) (ls' := [.ref 5, .int a1, .int a2, .long r1, am_U]) (st' := [.ref 5, .ref 5]) (s' := s) rfl ?_
      refine fu_bind (fu_cVJ rfl rfl rfl rfl rfl (fu_recv fc_5 am_at_X8_sortHere rfl) (e_X8_sortHere d (by omega) s)) (fun r5 => ?_)
      show fu_J _ _ (fc_X d (some .int) k_X8_takeNumber 32 [.ref 5, .int a1, .int a2, .long r1, am_U] [.int r5, .ref 5] s)
      refine fu_go 1 (pc' := 33) (ls' := [.ref 5, .int a1, .int a2, .long r1, am_U]) (st' := [.int (2 : Int32), .int r5, .ref 5]) (s' := s) rfl ?_
      refine fu_bind (V := fun j6 : Int32 => fc_X d (some .int) k_X8_takeNumber 41 [am_U, am_U, am_U, am_U, am_U] [.int j6, .ref 5] s) ?_ (fun j6 => ?_)
      · refine fu_ite (fun h7 => fu_step (fu_ic_ne_t rfl h7) ?_) (fun h7 => fu_step (fu_ic_ne_f rfl h7) ?_)
        · refine fu_go 2 (pc' := 41) (ls' := [.ref 5, .int a1, .int a2, .long r1, am_U]) (st' := [.int (4 : Int32), .ref 5]) (s' := s) rfl ?_
          exact fu_leaf rfl ⟨.inl rfl, .inl rfl, .inl rfl, .inl rfl, .inl rfl, trivial⟩
        · refine fu_go 1 (pc' := 41) (ls' := [.ref 5, .int a1, .int a2, .long r1, am_U]) (st' := [.int (2 : Int32), .ref 5]) (s' := s) rfl ?_
          exact fu_leaf rfl ⟨.inl rfl, .inl rfl, .inl rfl, .inl rfl, .inl rfl, trivial⟩
      show fu_J _ _ (fc_X d (some .int) k_X8_takeNumber 41 [am_U, am_U, am_U, am_U, am_U] [.int j6, .ref 5] s)
      refine fu_bind (fu_cVJ rfl rfl rfl rfl rfl (fu_recv fc_5 am_at_X8_refuse rfl) (e_X8_refuse d (by omega) s j6)) (fun r8 => ?_)
      show fu_J _ _ (fc_X d (some .int) k_X8_takeNumber 44 [am_U, am_U, am_U, am_U, am_U] [.int (fu_b r8.1)] r8.2)
      refine fu_go 2 (pc' := 46) (ls' := [am_U, am_U, am_U, am_U, am_U]) (st' := [.int (-1 : Int32)]) (s' := r8.2) rfl ?_
      exact fu_iret rfl rfl
    · refine fu_go 3 (pc' := 23) (ls' := [.ref 5, .int a1, .int a2, .long r1, am_U]) (st' := [.long (Int32.toInt64 a2), .long r1]) (s' := s) rfl ?_
      refine fu_ite (fun h9 => fu_step (fu_lc_le_t rfl rfl h9) ?_) (fun h9 => fu_step (fu_lc_le_f rfl rfl h9) ?_)
      · refine fu_go 1 (pc' := 48) (ls' := [.ref 5, .int a1, .int a2, .long r1, am_U]) (st' := [.ref 5]) (s' := s) rfl ?_
        refine fu_let (fu_cVJ rfl rfl rfl rfl rfl (fu_recv fc_5 am_at_X8_next rfl) (e_X8_next d (by omega) s)) (fun r10 => ?_)
        show fu_J _ _ (fc_X d (some .int) k_X8_takeNumber 51 [.ref 5, .int a1, .int a2, .long r1, am_U] [] r10)
        refine fu_go 2 (pc' := 53) (ls' := [.ref 5, .int a1, .int a2, .long r1, am_U]) (st' := [.int (Int64.toInt32 r1)]) (s' := r10) rfl ?_
        exact fu_iret rfl rfl
      · refine fu_go 2 (pc' := 29) (ls' := [.ref 5, .int a1, .int a2, .long r1, am_U]) (st' := [.ref 5, .ref 5]) (s' := s) rfl ?_
        refine fu_bind (fu_cVJ rfl rfl rfl rfl rfl (fu_recv fc_5 am_at_X8_sortHere rfl) (e_X8_sortHere d (by omega) s)) (fun r11 => ?_)
        show fu_J _ _ (fc_X d (some .int) k_X8_takeNumber 32 [.ref 5, .int a1, .int a2, .long r1, am_U] [.int r11, .ref 5] s)
        refine fu_go 1 (pc' := 33) (ls' := [.ref 5, .int a1, .int a2, .long r1, am_U]) (st' := [.int (2 : Int32), .int r11, .ref 5]) (s' := s) rfl ?_
        refine fu_bind (V := fun j12 : Int32 => fc_X d (some .int) k_X8_takeNumber 41 [am_U, am_U, am_U, am_U, am_U] [.int j12, .ref 5] s) ?_ (fun j12 => ?_)
        · refine fu_ite (fun h13 => fu_step (fu_ic_ne_t rfl h13) ?_) (fun h13 => fu_step (fu_ic_ne_f rfl h13) ?_)
          · refine fu_go 2 (pc' := 41) (ls' := [.ref 5, .int a1, .int a2, .long r1, am_U]) (st' := [.int (4 : Int32), .ref 5]) (s' := s) rfl ?_
            exact fu_leaf rfl ⟨.inl rfl, .inl rfl, .inl rfl, .inl rfl, .inl rfl, trivial⟩
          · refine fu_go 1 (pc' := 41) (ls' := [.ref 5, .int a1, .int a2, .long r1, am_U]) (st' := [.int (2 : Int32), .ref 5]) (s' := s) rfl ?_
            exact fu_leaf rfl ⟨.inl rfl, .inl rfl, .inl rfl, .inl rfl, .inl rfl, trivial⟩
        show fu_J _ _ (fc_X d (some .int) k_X8_takeNumber 41 [am_U, am_U, am_U, am_U, am_U] [.int j12, .ref 5] s)
        refine fu_bind (fu_cVJ rfl rfl rfl rfl rfl (fu_recv fc_5 am_at_X8_refuse rfl) (e_X8_refuse d (by omega) s j12)) (fun r14 => ?_)
        show fu_J _ _ (fc_X d (some .int) k_X8_takeNumber 44 [am_U, am_U, am_U, am_U, am_U] [.int (fu_b r14.1)] r14.2)
        refine fu_go 2 (pc' := 46) (ls' := [am_U, am_U, am_U, am_U, am_U]) (st' := [.int (-1 : Int32)]) (s' := r14.2) rfl ?_
        exact fu_iret rfl rfl
  · refine fu_go 2 (pc' := 29) (ls' := [.ref 5, .int a1, .int a2, .long r1, am_U]) (st' := [.ref 5, .ref 5]) (s' := s) rfl ?_
    refine fu_bind (fu_cVJ rfl rfl rfl rfl rfl (fu_recv fc_5 am_at_X8_sortHere rfl) (e_X8_sortHere d (by omega) s)) (fun r15 => ?_)
    show fu_J _ _ (fc_X d (some .int) k_X8_takeNumber 32 [.ref 5, .int a1, .int a2, .long r1, am_U] [.int r15, .ref 5] s)
    refine fu_go 1 (pc' := 33) (ls' := [.ref 5, .int a1, .int a2, .long r1, am_U]) (st' := [.int (2 : Int32), .int r15, .ref 5]) (s' := s) rfl ?_
    refine fu_bind (V := fun j16 : Int32 => fc_X d (some .int) k_X8_takeNumber 41 [am_U, am_U, am_U, am_U, am_U] [.int j16, .ref 5] s) ?_ (fun j16 => ?_)
    · refine fu_ite (fun h17 => fu_step (fu_ic_ne_t rfl h17) ?_) (fun h17 => fu_step (fu_ic_ne_f rfl h17) ?_)
      · refine fu_go 2 (pc' := 41) (ls' := [.ref 5, .int a1, .int a2, .long r1, am_U]) (st' := [.int (4 : Int32), .ref 5]) (s' := s) rfl ?_
        exact fu_leaf rfl ⟨.inl rfl, .inl rfl, .inl rfl, .inl rfl, .inl rfl, trivial⟩
      · refine fu_go 1 (pc' := 41) (ls' := [.ref 5, .int a1, .int a2, .long r1, am_U]) (st' := [.int (2 : Int32), .ref 5]) (s' := s) rfl ?_
        exact fu_leaf rfl ⟨.inl rfl, .inl rfl, .inl rfl, .inl rfl, .inl rfl, trivial⟩
    show fu_J _ _ (fc_X d (some .int) k_X8_takeNumber 41 [am_U, am_U, am_U, am_U, am_U] [.int j16, .ref 5] s)
    refine fu_bind (fu_cVJ rfl rfl rfl rfl rfl (fu_recv fc_5 am_at_X8_refuse rfl) (e_X8_refuse d (by omega) s j16)) (fun r18 => ?_)
    show fu_J _ _ (fc_X d (some .int) k_X8_takeNumber 44 [am_U, am_U, am_U, am_U, am_U] [.int (fu_b r18.1)] r18.2)
    refine fu_go 2 (pc' := 46) (ls' := [am_U, am_U, am_U, am_U, am_U]) (st' := [.int (-1 : Int32)]) (s' := r18.2) rfl ?_
    exact fu_iret rfl rfl
/-! X4_setOdds -/
set_option maxRecDepth 100000 in
theorem e_X4_setOdds (d : Nat) (hd : 1 ≤ d) (s : fu_S) (P0 : Nat) (hP0 : fc_is3 P0) (a1 : Int32) : fu_J (some (f_X4_setOdds s P0 a1)) (fun r => some (none, r)) (am_D (fu_ho fc_sh) am_m d 50 [.ref P0, .int a1] s) := by
  obtain ⟨d, rfl⟩ : ∃ e, d = e + 1 := ⟨d - 1, by omega⟩
  refine fu_enter (ls := [.ref P0, .int a1]) am_at_X4_setOdds rfl rfl ?_
  show fu_J _ _ (fc_X d none k_X4_setOdds 0 [.ref P0, .int a1] [] s)
  unfold f_X4_setOdds
  refine fu_go 2 (pc' := 2) (ls' := [.ref P0, .int a1]) (st' := [.int a1, .ref P0]) (s' := s) rfl ?_
  refine fu_letsS (b := (fu_pi s P0 0 a1)) (fu_putI rfl hP0.1 rfl rfl) (fun s1 => ?_)
  exact fu_vret rfl rfl
/-! X4_setArm -/
set_option maxRecDepth 100000 in
theorem e_X4_setArm (d : Nat) (hd : 1 ≤ d) (s : fu_S) (P0 : Nat) (hP0 : fc_is3 P0) (a1 : Int32) : fu_J (some (f_X4_setArm s P0 a1)) (fun r => some (none, r)) (am_D (fu_ho fc_sh) am_m d 51 [.ref P0, .int a1] s) := by
  obtain ⟨d, rfl⟩ : ∃ e, d = e + 1 := ⟨d - 1, by omega⟩
  refine fu_enter (ls := [.ref P0, .int a1]) am_at_X4_setArm rfl rfl ?_
  show fu_J _ _ (fc_X d none k_X4_setArm 0 [.ref P0, .int a1] [] s)
  unfold f_X4_setArm
  refine fu_go 2 (pc' := 2) (ls' := [.ref P0, .int a1]) (st' := [.int a1, .ref P0]) (s' := s) rfl ?_
  refine fu_letsS (b := (fu_pi s P0 1 a1)) (fu_putI rfl hP0.1 rfl rfl) (fun s1 => ?_)
  exact fu_vret rfl rfl
/-! X2_takeRule -/
set_option maxRecDepth 100000 in
theorem e_X2_takeRule (d : Nat) (hd : 4 ≤ d) (s : fu_S) (a1 : Int32) (a2 : Int32) : fu_J (f_X2_takeRule s a1 a2) (fun r => some (some (.int (fu_b r.1)), r.2)) (am_D (fu_ho fc_sh) am_m d 24 [.ref 47, .int a1, .int a2] s) := by
  obtain ⟨d, rfl⟩ : ∃ e, d = e + 1 := ⟨d - 1, by omega⟩
  refine fu_enter (ls := [.ref 47, .int a1, .int a2, am_U, am_U]) am_at_X2_takeRule rfl rfl ?_
  show fu_J _ _ (fc_X d (some .boolean) k_X2_takeRule 0 [.ref 47, .int a1, .int a2, am_U, am_U] [] s)
  unfold f_X2_takeRule
  refine fu_go 7 (pc' := 8) (ls' := [.ref 47, .int a1, .int a2, .int ((1 : Int32) <<< ((a1 - (100 : Int32)) &&& 31)), am_U]) (st' := [.ref 47]) (s' := s) rfl ?_
  refine fu_step (fu_getI rfl fc_47 rfl rfl) ?_
  refine fu_go 2 (pc' := 13) (ls' := [.ref 47, .int a1, .int a2, .int ((1 : Int32) <<< ((a1 - (100 : Int32)) &&& 31)), am_U]) (st' := [.int ((s.1 47 2) &&& ((1 : Int32) <<< ((a1 - (100 : Int32)) &&& 31)))]) (s' := s) rfl ?_
  refine fu_ite (fun h1 => fu_step (fu_if_eq_t rfl h1) ?_) (fun h1 => fu_step (fu_if_eq_f rfl h1) ?_)
  · refine fu_go 2 (pc' := 27) (ls' := [.ref 47, .int a1, .int a2, .int ((1 : Int32) <<< ((a1 - (100 : Int32)) &&& 31)), am_U]) (st' := [.ref 47, .ref 47]) (s' := s) rfl ?_
    refine fu_step (fu_getI rfl fc_47 rfl rfl) ?_
    refine fu_go 2 (pc' := 32) (ls' := [.ref 47, .int a1, .int a2, .int ((1 : Int32) <<< ((a1 - (100 : Int32)) &&& 31)), am_U]) (st' := [.int ((s.1 47 2) ||| ((1 : Int32) <<< ((a1 - (100 : Int32)) &&& 31))), .ref 47]) (s' := s) rfl ?_
    refine fu_lets (b := (fu_pi s 47 2 ((s.1 47 2) ||| ((1 : Int32) <<< ((a1 - (100 : Int32)) &&& 31))))) (fu_putI rfl fc_47 rfl rfl) (fun s2 => ?_)
    refine fu_go 1 (pc' := 36) (ls' := [.ref 47, .int a1, .int a2, .int ((1 : Int32) <<< ((a1 - (100 : Int32)) &&& 31)), am_U]) (st' := [.ref 47]) (s' := s2) rfl ?_
    refine fu_step (fu_getR rfl fc_47 rfl rfl) ?_
    refine fu_let (fu_cVJ rfl rfl rfl rfl rfl (fu_recv fc_5 am_at_X8_next rfl) (e_X8_next d (by omega) s2)) (fun r3 => ?_)
    show fu_J _ _ (fc_X d (some .boolean) k_X2_takeRule 42 [.ref 47, .int a1, .int a2, .int ((1 : Int32) <<< ((a1 - (100 : Int32)) &&& 31)), am_U] [] r3)
    refine fu_go 1 (pc' := 43) (ls' := [.ref 47, .int a1, .int a2, .int ((1 : Int32) <<< ((a1 - (100 : Int32)) &&& 31)), am_U]) (st' := [.ref 47]) (s' := r3) rfl ?_
    refine fu_step (fu_getR rfl fc_47 rfl rfl) ?_
    refine fu_go 2 (pc' := 48) (ls' := [.ref 47, .int a1, .int a2, .int ((1 : Int32) <<< ((a1 - (100 : Int32)) &&& 31)), am_U]) (st' := [.int a2, .int (0 : Int32), .ref 5]) (s' := r3) rfl ?_
    refine fu_bind (fu_cVJ rfl rfl rfl rfl rfl (fu_recv fc_5 am_at_X8_takeNumber rfl) (e_X8_takeNumber d (by omega) r3 (0 : Int32) a2)) (fun r4 => ?_)
    show fu_J _ _ (fc_X d (some .boolean) k_X2_takeRule 51 [.ref 47, .int a1, .int a2, .int ((1 : Int32) <<< ((a1 - (100 : Int32)) &&& 31)), am_U] [.int r4.1] r4.2)
    refine fu_go 3 (pc' := 56) (ls' := [.ref 47, .int a1, .int a2, .int ((1 : Int32) <<< ((a1 - (100 : Int32)) &&& 31)), .int r4.1]) (st' := [.int (100 : Int32), .int a1]) (s' := r4.2) rfl ?_
    refine fu_bind (V := fun j5 : fu_S => fc_X d (some .boolean) k_X2_takeRule 80 [am_U, am_U, am_U, am_U, .int r4.1] [] j5) ?_ (fun j5 => ?_)
    · refine fu_ite (fun h6 => fu_step (fu_ic_ne_t rfl h6) ?_) (fun h6 => fu_step (fu_ic_ne_f rfl h6) ?_)
      · refine fu_go 1 (pc' := 60) (ls' := [.ref 47, .int a1, .int a2, .int ((1 : Int32) <<< ((a1 - (100 : Int32)) &&& 31)), .int r4.1]) (st' := [.ref 47]) (s' := r4.2) rfl ?_
        refine fu_step (fu_getR rfl fc_47 rfl rfl) ?_
        refine fu_go 1 (pc' := 65) (ls' := [.ref 47, .int a1, .int a2, .int ((1 : Int32) <<< ((a1 - (100 : Int32)) &&& 31)), .int r4.1]) (st' := [.int r4.1, .ref 29]) (s' := r4.2) rfl ?_
        refine fu_let (fu_cVJ rfl rfl rfl rfl rfl (fu_recv fc_29 am_at_X4_setOdds rfl) (e_X4_setOdds d (by omega) r4.2 29 fc_is3_29 r4.1)) (fun r7 => ?_)
        show fu_J _ _ (fc_X d (some .boolean) k_X2_takeRule 68 [.ref 47, .int a1, .int a2, .int ((1 : Int32) <<< ((a1 - (100 : Int32)) &&& 31)), .int r4.1] [] r7)
        refine fu_go 1 (pc' := 80) (ls' := [.ref 47, .int a1, .int a2, .int ((1 : Int32) <<< ((a1 - (100 : Int32)) &&& 31)), .int r4.1]) (st' := []) (s' := r7) rfl ?_
        exact fu_leaf rfl ⟨.inl rfl, .inl rfl, .inl rfl, .inl rfl, .inr rfl, trivial⟩
      · refine fu_go 1 (pc' := 72) (ls' := [.ref 47, .int a1, .int a2, .int ((1 : Int32) <<< ((a1 - (100 : Int32)) &&& 31)), .int r4.1]) (st' := [.ref 47]) (s' := r4.2) rfl ?_
        refine fu_step (fu_getR rfl fc_47 rfl rfl) ?_
        refine fu_go 1 (pc' := 77) (ls' := [.ref 47, .int a1, .int a2, .int ((1 : Int32) <<< ((a1 - (100 : Int32)) &&& 31)), .int r4.1]) (st' := [.int r4.1, .ref 29]) (s' := r4.2) rfl ?_
        refine fu_let (fu_cVJ rfl rfl rfl rfl rfl (fu_recv fc_29 am_at_X4_setArm rfl) (e_X4_setArm d (by omega) r4.2 29 fc_is3_29 r4.1)) (fun r8 => ?_)
        show fu_J _ _ (fc_X d (some .boolean) k_X2_takeRule 80 [.ref 47, .int a1, .int a2, .int ((1 : Int32) <<< ((a1 - (100 : Int32)) &&& 31)), .int r4.1] [] r8)
        exact fu_leaf rfl ⟨.inl rfl, .inl rfl, .inl rfl, .inl rfl, .inr rfl, trivial⟩
    show fu_J _ _ (fc_X d (some .boolean) k_X2_takeRule 80 [am_U, am_U, am_U, am_U, .int r4.1] [] j5)
    refine fu_go 2 (pc' := 83) (ls' := [am_U, am_U, am_U, am_U, .int r4.1]) (st' := [.int (-1 : Int32), .int r4.1]) (s' := j5) rfl ?_
    refine fu_bind (V := fun j9 : Bool => fc_X d (some .boolean) k_X2_takeRule 91 [am_U, am_U, am_U, am_U, am_U] [.int (fu_b j9)] j5) ?_ (fun j9 => ?_)
    · refine fu_ite (fun h10 => fu_step (fu_ic_eq_t rfl h10) ?_) (fun h10 => fu_step (fu_ic_eq_f rfl h10) ?_)
      · refine fu_go 1 (pc' := 91) (ls' := [am_U, am_U, am_U, am_U, .int r4.1]) (st' := [.int (0 : Int32)]) (s' := j5) rfl ?_
        exact fu_leaf rfl ⟨.inl rfl, .inl rfl, .inl rfl, .inl rfl, .inl rfl, trivial⟩
      · refine fu_go 2 (pc' := 91) (ls' := [am_U, am_U, am_U, am_U, .int r4.1]) (st' := [.int (1 : Int32)]) (s' := j5) rfl ?_
        exact fu_leaf rfl ⟨.inl rfl, .inl rfl, .inl rfl, .inl rfl, .inl rfl, trivial⟩
    show fu_J _ _ (fc_X d (some .boolean) k_X2_takeRule 91 [am_U, am_U, am_U, am_U, am_U] [.int (fu_b j9)] j5)
    exact fu_bret (b := j9) rfl rfl
  · refine fu_go 1 (pc' := 17) (ls' := [.ref 47, .int a1, .int a2, .int ((1 : Int32) <<< ((a1 - (100 : Int32)) &&& 31)), am_U]) (st' := [.ref 47]) (s' := s) rfl ?_
    refine fu_step (fu_getR rfl fc_47 rfl rfl) ?_
    refine fu_go 1 (pc' := 21) (ls' := [.ref 47, .int a1, .int a2, .int ((1 : Int32) <<< ((a1 - (100 : Int32)) &&& 31)), am_U]) (st' := [.int (5 : Int32), .ref 5]) (s' := s) rfl ?_
    refine fu_bind (fu_cVJ rfl rfl rfl rfl rfl (fu_recv fc_5 am_at_X8_refuse rfl) (e_X8_refuse d (by omega) s (5 : Int32))) (fun r11 => ?_)
    show fu_J _ _ (fc_X d (some .boolean) k_X2_takeRule 24 [.ref 47, .int a1, .int a2, .int ((1 : Int32) <<< ((a1 - (100 : Int32)) &&& 31)), am_U] [.int (fu_b r11.1)] r11.2)
    exact fu_bret (b := r11.1) rfl rfl
/-! X8_take -/
set_option maxRecDepth 100000 in
theorem e_X8_take (d : Nat) (hd : 3 ≤ d) (s : fu_S) (a1 : Int32) : fu_J (f_X8_take s a1) (fun r => some (some (.int (fu_b r.1)), r.2)) (am_D (fu_ho fc_sh) am_m d 163 [.ref 5, .int a1] s) := by
  obtain ⟨d, rfl⟩ : ∃ e, d = e + 1 := ⟨d - 1, by omega⟩
  refine fu_enter (ls := [.ref 5, .int a1]) am_at_X8_take rfl rfl ?_
  show fu_J _ _ (fc_X d (some .boolean) k_X8_take 0 [.ref 5, .int a1] [] s)
  unfold f_X8_take
  refine fu_go 1 (pc' := 1) (ls' := [.ref 5, .int a1]) (st' := [.ref 5]) (s' := s) rfl ?_
  refine fu_bind (fu_cVJ rfl rfl rfl rfl rfl (fu_recv fc_5 am_at_X8_sortHere rfl) (e_X8_sortHere d (by omega) s)) (fun r1 => ?_)
  show fu_J _ _ (fc_X d (some .boolean) k_X8_take 4 [.ref 5, .int a1] [.int r1] s)
  refine fu_go 1 (pc' := 5) (ls' := [.ref 5, .int a1]) (st' := [.int a1, .int r1]) (s' := s) rfl ?_
  refine fu_ite (fun h2 => fu_step (fu_ic_eq_t rfl h2) ?_) (fun h2 => fu_step (fu_ic_eq_f rfl h2) ?_)
  · refine fu_go 1 (pc' := 15) (ls' := [.ref 5, .int a1]) (st' := [.ref 5]) (s' := s) rfl ?_
    refine fu_let (fu_cVJ rfl rfl rfl rfl rfl (fu_recv fc_5 am_at_X8_next rfl) (e_X8_next d (by omega) s)) (fun r3 => ?_)
    show fu_J _ _ (fc_X d (some .boolean) k_X8_take 18 [.ref 5, .int a1] [] r3)
    refine fu_go 1 (pc' := 19) (ls' := [.ref 5, .int a1]) (st' := [.int (1 : Int32)]) (s' := r3) rfl ?_
    exact fu_bret (b := true) rfl rfl
  · refine fu_go 2 (pc' := 10) (ls' := [.ref 5, .int a1]) (st' := [.int (2 : Int32), .ref 5]) (s' := s) rfl ?_
    refine fu_bind (fu_cVJ rfl rfl rfl rfl rfl (fu_recv fc_5 am_at_X8_refuse rfl) (e_X8_refuse d (by omega) s (2 : Int32))) (fun r4 => ?_)
    show fu_J _ _ (fc_X d (some .boolean) k_X8_take 13 [.ref 5, .int a1] [.int (fu_b r4.1)] r4.2)
    exact fu_bret (b := r4.1) rfl rfl
/-! X2_takePerhaps -/
set_option maxRecDepth 100000 in
theorem e_X2_takePerhaps (d : Nat) (hd : 4 ≤ d) (s : fu_S) (a1 : Int32) (a2 : Int32) : fu_J (f_X2_takePerhaps s a1 a2) (fun r => some (some (.int r.1), r.2)) (am_D (fu_ho fc_sh) am_m d 26 [.ref 47, .int a1, .int a2] s) := by
  obtain ⟨d, rfl⟩ : ∃ e, d = e + 1 := ⟨d - 1, by omega⟩
  refine fu_enter (ls := [.ref 47, .int a1, .int a2]) am_at_X2_takePerhaps rfl rfl ?_
  show fu_J _ _ (fc_X d (some .int) k_X2_takePerhaps 0 [.ref 47, .int a1, .int a2] [] s)
  unfold f_X2_takePerhaps
  refine fu_go 1 (pc' := 1) (ls' := [.ref 47, .int a1, .int a2]) (st' := [.ref 47]) (s' := s) rfl ?_
  refine fu_step (fu_getR rfl fc_47 rfl rfl) ?_
  refine fu_bind (fu_cVJ rfl rfl rfl rfl rfl (fu_recv fc_5 am_at_X8_sortHere rfl) (e_X8_sortHere d (by omega) s)) (fun r1 => ?_)
  show fu_J _ _ (fc_X d (some .int) k_X2_takePerhaps 7 [.ref 47, .int a1, .int a2] [.int r1] s)
  refine fu_go 1 (pc' := 8) (ls' := [.ref 47, .int a1, .int a2]) (st' := [.int a1, .int r1]) (s' := s) rfl ?_
  refine fu_ite (fun h2 => fu_step (fu_ic_eq_t rfl h2) ?_) (fun h2 => fu_step (fu_ic_eq_f rfl h2) ?_)
  · refine fu_go 1 (pc' := 14) (ls' := [.ref 47, .int a1, .int a2]) (st' := [.ref 47]) (s' := s) rfl ?_
    refine fu_step (fu_getR rfl fc_47 rfl rfl) ?_
    refine fu_let (fu_cVJ rfl rfl rfl rfl rfl (fu_recv fc_5 am_at_X8_next rfl) (e_X8_next d (by omega) s)) (fun r3 => ?_)
    show fu_J _ _ (fc_X d (some .int) k_X2_takePerhaps 20 [.ref 47, .int a1, .int a2] [] r3)
    refine fu_go 1 (pc' := 21) (ls' := [.ref 47, .int a1, .int a2]) (st' := [.ref 47]) (s' := r3) rfl ?_
    refine fu_step (fu_getR rfl fc_47 rfl rfl) ?_
    refine fu_go 2 (pc' := 26) (ls' := [.ref 47, .int a1, .int a2]) (st' := [.int a2, .int (1 : Int32), .ref 5]) (s' := r3) rfl ?_
    refine fu_bind (fu_cVJ rfl rfl rfl rfl rfl (fu_recv fc_5 am_at_X8_takeNumber rfl) (e_X8_takeNumber d (by omega) r3 (1 : Int32) a2)) (fun r4 => ?_)
    show fu_J _ _ (fc_X d (some .int) k_X2_takePerhaps 29 [.ref 47, .int a1, .int a2] [.int r4.1] r4.2)
    exact fu_iret rfl rfl
  · refine fu_go 1 (pc' := 12) (ls' := [.ref 47, .int a1, .int a2]) (st' := [.int (1 : Int32)]) (s' := s) rfl ?_
    exact fu_iret rfl rfl
/-! X4_addKind -/
set_option maxRecDepth 100000 in
theorem e_X4_addKind (d : Nat) (hd : 1 ≤ d) (s : fu_S) (P0 : Nat) (hP0 : fc_is3 P0) (a1 : Int32) (a2 : Int32) (a3 : Int32) : fu_J (f_X4_addKind s P0 a1 a2 a3) (fun r => some (none, r)) (am_D (fu_ho fc_sh) am_m d 58 [.ref P0, .int a1, .int a2, .int a3] s) := by
  obtain ⟨d, rfl⟩ : ∃ e, d = e + 1 := ⟨d - 1, by omega⟩
  refine fu_enter (ls := [.ref P0, .int a1, .int a2, .int a3]) am_at_X4_addKind rfl rfl ?_
  show fu_J _ _ (fc_X d none k_X4_addKind 0 [.ref P0, .int a1, .int a2, .int a3] [] s)
  unfold f_X4_addKind
  refine fu_go 1 (pc' := 1) (ls' := [.ref P0, .int a1, .int a2, .int a3]) (st' := [.ref P0]) (s' := s) rfl ?_
  refine fu_step (fu_getI rfl hP0.1 rfl rfl) ?_
  refine fu_go 1 (pc' := 5) (ls' := [.ref P0, .int a1, .int a2, .int a3]) (st' := [.int (5 : Int32), .int (s.1 P0 3)]) (s' := s) rfl ?_
  refine fu_bind (V := fun j1 : fu_S => fc_X d none k_X4_addKind 48 [am_U, am_U, am_U, am_U] [] j1) ?_ (fun j1 => ?_)
  · refine fu_ite (fun h2 => fu_step (fu_ic_ge_t rfl h2) ?_) (fun h2 => fu_step (fu_ic_ge_f rfl h2) ?_)
    · refine fu_go 1 (pc' := 9) (ls' := [.ref P0, .int a1, .int a2, .int a3]) (st' := [.ref P0]) (s' := s) rfl ?_
      refine fu_step (fu_getR rfl hP0.1 rfl rfl) ?_
      refine fu_go 1 (pc' := 13) (ls' := [.ref P0, .int a1, .int a2, .int a3]) (st' := [.ref P0, .ref (P0 + 1)]) (s' := s) rfl ?_
      refine fu_step (fu_getI rfl hP0.1 rfl rfl) ?_
      refine fu_go 1 (pc' := 17) (ls' := [.ref P0, .int a1, .int a2, .int a3]) (st' := [.int a1, .int (s.1 P0 3), .ref (P0 + 1)]) (s' := s) rfl ?_
      refine fu_guard (fun h4 => fu_lets (b := (fu_pi s (P0 + 1) (Int32.toNatClampNeg (s.1 P0 3)) a1)) (fu_stI rfl hP0.2.1 h4) (fun s3 => ?_))
      refine fu_go 1 (pc' := 19) (ls' := [.ref P0, .int a1, .int a2, .int a3]) (st' := [.ref P0]) (s' := s3) rfl ?_
      refine fu_step (fu_getR rfl hP0.1 rfl rfl) ?_
      refine fu_go 1 (pc' := 23) (ls' := [.ref P0, .int a1, .int a2, .int a3]) (st' := [.ref P0, .ref (P0 + 2)]) (s' := s3) rfl ?_
      refine fu_step (fu_getI rfl hP0.1 rfl rfl) ?_
      refine fu_go 1 (pc' := 27) (ls' := [.ref P0, .int a1, .int a2, .int a3]) (st' := [.int a2, .int (s3.1 P0 3), .ref (P0 + 2)]) (s' := s3) rfl ?_
      refine fu_guard (fun h6 => fu_lets (b := (fu_pi s3 (P0 + 2) (Int32.toNatClampNeg (s3.1 P0 3)) a2)) (fu_stI rfl hP0.2.2.1 h6) (fun s5 => ?_))
      refine fu_go 1 (pc' := 29) (ls' := [.ref P0, .int a1, .int a2, .int a3]) (st' := [.ref P0]) (s' := s5) rfl ?_
      refine fu_step (fu_getR rfl hP0.1 rfl rfl) ?_
      refine fu_go 1 (pc' := 33) (ls' := [.ref P0, .int a1, .int a2, .int a3]) (st' := [.ref P0, .ref (P0 + 3)]) (s' := s5) rfl ?_
      refine fu_step (fu_getI rfl hP0.1 rfl rfl) ?_
      refine fu_go 1 (pc' := 37) (ls' := [.ref P0, .int a1, .int a2, .int a3]) (st' := [.int a3, .int (s5.1 P0 3), .ref (P0 + 3)]) (s' := s5) rfl ?_
      refine fu_guard (fun h8 => fu_lets (b := (fu_pi s5 (P0 + 3) (Int32.toNatClampNeg (s5.1 P0 3)) a3)) (fu_stI rfl hP0.2.2.2.1 h8) (fun s7 => ?_))
      refine fu_go 2 (pc' := 40) (ls' := [.ref P0, .int a1, .int a2, .int a3]) (st' := [.ref P0, .ref P0]) (s' := s7) rfl ?_
      refine fu_step (fu_getI rfl hP0.1 rfl rfl) ?_
      refine fu_go 2 (pc' := 45) (ls' := [.ref P0, .int a1, .int a2, .int a3]) (st' := [.int ((s7.1 P0 3) + (1 : Int32)), .ref P0]) (s' := s7) rfl ?_
      refine fu_lets (b := (fu_pi s7 P0 3 ((s7.1 P0 3) + (1 : Int32)))) (fu_putI rfl hP0.1 rfl rfl) (fun s9 => ?_)
      exact fu_leaf rfl ⟨.inl rfl, .inl rfl, .inl rfl, .inl rfl, trivial⟩
    · exact fu_leaf rfl ⟨.inl rfl, .inl rfl, .inl rfl, .inl rfl, trivial⟩
  show fu_J _ _ (fc_X d none k_X4_addKind 48 [am_U, am_U, am_U, am_U] [] j1)
  exact fu_vret rfl rfl
/-! X2_takeKind -/
set_option maxRecDepth 100000 in
theorem e_X2_takeKind (d : Nat) (hd : 5 ≤ d) (s : fu_S) : fu_J (f_X2_takeKind s) (fun r => some (some (.int (fu_b r.1)), r.2)) (am_D (fu_ho fc_sh) am_m d 25 [.ref 47] s) := by
  obtain ⟨d, rfl⟩ : ∃ e, d = e + 1 := ⟨d - 1, by omega⟩
  refine fu_enter (ls := [.ref 47, am_U, am_U, am_U]) am_at_X2_takeKind rfl rfl ?_
  show fu_J _ _ (fc_X d (some .boolean) k_X2_takeKind 0 [.ref 47, am_U, am_U, am_U] [] s)
  unfold f_X2_takeKind
  refine fu_go 1 (pc' := 1) (ls' := [.ref 47, am_U, am_U, am_U]) (st' := [.ref 47]) (s' := s) rfl ?_
  refine fu_step (fu_getR rfl fc_47 rfl rfl) ?_
  refine fu_step (fu_cV rfl rfl rfl rfl rfl (fu_recv fc_29 am_at_X4_kinds rfl) (fu_eq (e_X4_kinds d (by omega) s 29 fc_is3_29) rfl)) ?_
  show fu_J _ _ (fc_X d (some .boolean) k_X2_takeKind 7 [.ref 47, am_U, am_U, am_U] [.int (f_X4_kinds s 29)] s)
  refine fu_go 1 (pc' := 8) (ls' := [.ref 47, am_U, am_U, am_U]) (st' := [.int (5 : Int32), .int (f_X4_kinds s 29)]) (s' := s) rfl ?_
  refine fu_ite (fun h1 => fu_step (fu_ic_lt_t rfl h1) ?_) (fun h1 => fu_step (fu_ic_lt_f rfl h1) ?_)
  · refine fu_go 1 (pc' := 22) (ls' := [.ref 47, am_U, am_U, am_U]) (st' := [.ref 47]) (s' := s) rfl ?_
    refine fu_step (fu_getR rfl fc_47 rfl rfl) ?_
    refine fu_let (fu_cVJ rfl rfl rfl rfl rfl (fu_recv fc_5 am_at_X8_next rfl) (e_X8_next d (by omega) s)) (fun r2 => ?_)
    show fu_J _ _ (fc_X d (some .boolean) k_X2_takeKind 28 [.ref 47, am_U, am_U, am_U] [] r2)
    refine fu_go 1 (pc' := 29) (ls' := [.ref 47, am_U, am_U, am_U]) (st' := [.ref 47]) (s' := r2) rfl ?_
    refine fu_step (fu_getR rfl fc_47 rfl rfl) ?_
    refine fu_go 1 (pc' := 34) (ls' := [.ref 47, am_U, am_U, am_U]) (st' := [.int (103 : Int32), .ref 5]) (s' := r2) rfl ?_
    refine fu_bind (fu_cVJ rfl rfl rfl rfl rfl (fu_recv fc_5 am_at_X8_take rfl) (e_X8_take d (by omega) r2 (103 : Int32))) (fun r3 => ?_)
    show fu_J _ _ (fc_X d (some .boolean) k_X2_takeKind 37 [.ref 47, am_U, am_U, am_U] [.int (fu_b r3.1)] r3.2)
    refine fu_bind (V := fun j4 : Int32 × fu_S => fc_X d (some .boolean) k_X2_takeKind 54 [.ref 47, am_U, am_U, am_U] [.int j4.1] j4.2) ?_ (fun j4 => ?_)
    · refine fu_ite (fun h5 => fu_step (fu_ib_eq_t rfl h5) ?_) (fun h5 => fu_step (fu_ib_eq_f rfl h5) ?_)
      · refine fu_go 1 (pc' := 41) (ls' := [.ref 47, am_U, am_U, am_U]) (st' := [.ref 47]) (s' := r3.2) rfl ?_
        refine fu_step (fu_getR rfl fc_47 rfl rfl) ?_
        refine fu_go 2 (pc' := 47) (ls' := [.ref 47, am_U, am_U, am_U]) (st' := [.int (9 : Int32), .int (1 : Int32), .ref 5]) (s' := r3.2) rfl ?_
        refine fu_bind (fu_cVJ rfl rfl rfl rfl rfl (fu_recv fc_5 am_at_X8_takeNumber rfl) (e_X8_takeNumber d (by omega) r3.2 (1 : Int32) (9 : Int32))) (fun r6 => ?_)
        show fu_J _ _ (fc_X d (some .boolean) k_X2_takeKind 50 [.ref 47, am_U, am_U, am_U] [.int r6.1] r6.2)
        refine fu_go 1 (pc' := 54) (ls' := [.ref 47, am_U, am_U, am_U]) (st' := [.int r6.1]) (s' := r6.2) rfl ?_
        exact fu_leaf rfl ⟨.inr rfl, .inl rfl, .inl rfl, .inl rfl, trivial⟩
      · refine fu_go 1 (pc' := 54) (ls' := [.ref 47, am_U, am_U, am_U]) (st' := [.int (-1 : Int32)]) (s' := r3.2) rfl ?_
        exact fu_leaf rfl ⟨.inr rfl, .inl rfl, .inl rfl, .inl rfl, trivial⟩
    show fu_J _ _ (fc_X d (some .boolean) k_X2_takeKind 54 [.ref 47, am_U, am_U, am_U] [.int j4.1] j4.2)
    refine fu_go 3 (pc' := 57) (ls' := [.ref 47, .int j4.1, am_U, am_U]) (st' := [.int (-1 : Int32), .int j4.1]) (s' := j4.2) rfl ?_
    refine fu_ite (fun h7 => fu_step (fu_ic_ne_t rfl h7) ?_) (fun h7 => fu_step (fu_ic_ne_f rfl h7) ?_)
    · refine fu_go 1 (pc' := 61) (ls' := [.ref 47, .int j4.1, am_U, am_U]) (st' := [.int (0 : Int32)]) (s' := j4.2) rfl ?_
      exact fu_bret (b := false) rfl rfl
    · refine fu_go 1 (pc' := 63) (ls' := [.ref 47, .int j4.1, am_U, am_U]) (st' := [.ref 47]) (s' := j4.2) rfl ?_
      refine fu_step (fu_getR rfl fc_47 rfl rfl) ?_
      refine fu_go 1 (pc' := 68) (ls' := [.ref 47, .int j4.1, am_U, am_U]) (st' := [.int (104 : Int32), .ref 5]) (s' := j4.2) rfl ?_
      refine fu_bind (fu_cVJ rfl rfl rfl rfl rfl (fu_recv fc_5 am_at_X8_take rfl) (e_X8_take d (by omega) j4.2 (104 : Int32))) (fun r8 => ?_)
      show fu_J _ _ (fc_X d (some .boolean) k_X2_takeKind 71 [.ref 47, .int j4.1, am_U, am_U] [.int (fu_b r8.1)] r8.2)
      refine fu_bind (V := fun j9 : Int32 × fu_S => fc_X d (some .boolean) k_X2_takeKind 88 [.ref 47, .int j4.1, am_U, am_U] [.int j9.1] j9.2) ?_ (fun j9 => ?_)
      · refine fu_ite (fun h10 => fu_step (fu_ib_eq_t rfl h10) ?_) (fun h10 => fu_step (fu_ib_eq_f rfl h10) ?_)
        · refine fu_go 1 (pc' := 75) (ls' := [.ref 47, .int j4.1, am_U, am_U]) (st' := [.ref 47]) (s' := r8.2) rfl ?_
          refine fu_step (fu_getR rfl fc_47 rfl rfl) ?_
          refine fu_go 2 (pc' := 81) (ls' := [.ref 47, .int j4.1, am_U, am_U]) (st' := [.int (9 : Int32), .int (0 : Int32), .ref 5]) (s' := r8.2) rfl ?_
          refine fu_bind (fu_cVJ rfl rfl rfl rfl rfl (fu_recv fc_5 am_at_X8_takeNumber rfl) (e_X8_takeNumber d (by omega) r8.2 (0 : Int32) (9 : Int32))) (fun r11 => ?_)
          show fu_J _ _ (fc_X d (some .boolean) k_X2_takeKind 84 [.ref 47, .int j4.1, am_U, am_U] [.int r11.1] r11.2)
          refine fu_go 1 (pc' := 88) (ls' := [.ref 47, .int j4.1, am_U, am_U]) (st' := [.int r11.1]) (s' := r11.2) rfl ?_
          exact fu_leaf rfl ⟨.inr rfl, .inr rfl, .inl rfl, .inl rfl, trivial⟩
        · refine fu_go 1 (pc' := 88) (ls' := [.ref 47, .int j4.1, am_U, am_U]) (st' := [.int (-1 : Int32)]) (s' := r8.2) rfl ?_
          exact fu_leaf rfl ⟨.inr rfl, .inr rfl, .inl rfl, .inl rfl, trivial⟩
      show fu_J _ _ (fc_X d (some .boolean) k_X2_takeKind 88 [.ref 47, .int j4.1, am_U, am_U] [.int j9.1] j9.2)
      refine fu_go 3 (pc' := 91) (ls' := [.ref 47, .int j4.1, .int j9.1, am_U]) (st' := [.int (-1 : Int32), .int j9.1]) (s' := j9.2) rfl ?_
      refine fu_ite (fun h12 => fu_step (fu_ic_ne_t rfl h12) ?_) (fun h12 => fu_step (fu_ic_ne_f rfl h12) ?_)
      · refine fu_go 1 (pc' := 95) (ls' := [.ref 47, .int j4.1, .int j9.1, am_U]) (st' := [.int (0 : Int32)]) (s' := j9.2) rfl ?_
        exact fu_bret (b := false) rfl rfl
      · refine fu_go 3 (pc' := 101) (ls' := [.ref 47, .int j4.1, .int j9.1, am_U]) (st' := [.int (9 : Int32), .int (105 : Int32), .ref 47]) (s' := j9.2) rfl ?_
        refine fu_bind (fu_cVJ rfl rfl rfl rfl rfl (fu_recv fc_47 am_at_X2_takePerhaps rfl) (e_X2_takePerhaps d (by omega) j9.2 (105 : Int32) (9 : Int32))) (fun r13 => ?_)
        show fu_J _ _ (fc_X d (some .boolean) k_X2_takeKind 104 [.ref 47, .int j4.1, .int j9.1, am_U] [.int r13.1] r13.2)
        refine fu_go 3 (pc' := 107) (ls' := [.ref 47, .int j4.1, .int j9.1, .int r13.1]) (st' := [.int (-1 : Int32), .int r13.1]) (s' := r13.2) rfl ?_
        refine fu_ite (fun h14 => fu_step (fu_ic_ne_t rfl h14) ?_) (fun h14 => fu_step (fu_ic_ne_f rfl h14) ?_)
        · refine fu_go 1 (pc' := 111) (ls' := [.ref 47, .int j4.1, .int j9.1, .int r13.1]) (st' := [.int (0 : Int32)]) (s' := r13.2) rfl ?_
          exact fu_bret (b := false) rfl rfl
        · refine fu_go 1 (pc' := 113) (ls' := [.ref 47, .int j4.1, .int j9.1, .int r13.1]) (st' := [.ref 47]) (s' := r13.2) rfl ?_
          refine fu_step (fu_getR rfl fc_47 rfl rfl) ?_
          refine fu_go 3 (pc' := 119) (ls' := [.ref 47, .int j4.1, .int j9.1, .int r13.1]) (st' := [.int r13.1, .int j9.1, .int j4.1, .ref 29]) (s' := r13.2) rfl ?_
          refine fu_bind (fu_cVJ rfl rfl rfl rfl rfl (fu_recv fc_29 am_at_X4_addKind rfl) (e_X4_addKind d (by omega) r13.2 29 fc_is3_29 j4.1 j9.1 r13.1)) (fun r15 => ?_)
          show fu_J _ _ (fc_X d (some .boolean) k_X2_takeKind 122 [.ref 47, .int j4.1, .int j9.1, .int r13.1] [] r15)
          refine fu_go 1 (pc' := 123) (ls' := [.ref 47, .int j4.1, .int j9.1, .int r13.1]) (st' := [.int (1 : Int32)]) (s' := r15) rfl ?_
          exact fu_bret (b := true) rfl rfl
  · refine fu_go 1 (pc' := 12) (ls' := [.ref 47, am_U, am_U, am_U]) (st' := [.ref 47]) (s' := s) rfl ?_
    refine fu_step (fu_getR rfl fc_47 rfl rfl) ?_
    refine fu_go 1 (pc' := 17) (ls' := [.ref 47, am_U, am_U, am_U]) (st' := [.int (6 : Int32), .ref 5]) (s' := s) rfl ?_
    refine fu_bind (fu_cVJ rfl rfl rfl rfl rfl (fu_recv fc_5 am_at_X8_refuse rfl) (e_X8_refuse d (by omega) s (6 : Int32))) (fun r16 => ?_)
    show fu_J _ _ (fc_X d (some .boolean) k_X2_takeKind 20 [.ref 47, am_U, am_U, am_U] [.int (fu_b r16.1)] r16.2)
    exact fu_bret (b := r16.1) rfl rfl
/-! X8_nameHere -/
set_option maxRecDepth 100000 in
theorem e_X8_nameHere (d : Nat) (hd : 2 ≤ d) (s : fu_S) : fu_J (f_X8_nameHere s) (fun r => some (some (.long r), s)) (am_D (fu_ho fc_sh) am_m d 160 [.ref 5] s) := by
  obtain ⟨d, rfl⟩ : ∃ e, d = e + 1 := ⟨d - 1, by omega⟩
  refine fu_enter (ls := [.ref 5]) am_at_X8_nameHere rfl rfl ?_
  show fu_J _ _ (fc_X d (some .long) k_X8_nameHere 0 [.ref 5] [] s)
  unfold f_X8_nameHere
  refine fu_go 1 (pc' := 1) (ls' := [.ref 5]) (st' := [.ref 5]) (s' := s) rfl ?_
  refine fu_bind (fu_cVJ rfl rfl rfl rfl rfl (fu_recv fc_5 am_at_X8_sortHere rfl) (e_X8_sortHere d (by omega) s)) (fun r1 => ?_)
  show fu_J _ _ (fc_X d (some .long) k_X8_nameHere 4 [.ref 5] [.int r1] s)
  refine fu_go 1 (pc' := 5) (ls' := [.ref 5]) (st' := [.int (3 : Int32), .int r1]) (s' := s) rfl ?_
  refine fu_bind (V := fun j2 : Int64 => fc_X d (some .long) k_X8_nameHere 18 [am_U] [.long j2] s) ?_ (fun j2 => ?_)
  · refine fu_ite (fun h3 => fu_step (fu_ic_ne_t rfl h3) ?_) (fun h3 => fu_step (fu_ic_ne_f rfl h3) ?_)
    · refine fu_go 1 (pc' := 9) (ls' := [.ref 5]) (st' := [.ref 5]) (s' := s) rfl ?_
      refine fu_bind (fu_cVJ rfl rfl rfl rfl rfl (fu_recv fc_5 am_at_X8_valueHere rfl) (e_X8_valueHere d (by omega) s)) (fun r4 => ?_)
      show fu_J _ _ (fc_X d (some .long) k_X8_nameHere 12 [.ref 5] [.long r4] s)
      refine fu_go 1 (pc' := 18) (ls' := [.ref 5]) (st' := [.long r4]) (s' := s) rfl ?_
      exact fu_leaf rfl ⟨.inl rfl, trivial⟩
    · refine fu_go 1 (pc' := 18) (ls' := [.ref 5]) (st' := [.long (-1 : Int64)]) (s' := s) rfl ?_
      exact fu_leaf rfl ⟨.inl rfl, trivial⟩
  show fu_J _ _ (fc_X d (some .long) k_X8_nameHere 18 [am_U] [.long j2] s)
  exact fu_lret rfl rfl
/-! X4_personNamed -/
theorem el_X4_personNamed_2 (d : Nat) (hd : 0 ≤ d) : ∀ (n : Nat) (s : fu_S) (P0 : Nat) (hP0 : fc_is3 P0) (x1 : Int64) (x3 : Int32), fu_J (l_X4_personNamed_2 n s P0 x1 x3) (fun u => Sum.elim (fun r => some (some (.int r), s)) (fun r => fc_X d (some .int) k_X4_personNamed 29 [am_U, am_U, am_U, am_U] [] s) u) (fc_X d (some .int) k_X4_personNamed 2 [.ref P0, .long x1, am_U, .int x3] [] s) := by
  intro n
  induction n with
  | zero => intros; exact fu_none
  | succ n ih =>
    intro s P0 hP0 x1 x3
    rw [l_X4_personNamed_2]
    refine fu_go 2 (pc' := 4) (ls' := [.ref P0, .long x1, am_U, .int x3]) (st' := [.ref P0, .int x3]) (s' := s) rfl ?_
    refine fu_step (fu_getI rfl hP0.1 rfl rfl) ?_
    refine fu_ite (fun h1 => fu_step (fu_ic_ge_t rfl h1) ?_) (fun h1 => fu_step (fu_ic_ge_f rfl h1) ?_)
    · refine fu_go 1 (pc' := 11) (ls' := [.ref P0, .long x1, am_U, .int x3]) (st' := [.ref P0]) (s' := s) rfl ?_
      refine fu_step (fu_getR rfl hP0.1 rfl rfl) ?_
      refine fu_go 1 (pc' := 15) (ls' := [.ref P0, .long x1, am_U, .int x3]) (st' := [.int x3, .ref (P0 + 4)]) (s' := s) rfl ?_
      refine fu_guard (fun h2 => fu_step (fu_ldL rfl hP0.2.2.2.2.1 h2) ?_)
      refine fu_go 1 (pc' := 17) (ls' := [.ref P0, .long x1, am_U, .int x3]) (st' := [.long x1, .long (s.2 (P0 + 4) (Int32.toNatClampNeg x3))]) (s' := s) rfl ?_
      refine fu_ite (fun h3 => fu_step (fu_lc_ne_t rfl rfl h3) ?_) (fun h3 => fu_step (fu_lc_ne_f rfl rfl h3) ?_)
      · refine fu_go 1 (pc' := 22) (ls' := [.ref P0, .long x1, am_U, .int x3]) (st' := [.int x3]) (s' := s) rfl ?_
        exact fu_iret rfl rfl
      · refine fu_go 2 (pc' := 2) (ls' := [.ref P0, .long x1, am_U, .int (x3 + (1 : Int32))]) (st' := []) (s' := s) rfl ?_
        exact fu_drop (ls' := [.ref P0, .long x1, am_U, .int (x3 + (1 : Int32))]) ⟨.inr rfl, .inr rfl, .inl rfl, .inr rfl, trivial⟩ (ih s P0 hP0 x1 (x3 + (1 : Int32)))
    · exact fu_leaf rfl ⟨.inl rfl, .inl rfl, .inl rfl, .inl rfl, trivial⟩
set_option maxRecDepth 100000 in
theorem e_X4_personNamed (d : Nat) (hd : 1 ≤ d) (s : fu_S) (P0 : Nat) (hP0 : fc_is3 P0) (a1 : Int64) : fu_J (f_X4_personNamed s P0 a1) (fun r => some (some (.int r), s)) (am_D (fu_ho fc_sh) am_m d 68 [.ref P0, .long a1] s) := by
  obtain ⟨d, rfl⟩ : ∃ e, d = e + 1 := ⟨d - 1, by omega⟩
  refine fu_enter (ls := [.ref P0, .long a1, am_U, am_U]) am_at_X4_personNamed rfl rfl ?_
  show fu_J _ _ (fc_X d (some .int) k_X4_personNamed 0 [.ref P0, .long a1, am_U, am_U] [] s)
  unfold f_X4_personNamed
  refine fu_go 2 (pc' := 2) (ls' := [.ref P0, .long a1, am_U, .int (0 : Int32)]) (st' := []) (s' := s) rfl ?_
  refine fu_drop (ls' := [.ref P0, .long a1, am_U, .int (0 : Int32)]) ⟨.inr rfl, .inr rfl, .inl rfl, .inr rfl, trivial⟩ ?_
  refine fu_bind (el_X4_personNamed_2 d (by omega) fu_N s P0 hP0 a1 (0 : Int32)) (fun u => fu_sum (fun a => ?_) (fun r4 => ?_))
  · exact fu_ret rfl
  show fu_J _ _ (fc_X d (some .int) k_X4_personNamed 29 [am_U, am_U, am_U, am_U] [] s)
  refine fu_go 1 (pc' := 30) (ls' := [am_U, am_U, am_U, am_U]) (st' := [.int (-1 : Int32)]) (s' := s) rfl ?_
  exact fu_iret rfl rfl
/-! X8_isAtNumber -/
set_option maxRecDepth 100000 in
theorem e_X8_isAtNumber (d : Nat) (hd : 2 ≤ d) (s : fu_S) : fu_J (f_X8_isAtNumber s) (fun r => some (some (.int (fu_b r)), s)) (am_D (fu_ho fc_sh) am_m d 158 [.ref 5] s) := by
  obtain ⟨d, rfl⟩ : ∃ e, d = e + 1 := ⟨d - 1, by omega⟩
  refine fu_enter (ls := [.ref 5]) am_at_X8_isAtNumber rfl rfl ?_
  show fu_J _ _ (fc_X d (some .boolean) k_X8_isAtNumber 0 [.ref 5] [] s)
  unfold f_X8_isAtNumber
  refine fu_go 1 (pc' := 1) (ls' := [.ref 5]) (st' := [.ref 5]) (s' := s) rfl ?_
  refine fu_bind (fu_cVJ rfl rfl rfl rfl rfl (fu_recv fc_5 am_at_X8_sortHere rfl) (e_X8_sortHere d (by omega) s)) (fun r1 => ?_)
  show fu_J _ _ (fc_X d (some .boolean) k_X8_isAtNumber 4 [.ref 5] [.int r1] s)
  refine fu_go 1 (pc' := 5) (ls' := [.ref 5]) (st' := [.int (2 : Int32), .int r1]) (s' := s) rfl ?_
  refine fu_bind (V := fun j2 : Bool => fc_X d (some .boolean) k_X8_isAtNumber 13 [am_U] [.int (fu_b j2)] s) ?_ (fun j2 => ?_)
  · refine fu_ite (fun h3 => fu_step (fu_ic_ne_t rfl h3) ?_) (fun h3 => fu_step (fu_ic_ne_f rfl h3) ?_)
    · refine fu_go 2 (pc' := 13) (ls' := [.ref 5]) (st' := [.int (1 : Int32)]) (s' := s) rfl ?_
      exact fu_leaf rfl ⟨.inl rfl, trivial⟩
    · refine fu_go 1 (pc' := 13) (ls' := [.ref 5]) (st' := [.int (0 : Int32)]) (s' := s) rfl ?_
      exact fu_leaf rfl ⟨.inl rfl, trivial⟩
  show fu_J _ _ (fc_X d (some .boolean) k_X8_isAtNumber 13 [am_U] [.int (fu_b j2)] s)
  exact fu_bret (b := j2) rfl rfl
/-! X8_isAtNumberOf -/
set_option maxRecDepth 100000 in
theorem e_X8_isAtNumberOf (d : Nat) (hd : 3 ≤ d) (s : fu_S) (a1 : Int32) : fu_J (f_X8_isAtNumberOf s a1) (fun r => some (some (.int (fu_b r)), s)) (am_D (fu_ho fc_sh) am_m d 159 [.ref 5, .int a1] s) := by
  obtain ⟨d, rfl⟩ : ∃ e, d = e + 1 := ⟨d - 1, by omega⟩
  refine fu_enter (ls := [.ref 5, .int a1, am_U, am_U]) am_at_X8_isAtNumberOf rfl rfl ?_
  show fu_J _ _ (fc_X d (some .boolean) k_X8_isAtNumberOf 0 [.ref 5, .int a1, am_U, am_U] [] s)
  unfold f_X8_isAtNumberOf
  refine fu_go 1 (pc' := 1) (ls' := [.ref 5, .int a1, am_U, am_U]) (st' := [.ref 5]) (s' := s) rfl ?_
  refine fu_bind (fu_cVJ rfl rfl rfl rfl rfl (fu_recv fc_5 am_at_X8_valueHere rfl) (e_X8_valueHere d (by omega) s)) (fun r1 => ?_)
  show fu_J _ _ (fc_X d (some .boolean) k_X8_isAtNumberOf 4 [.ref 5, .int a1, am_U, am_U] [.long r1] s)
  refine fu_go 2 (pc' := 6) (ls' := [.ref 5, .int a1, .long r1, am_U]) (st' := [.ref 5]) (s' := s) rfl ?_
  refine fu_bind (fu_cVJ rfl rfl rfl rfl rfl (fu_recv fc_5 am_at_X8_isAtNumber rfl) (e_X8_isAtNumber d (by omega) s)) (fun r2 => ?_)
  show fu_J _ _ (fc_X d (some .boolean) k_X8_isAtNumberOf 9 [.ref 5, .int a1, .long r1, am_U] [.int (fu_b r2)] s)
  refine fu_bind (V := fun j3 : Bool => fc_X d (some .boolean) k_X8_isAtNumberOf 40 [am_U, am_U, am_U, am_U] [.int (fu_b j3)] s) ?_ (fun j3 => ?_)
  · refine fu_ite (fun h4 => fu_step (fu_ib_eq_t rfl h4) ?_) (fun h4 => fu_step (fu_ib_eq_f rfl h4) ?_)
    · refine fu_go 2 (pc' := 14) (ls' := [.ref 5, .int a1, .long r1, am_U]) (st' := [.long (0 : Int64), .long r1]) (s' := s) rfl ?_
      refine fu_ite (fun h5 => fu_step (fu_lc_lt_t rfl rfl h5) ?_) (fun h5 => fu_step (fu_lc_lt_f rfl rfl h5) ?_)
      · refine fu_go 1 (pc' := 40) (ls' := [.ref 5, .int a1, .long r1, am_U]) (st' := [.int (0 : Int32)]) (s' := s) rfl ?_
        exact fu_leaf rfl ⟨.inl rfl, .inl rfl, .inl rfl, .inl rfl, trivial⟩
      · refine fu_go 2 (pc' := 22) (ls' := [.ref 5, .int a1, .long r1, am_U]) (st' := [.long (31 : Int64), .long r1]) (s' := s) rfl ?_
        refine fu_ite (fun h6 => fu_step (fu_lc_ge_t rfl rfl h6) ?_) (fun h6 => fu_step (fu_lc_ge_f rfl rfl h6) ?_)
        · refine fu_go 6 (pc' := 32) (ls' := [.ref 5, .int a1, .long r1, am_U]) (st' := [.int ((a1 >>> ((Int64.toInt32 r1) &&& 31)) &&& (1 : Int32))]) (s' := s) rfl ?_
          refine fu_ite (fun h7 => fu_step (fu_if_eq_t rfl h7) ?_) (fun h7 => fu_step (fu_if_eq_f rfl h7) ?_)
          · refine fu_go 1 (pc' := 40) (ls' := [.ref 5, .int a1, .long r1, am_U]) (st' := [.int (0 : Int32)]) (s' := s) rfl ?_
            exact fu_leaf rfl ⟨.inl rfl, .inl rfl, .inl rfl, .inl rfl, trivial⟩
          · refine fu_go 2 (pc' := 40) (ls' := [.ref 5, .int a1, .long r1, am_U]) (st' := [.int (1 : Int32)]) (s' := s) rfl ?_
            exact fu_leaf rfl ⟨.inl rfl, .inl rfl, .inl rfl, .inl rfl, trivial⟩
        · refine fu_go 1 (pc' := 40) (ls' := [.ref 5, .int a1, .long r1, am_U]) (st' := [.int (0 : Int32)]) (s' := s) rfl ?_
          exact fu_leaf rfl ⟨.inl rfl, .inl rfl, .inl rfl, .inl rfl, trivial⟩
    · refine fu_go 1 (pc' := 40) (ls' := [.ref 5, .int a1, .long r1, am_U]) (st' := [.int (0 : Int32)]) (s' := s) rfl ?_
      exact fu_leaf rfl ⟨.inl rfl, .inl rfl, .inl rfl, .inl rfl, trivial⟩
  show fu_J _ _ (fc_X d (some .boolean) k_X8_isAtNumberOf 40 [am_U, am_U, am_U, am_U] [.int (fu_b j3)] s)
  exact fu_bret (b := j3) rfl rfl
/-! X2_takeReach -/
theorem el_X2_takeReach_25 (d : Nat) (hd : 3 ≤ d) : ∀ (n : Nat) (s : fu_S) (x1 : Int32) (x2 : Int32), fu_J (l_X2_takeReach_25 n s x1 x2) (fun u => Sum.elim (fun r => some (some (.int r.1), r.2)) (fun r => fc_X d (some .int) k_X2_takeReach 93 [am_U, .int r.1, am_U, am_U] [] r.2) u) (fc_X d (some .int) k_X2_takeReach 25 [.ref 47, .int x1, .int x2, am_U] [] s) := by
  intro n
  induction n with
  | zero => intros; exact fu_none
  | succ n ih =>
    intro s x1 x2
    rw [l_X2_takeReach_25]
    refine fu_go 2 (pc' := 28) (ls' := [.ref 47, .int x1, .int x2, am_U]) (st' := [.int (10 : Int32), .int x2]) (s' := s) rfl ?_
    refine fu_ite (fun h4 => fu_step (fu_ic_gt_t rfl h4) ?_) (fun h4 => fu_step (fu_ic_gt_f rfl h4) ?_)
    · refine fu_go 1 (pc' := 32) (ls' := [.ref 47, .int x1, .int x2, am_U]) (st' := [.ref 47]) (s' := s) rfl ?_
      refine fu_step (fu_getR rfl fc_47 rfl rfl) ?_
      refine fu_bind (fu_cVJ rfl rfl rfl rfl rfl (fu_recv fc_5 am_at_X8_isAtNumber rfl) (e_X8_isAtNumber d (by omega) s)) (fun r5 => ?_)
      show fu_J _ _ (fc_X d (some .int) k_X2_takeReach 38 [.ref 47, .int x1, .int x2, am_U] [.int (fu_b r5)] s)
      refine fu_ite (fun h6 => fu_step (fu_ib_eq_t rfl h6) ?_) (fun h6 => fu_step (fu_ib_eq_f rfl h6) ?_)
      · refine fu_go 1 (pc' := 42) (ls' := [.ref 47, .int x1, .int x2, am_U]) (st' := [.ref 47]) (s' := s) rfl ?_
        refine fu_step (fu_getR rfl fc_47 rfl rfl) ?_
        refine fu_go 1 (pc' := 46) (ls' := [.ref 47, .int x1, .int x2, am_U]) (st' := [.int x1, .ref 5]) (s' := s) rfl ?_
        refine fu_bind (fu_cVJ rfl rfl rfl rfl rfl (fu_recv fc_5 am_at_X8_isAtNumberOf rfl) (e_X8_isAtNumberOf d (by omega) s x1)) (fun r7 => ?_)
        show fu_J _ _ (fc_X d (some .int) k_X2_takeReach 49 [.ref 47, .int x1, .int x2, am_U] [.int (fu_b r7)] s)
        refine fu_ite (fun h8 => fu_step (fu_ib_eq_t rfl h8) ?_) (fun h8 => fu_step (fu_ib_eq_f rfl h8) ?_)
        · refine fu_go 1 (pc' := 53) (ls' := [.ref 47, .int x1, .int x2, am_U]) (st' := [.ref 47]) (s' := s) rfl ?_
          refine fu_step (fu_getR rfl fc_47 rfl rfl) ?_
          refine fu_go 1 (pc' := 57) (ls' := [.ref 47, .int x1, .int x2, am_U]) (st' := [.int (5 : Int32), .ref 5]) (s' := s) rfl ?_
          refine fu_bind (fu_cVJ rfl rfl rfl rfl rfl (fu_recv fc_5 am_at_X8_refuse rfl) (e_X8_refuse d (by omega) s (5 : Int32))) (fun r9 => ?_)
          show fu_J _ _ (fc_X d (some .int) k_X2_takeReach 60 [.ref 47, .int x1, .int x2, am_U] [.int (fu_b r9.1)] r9.2)
          refine fu_go 2 (pc' := 62) (ls' := [.ref 47, .int x1, .int x2, am_U]) (st' := [.int (-1 : Int32)]) (s' := r9.2) rfl ?_
          exact fu_iret rfl rfl
        · refine fu_go 1 (pc' := 64) (ls' := [.ref 47, .int x1, .int x2, am_U]) (st' := [.ref 47]) (s' := s) rfl ?_
          refine fu_step (fu_getR rfl fc_47 rfl rfl) ?_
          refine fu_go 2 (pc' := 70) (ls' := [.ref 47, .int x1, .int x2, am_U]) (st' := [.int (9 : Int32), .int (0 : Int32), .ref 5]) (s' := s) rfl ?_
          refine fu_bind (fu_cVJ rfl rfl rfl rfl rfl (fu_recv fc_5 am_at_X8_takeNumber rfl) (e_X8_takeNumber d (by omega) s (0 : Int32) (9 : Int32))) (fun r10 => ?_)
          show fu_J _ _ (fc_X d (some .int) k_X2_takeReach 73 [.ref 47, .int x1, .int x2, am_U] [.int r10.1] r10.2)
          refine fu_go 3 (pc' := 76) (ls' := [.ref 47, .int x1, .int x2, .int r10.1]) (st' := [.int (-1 : Int32), .int r10.1]) (s' := r10.2) rfl ?_
          refine fu_ite (fun h11 => fu_step (fu_ic_ne_t rfl h11) ?_) (fun h11 => fu_step (fu_ic_ne_f rfl h11) ?_)
          · refine fu_go 1 (pc' := 80) (ls' := [.ref 47, .int x1, .int x2, .int r10.1]) (st' := [.int (-1 : Int32)]) (s' := r10.2) rfl ?_
            exact fu_iret rfl rfl
          · refine fu_go 8 (pc' := 25) (ls' := [.ref 47, .int (x1 ||| ((1 : Int32) <<< (r10.1 &&& 31))), .int (x2 + (1 : Int32)), .int r10.1]) (st' := []) (s' := r10.2) rfl ?_
            exact fu_drop (ls' := [.ref 47, .int (x1 ||| ((1 : Int32) <<< (r10.1 &&& 31))), .int (x2 + (1 : Int32)), am_U]) ⟨.inr rfl, .inr rfl, .inr rfl, .inl rfl, trivial⟩ (ih r10.2 (x1 ||| ((1 : Int32) <<< (r10.1 &&& 31))) (x2 + (1 : Int32)))
      · exact fu_leaf rfl ⟨.inl rfl, .inr rfl, .inl rfl, .inl rfl, trivial⟩
    · exact fu_leaf rfl ⟨.inl rfl, .inr rfl, .inl rfl, .inl rfl, trivial⟩
set_option maxRecDepth 100000 in
theorem e_X2_takeReach (d : Nat) (hd : 4 ≤ d) (s : fu_S) : fu_J (f_X2_takeReach s) (fun r => some (some (.int r.1), r.2)) (am_D (fu_ho fc_sh) am_m d 28 [.ref 47] s) := by
  obtain ⟨d, rfl⟩ : ∃ e, d = e + 1 := ⟨d - 1, by omega⟩
  refine fu_enter (ls := [.ref 47, am_U, am_U, am_U]) am_at_X2_takeReach rfl rfl ?_
  show fu_J _ _ (fc_X d (some .int) k_X2_takeReach 0 [.ref 47, am_U, am_U, am_U] [] s)
  unfold f_X2_takeReach
  refine fu_go 3 (pc' := 3) (ls' := [.ref 47, .int (0 : Int32), am_U, am_U]) (st' := [.ref 47]) (s' := s) rfl ?_
  refine fu_step (fu_getR rfl fc_47 rfl rfl) ?_
  refine fu_bind (fu_cVJ rfl rfl rfl rfl rfl (fu_recv fc_5 am_at_X8_sortHere rfl) (e_X8_sortHere d (by omega) s)) (fun r1 => ?_)
  show fu_J _ _ (fc_X d (some .int) k_X2_takeReach 9 [.ref 47, .int (0 : Int32), am_U, am_U] [.int r1] s)
  refine fu_go 1 (pc' := 11) (ls' := [.ref 47, .int (0 : Int32), am_U, am_U]) (st' := [.int (108 : Int32), .int r1]) (s' := s) rfl ?_
  refine fu_ite (fun h2 => fu_step (fu_ic_eq_t rfl h2) ?_) (fun h2 => fu_step (fu_ic_eq_f rfl h2) ?_)
  · refine fu_go 1 (pc' := 17) (ls' := [.ref 47, .int (0 : Int32), am_U, am_U]) (st' := [.ref 47]) (s' := s) rfl ?_
    refine fu_step (fu_getR rfl fc_47 rfl rfl) ?_
    refine fu_let (fu_cVJ rfl rfl rfl rfl rfl (fu_recv fc_5 am_at_X8_next rfl) (e_X8_next d (by omega) s)) (fun r3 => ?_)
    show fu_J _ _ (fc_X d (some .int) k_X2_takeReach 23 [.ref 47, .int (0 : Int32), am_U, am_U] [] r3)
    refine fu_go 2 (pc' := 25) (ls' := [.ref 47, .int (0 : Int32), .int (0 : Int32), am_U]) (st' := []) (s' := r3) rfl ?_
    refine fu_drop (ls' := [.ref 47, .int (0 : Int32), .int (0 : Int32), am_U]) ⟨.inr rfl, .inr rfl, .inr rfl, .inl rfl, trivial⟩ ?_
    refine fu_bind (el_X2_takeReach_25 d (by omega) fu_N r3 (0 : Int32) (0 : Int32)) (fun u => fu_sum (fun a => ?_) (fun r12 => ?_))
    · exact fu_ret rfl
    show fu_J _ _ (fc_X d (some .int) k_X2_takeReach 93 [am_U, .int r12.1, am_U, am_U] [] r12.2)
    refine fu_go 1 (pc' := 94) (ls' := [am_U, .int r12.1, am_U, am_U]) (st' := [.int r12.1]) (s' := r12.2) rfl ?_
    exact fu_iret rfl rfl
  · refine fu_go 1 (pc' := 15) (ls' := [.ref 47, .int (0 : Int32), am_U, am_U]) (st' := [.int (0 : Int32)]) (s' := s) rfl ?_
    exact fu_iret rfl rfl
/-! X4_addPerson -/
set_option maxRecDepth 100000 in
theorem e_X4_addPerson (d : Nat) (hd : 1 ≤ d) (s : fu_S) (P0 : Nat) (hP0 : fc_is3 P0) (a1 : Int64) (a2 : Int32) (a3 : Int32) : fu_J (f_X4_addPerson s P0 a1 a2 a3) (fun r => some (some (.int r.1), r.2)) (am_D (fu_ho fc_sh) am_m d 67 [.ref P0, .long a1, .int a2, .int a3] s) := by
  obtain ⟨d, rfl⟩ : ∃ e, d = e + 1 := ⟨d - 1, by omega⟩
  refine fu_enter (ls := [.ref P0, .long a1, am_U, .int a2, .int a3]) am_at_X4_addPerson rfl rfl ?_
  show fu_J _ _ (fc_X d (some .int) k_X4_addPerson 0 [.ref P0, .long a1, am_U, .int a2, .int a3] [] s)
  unfold f_X4_addPerson
  refine fu_go 1 (pc' := 1) (ls' := [.ref P0, .long a1, am_U, .int a2, .int a3]) (st' := [.ref P0]) (s' := s) rfl ?_
  refine fu_step (fu_getI rfl hP0.1 rfl rfl) ?_
  refine fu_go 1 (pc' := 6) (ls' := [.ref P0, .long a1, am_U, .int a2, .int a3]) (st' := [.int (7 : Int32), .int (s.1 P0 4)]) (s' := s) rfl ?_
  refine fu_ite (fun h1 => fu_step (fu_ic_lt_t rfl h1) ?_) (fun h1 => fu_step (fu_ic_lt_f rfl h1) ?_)
  · refine fu_go 1 (pc' := 12) (ls' := [.ref P0, .long a1, am_U, .int a2, .int a3]) (st' := [.ref P0]) (s' := s) rfl ?_
    refine fu_step (fu_getR rfl hP0.1 rfl rfl) ?_
    refine fu_go 1 (pc' := 16) (ls' := [.ref P0, .long a1, am_U, .int a2, .int a3]) (st' := [.ref P0, .ref (P0 + 4)]) (s' := s) rfl ?_
    refine fu_step (fu_getI rfl hP0.1 rfl rfl) ?_
    refine fu_go 1 (pc' := 20) (ls' := [.ref P0, .long a1, am_U, .int a2, .int a3]) (st' := [.long a1, .int (s.1 P0 4), .ref (P0 + 4)]) (s' := s) rfl ?_
    refine fu_guard (fun h3 => fu_lets (b := (fu_pl s (P0 + 4) (Int32.toNatClampNeg (s.1 P0 4)) a1)) (fu_stL rfl hP0.2.2.2.2.1 h3) (fun s2 => ?_))
    refine fu_go 1 (pc' := 22) (ls' := [.ref P0, .long a1, am_U, .int a2, .int a3]) (st' := [.ref P0]) (s' := s2) rfl ?_
    refine fu_step (fu_getR rfl hP0.1 rfl rfl) ?_
    refine fu_go 1 (pc' := 26) (ls' := [.ref P0, .long a1, am_U, .int a2, .int a3]) (st' := [.ref P0, .ref (P0 + 5)]) (s' := s2) rfl ?_
    refine fu_step (fu_getI rfl hP0.1 rfl rfl) ?_
    refine fu_go 1 (pc' := 30) (ls' := [.ref P0, .long a1, am_U, .int a2, .int a3]) (st' := [.int a2, .int (s2.1 P0 4), .ref (P0 + 5)]) (s' := s2) rfl ?_
    refine fu_guard (fun h5 => fu_lets (b := (fu_pi s2 (P0 + 5) (Int32.toNatClampNeg (s2.1 P0 4)) a2)) (fu_stI rfl hP0.2.2.2.2.2.1 h5) (fun s4 => ?_))
    refine fu_go 1 (pc' := 32) (ls' := [.ref P0, .long a1, am_U, .int a2, .int a3]) (st' := [.ref P0]) (s' := s4) rfl ?_
    refine fu_step (fu_getR rfl hP0.1 rfl rfl) ?_
    refine fu_go 1 (pc' := 36) (ls' := [.ref P0, .long a1, am_U, .int a2, .int a3]) (st' := [.ref P0, .ref (P0 + 6)]) (s' := s4) rfl ?_
    refine fu_step (fu_getI rfl hP0.1 rfl rfl) ?_
    refine fu_go 1 (pc' := 41) (ls' := [.ref P0, .long a1, am_U, .int a2, .int a3]) (st' := [.int a3, .int (s4.1 P0 4), .ref (P0 + 6)]) (s' := s4) rfl ?_
    refine fu_guard (fun h7 => fu_lets (b := (fu_pi s4 (P0 + 6) (Int32.toNatClampNeg (s4.1 P0 4)) a3)) (fu_stI rfl hP0.2.2.2.2.2.2.1 h7) (fun s6 => ?_))
    refine fu_go 2 (pc' := 44) (ls' := [.ref P0, .long a1, am_U, .int a2, .int a3]) (st' := [.ref P0, .ref P0]) (s' := s6) rfl ?_
    refine fu_step (fu_getI rfl hP0.1 rfl rfl) ?_
    refine fu_go 2 (pc' := 49) (ls' := [.ref P0, .long a1, am_U, .int a2, .int a3]) (st' := [.int ((s6.1 P0 4) + (1 : Int32)), .ref P0]) (s' := s6) rfl ?_
    refine fu_lets (b := (fu_pi s6 P0 4 ((s6.1 P0 4) + (1 : Int32)))) (fu_putI rfl hP0.1 rfl rfl) (fun s8 => ?_)
    refine fu_go 1 (pc' := 53) (ls' := [.ref P0, .long a1, am_U, .int a2, .int a3]) (st' := [.ref P0]) (s' := s8) rfl ?_
    refine fu_step (fu_getI rfl hP0.1 rfl rfl) ?_
    refine fu_go 2 (pc' := 58) (ls' := [.ref P0, .long a1, am_U, .int a2, .int a3]) (st' := [.int ((s8.1 P0 4) - (1 : Int32))]) (s' := s8) rfl ?_
    exact fu_iret rfl rfl
  · refine fu_go 1 (pc' := 10) (ls' := [.ref P0, .long a1, am_U, .int a2, .int a3]) (st' := [.int (-1 : Int32)]) (s' := s) rfl ?_
    exact fu_iret rfl rfl
/-! X2_takePerson -/
set_option maxRecDepth 100000 in
theorem e_X2_takePerson (d : Nat) (hd : 5 ≤ d) (s : fu_S) : fu_J (f_X2_takePerson s) (fun r => some (some (.int (fu_b r.1)), r.2)) (am_D (fu_ho fc_sh) am_m d 27 [.ref 47] s) := by
  obtain ⟨d, rfl⟩ : ∃ e, d = e + 1 := ⟨d - 1, by omega⟩
  refine fu_enter (ls := [.ref 47, am_U, am_U, am_U, am_U]) am_at_X2_takePerson rfl rfl ?_
  show fu_J _ _ (fc_X d (some .boolean) k_X2_takePerson 0 [.ref 47, am_U, am_U, am_U, am_U] [] s)
  unfold f_X2_takePerson
  refine fu_go 1 (pc' := 1) (ls' := [.ref 47, am_U, am_U, am_U, am_U]) (st' := [.ref 47]) (s' := s) rfl ?_
  refine fu_step (fu_getR rfl fc_47 rfl rfl) ?_
  refine fu_step (fu_cV rfl rfl rfl rfl rfl (fu_recv fc_29 am_at_X4_people rfl) (fu_eq (e_X4_people d (by omega) s 29 fc_is3_29) rfl)) ?_
  show fu_J _ _ (fc_X d (some .boolean) k_X2_takePerson 7 [.ref 47, am_U, am_U, am_U, am_U] [.int (f_X4_people s 29)] s)
  refine fu_go 1 (pc' := 9) (ls' := [.ref 47, am_U, am_U, am_U, am_U]) (st' := [.int (7 : Int32), .int (f_X4_people s 29)]) (s' := s) rfl ?_
  refine fu_ite (fun h1 => fu_step (fu_ic_lt_t rfl h1) ?_) (fun h1 => fu_step (fu_ic_lt_f rfl h1) ?_)
  · refine fu_go 1 (pc' := 23) (ls' := [.ref 47, am_U, am_U, am_U, am_U]) (st' := [.ref 47]) (s' := s) rfl ?_
    refine fu_step (fu_getR rfl fc_47 rfl rfl) ?_
    refine fu_let (fu_cVJ rfl rfl rfl rfl rfl (fu_recv fc_5 am_at_X8_next rfl) (e_X8_next d (by omega) s)) (fun r2 => ?_)
    show fu_J _ _ (fc_X d (some .boolean) k_X2_takePerson 29 [.ref 47, am_U, am_U, am_U, am_U] [] r2)
    refine fu_go 1 (pc' := 30) (ls' := [.ref 47, am_U, am_U, am_U, am_U]) (st' := [.ref 47]) (s' := r2) rfl ?_
    refine fu_step (fu_getR rfl fc_47 rfl rfl) ?_
    refine fu_bind (fu_cVJ rfl rfl rfl rfl rfl (fu_recv fc_5 am_at_X8_nameHere rfl) (e_X8_nameHere d (by omega) r2)) (fun r3 => ?_)
    show fu_J _ _ (fc_X d (some .boolean) k_X2_takePerson 36 [.ref 47, am_U, am_U, am_U, am_U] [.long r3] r2)
    refine fu_go 3 (pc' := 41) (ls' := [.ref 47, .long r3, am_U, am_U, am_U]) (st' := [.long (-1 : Int64), .long r3]) (s' := r2) rfl ?_
    refine fu_ite (fun h4 => fu_step (fu_lc_ne_t rfl rfl h4) ?_) (fun h4 => fu_step (fu_lc_ne_f rfl rfl h4) ?_)
    · refine fu_go 1 (pc' := 46) (ls' := [.ref 47, .long r3, am_U, am_U, am_U]) (st' := [.ref 47]) (s' := r2) rfl ?_
      refine fu_step (fu_getR rfl fc_47 rfl rfl) ?_
      refine fu_go 1 (pc' := 50) (ls' := [.ref 47, .long r3, am_U, am_U, am_U]) (st' := [.int (2 : Int32), .ref 5]) (s' := r2) rfl ?_
      refine fu_bind (fu_cVJ rfl rfl rfl rfl rfl (fu_recv fc_5 am_at_X8_refuse rfl) (e_X8_refuse d (by omega) r2 (2 : Int32))) (fun r5 => ?_)
      show fu_J _ _ (fc_X d (some .boolean) k_X2_takePerson 53 [.ref 47, .long r3, am_U, am_U, am_U] [.int (fu_b r5.1)] r5.2)
      exact fu_bret (b := r5.1) rfl rfl
    · refine fu_go 1 (pc' := 55) (ls' := [.ref 47, .long r3, am_U, am_U, am_U]) (st' := [.ref 47]) (s' := r2) rfl ?_
      refine fu_step (fu_getR rfl fc_47 rfl rfl) ?_
      refine fu_go 1 (pc' := 59) (ls' := [.ref 47, .long r3, am_U, am_U, am_U]) (st' := [.long r3, .ref 29]) (s' := r2) rfl ?_
      refine fu_bind (fu_cVJ rfl rfl rfl rfl rfl (fu_recv fc_29 am_at_X4_personNamed rfl) (e_X4_personNamed d (by omega) r2 29 fc_is3_29 r3)) (fun r6 => ?_)
      show fu_J _ _ (fc_X d (some .boolean) k_X2_takePerson 62 [.ref 47, .long r3, am_U, am_U, am_U] [.int r6] r2)
      refine fu_go 1 (pc' := 63) (ls' := [.ref 47, .long r3, am_U, am_U, am_U]) (st' := [.int (-1 : Int32), .int r6]) (s' := r2) rfl ?_
      refine fu_ite (fun h7 => fu_step (fu_ic_eq_t rfl h7) ?_) (fun h7 => fu_step (fu_ic_eq_f rfl h7) ?_)
      · refine fu_go 1 (pc' := 76) (ls' := [.ref 47, .long r3, am_U, am_U, am_U]) (st' := [.ref 47]) (s' := r2) rfl ?_
        refine fu_step (fu_getR rfl fc_47 rfl rfl) ?_
        refine fu_let (fu_cVJ rfl rfl rfl rfl rfl (fu_recv fc_5 am_at_X8_next rfl) (e_X8_next d (by omega) r2)) (fun r8 => ?_)
        show fu_J _ _ (fc_X d (some .boolean) k_X2_takePerson 82 [.ref 47, .long r3, am_U, am_U, am_U] [] r8)
        refine fu_go 1 (pc' := 83) (ls' := [.ref 47, .long r3, am_U, am_U, am_U]) (st' := [.ref 47]) (s' := r8) rfl ?_
        refine fu_step (fu_getR rfl fc_47 rfl rfl) ?_
        refine fu_go 1 (pc' := 88) (ls' := [.ref 47, .long r3, am_U, am_U, am_U]) (st' := [.int (107 : Int32), .ref 5]) (s' := r8) rfl ?_
        refine fu_bind (fu_cVJ rfl rfl rfl rfl rfl (fu_recv fc_5 am_at_X8_take rfl) (e_X8_take d (by omega) r8 (107 : Int32))) (fun r9 => ?_)
        show fu_J _ _ (fc_X d (some .boolean) k_X2_takePerson 91 [.ref 47, .long r3, am_U, am_U, am_U] [.int (fu_b r9.1)] r9.2)
        refine fu_bind (V := fun j10 : Int32 × fu_S => fc_X d (some .boolean) k_X2_takePerson 108 [.ref 47, .long r3, am_U, am_U, am_U] [.int j10.1] j10.2) ?_ (fun j10 => ?_)
        · refine fu_ite (fun h11 => fu_step (fu_ib_eq_t rfl h11) ?_) (fun h11 => fu_step (fu_ib_eq_f rfl h11) ?_)
          · refine fu_go 1 (pc' := 95) (ls' := [.ref 47, .long r3, am_U, am_U, am_U]) (st' := [.ref 47]) (s' := r9.2) rfl ?_
            refine fu_step (fu_getR rfl fc_47 rfl rfl) ?_
            refine fu_go 2 (pc' := 101) (ls' := [.ref 47, .long r3, am_U, am_U, am_U]) (st' := [.int (59 : Int32), .int (0 : Int32), .ref 5]) (s' := r9.2) rfl ?_
            refine fu_bind (fu_cVJ rfl rfl rfl rfl rfl (fu_recv fc_5 am_at_X8_takeNumber rfl) (e_X8_takeNumber d (by omega) r9.2 (0 : Int32) (59 : Int32))) (fun r12 => ?_)
            show fu_J _ _ (fc_X d (some .boolean) k_X2_takePerson 104 [.ref 47, .long r3, am_U, am_U, am_U] [.int r12.1] r12.2)
            refine fu_go 1 (pc' := 108) (ls' := [.ref 47, .long r3, am_U, am_U, am_U]) (st' := [.int r12.1]) (s' := r12.2) rfl ?_
            exact fu_leaf rfl ⟨.inr rfl, .inr rfl, .inl rfl, .inl rfl, .inl rfl, trivial⟩
          · refine fu_go 1 (pc' := 108) (ls' := [.ref 47, .long r3, am_U, am_U, am_U]) (st' := [.int (-1 : Int32)]) (s' := r9.2) rfl ?_
            exact fu_leaf rfl ⟨.inr rfl, .inr rfl, .inl rfl, .inl rfl, .inl rfl, trivial⟩
        show fu_J _ _ (fc_X d (some .boolean) k_X2_takePerson 108 [.ref 47, .long r3, am_U, am_U, am_U] [.int j10.1] j10.2)
        refine fu_go 3 (pc' := 111) (ls' := [.ref 47, .long r3, am_U, .int j10.1, am_U]) (st' := [.int (-1 : Int32), .int j10.1]) (s' := j10.2) rfl ?_
        refine fu_ite (fun h13 => fu_step (fu_ic_ne_t rfl h13) ?_) (fun h13 => fu_step (fu_ic_ne_f rfl h13) ?_)
        · refine fu_go 1 (pc' := 115) (ls' := [.ref 47, .long r3, am_U, .int j10.1, am_U]) (st' := [.int (0 : Int32)]) (s' := j10.2) rfl ?_
          exact fu_bret (b := false) rfl rfl
        · refine fu_go 1 (pc' := 117) (ls' := [.ref 47, .long r3, am_U, .int j10.1, am_U]) (st' := [.ref 47]) (s' := j10.2) rfl ?_
          refine fu_bind (fu_cVJ rfl rfl rfl rfl rfl (fu_recv fc_47 am_at_X2_takeReach rfl) (e_X2_takeReach d (by omega) j10.2)) (fun r14 => ?_)
          show fu_J _ _ (fc_X d (some .boolean) k_X2_takePerson 120 [.ref 47, .long r3, am_U, .int j10.1, am_U] [.int r14.1] r14.2)
          refine fu_go 3 (pc' := 125) (ls' := [.ref 47, .long r3, am_U, .int j10.1, .int r14.1]) (st' := [.int (-1 : Int32), .int r14.1]) (s' := r14.2) rfl ?_
          refine fu_ite (fun h15 => fu_step (fu_ic_ne_t rfl h15) ?_) (fun h15 => fu_step (fu_ic_ne_f rfl h15) ?_)
          · refine fu_go 1 (pc' := 129) (ls' := [.ref 47, .long r3, am_U, .int j10.1, .int r14.1]) (st' := [.int (0 : Int32)]) (s' := r14.2) rfl ?_
            exact fu_bret (b := false) rfl rfl
          · refine fu_go 1 (pc' := 131) (ls' := [.ref 47, .long r3, am_U, .int j10.1, .int r14.1]) (st' := [.ref 47]) (s' := r14.2) rfl ?_
            refine fu_step (fu_getR rfl fc_47 rfl rfl) ?_
            refine fu_go 3 (pc' := 138) (ls' := [.ref 47, .long r3, am_U, .int j10.1, .int r14.1]) (st' := [.int r14.1, .int j10.1, .long r3, .ref 29]) (s' := r14.2) rfl ?_
            refine fu_bind (fu_cVJ rfl rfl rfl rfl rfl (fu_recv fc_29 am_at_X4_addPerson rfl) (e_X4_addPerson d (by omega) r14.2 29 fc_is3_29 r3 j10.1 r14.1)) (fun r16 => ?_)
            show fu_J _ _ (fc_X d (some .boolean) k_X2_takePerson 141 [.ref 47, .long r3, am_U, .int j10.1, .int r14.1] [.int r16.1] r16.2)
            refine fu_go 2 (pc' := 143) (ls' := [.ref 47, .long r3, am_U, .int j10.1, .int r14.1]) (st' := [.int (1 : Int32)]) (s' := r16.2) rfl ?_
            exact fu_bret (b := true) rfl rfl
      · refine fu_go 1 (pc' := 67) (ls' := [.ref 47, .long r3, am_U, am_U, am_U]) (st' := [.ref 47]) (s' := r2) rfl ?_
        refine fu_step (fu_getR rfl fc_47 rfl rfl) ?_
        refine fu_go 1 (pc' := 71) (ls' := [.ref 47, .long r3, am_U, am_U, am_U]) (st' := [.int (3 : Int32), .ref 5]) (s' := r2) rfl ?_
        refine fu_bind (fu_cVJ rfl rfl rfl rfl rfl (fu_recv fc_5 am_at_X8_refuse rfl) (e_X8_refuse d (by omega) r2 (3 : Int32))) (fun r17 => ?_)
        show fu_J _ _ (fc_X d (some .boolean) k_X2_takePerson 74 [.ref 47, .long r3, am_U, am_U, am_U] [.int (fu_b r17.1)] r17.2)
        exact fu_bret (b := r17.1) rfl rfl
  · refine fu_go 1 (pc' := 13) (ls' := [.ref 47, am_U, am_U, am_U, am_U]) (st' := [.ref 47]) (s' := s) rfl ?_
    refine fu_step (fu_getR rfl fc_47 rfl rfl) ?_
    refine fu_go 1 (pc' := 18) (ls' := [.ref 47, am_U, am_U, am_U, am_U]) (st' := [.int (6 : Int32), .ref 5]) (s' := s) rfl ?_
    refine fu_bind (fu_cVJ rfl rfl rfl rfl rfl (fu_recv fc_5 am_at_X8_refuse rfl) (e_X8_refuse d (by omega) s (6 : Int32))) (fun r18 => ?_)
    show fu_J _ _ (fc_X d (some .boolean) k_X2_takePerson 21 [.ref 47, am_U, am_U, am_U, am_U] [.int (fu_b r18.1)] r18.2)
    exact fu_bret (b := r18.1) rfl rfl
