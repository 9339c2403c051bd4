/-! printed by wip/whole/lift/lift.py: the small machine comes to what the functions answer -/
/-! X12_isReach -/
set_option maxRecDepth 100000 in
theorem e_X12_isReach (d : Nat) (hd : 2 ≤ d) (s : fu_S) : fu_J (some (f_X12_isReach s)) (fun r => some (some (.int (fu_b r)), s)) (am_D (fu_ho fr_sh) am_m d 268 [.ref 117] s) := by
  obtain ⟨d, rfl⟩ : ∃ e, d = e + 1 := ⟨d - 1, by omega⟩
  refine fu_enter (ls := [.ref 117]) am_at_X12_isReach rfl rfl ?_
  show fu_J _ _ (fr_X d (some .boolean) k_X12_isReach 0 [.ref 117] [] s)
  unfold f_X12_isReach
  refine fu_go 7 (pc' := 12) (ls' := [.ref 117]) (st' := [.int (0 : Int32), .int (104 : Int32), .int (99 : Int32), .int (97 : Int32), .int (101 : Int32), .int (114 : Int32), .ref 117]) (s' := s) rfl ?_
  refine fu_step (fu_cS rfl rfl rfl rfl rfl rfl (fu_eq (e_X12_spelled d (by omega) s (114 : Int32) (101 : Int32) (97 : Int32) (99 : Int32) (104 : Int32) (0 : Int32)) rfl)) ?_
  show fu_J _ _ (fr_X d (some .boolean) k_X12_isReach 15 [.ref 117] [.long (f_X12_spelled (114 : Int32) (101 : Int32) (97 : Int32) (99 : Int32) (104 : Int32) (0 : Int32)), .ref 117] s)
  refine fu_step (fu_cV rfl rfl rfl rfl rfl (fu_recv fr_117 am_at_X12_isWord rfl) (fu_eq (e_X12_isWord d (by omega) s (f_X12_spelled (114 : Int32) (101 : Int32) (97 : Int32) (99 : Int32) (104 : Int32) (0 : Int32))) rfl)) ?_
  show fu_J _ _ (fr_X d (some .boolean) k_X12_isReach 18 [.ref 117] [.int (fu_b (f_X12_isWord s (f_X12_spelled (114 : Int32) (101 : Int32) (97 : Int32) (99 : Int32) (104 : Int32) (0 : Int32))))] s)
  exact fu_bret (b := (f_X12_isWord s (f_X12_spelled (114 : Int32) (101 : Int32) (97 : Int32) (99 : Int32) (104 : Int32) (0 : Int32)))) rfl rfl
/-! X12_isThing -/
set_option maxRecDepth 100000 in
theorem e_X12_isThing (d : Nat) (hd : 2 ≤ d) (s : fu_S) : fu_J (some (f_X12_isThing s)) (fun r => some (some (.int (fu_b r)), s)) (am_D (fu_ho fr_sh) am_m d 269 [.ref 117] s) := by
  obtain ⟨d, rfl⟩ : ∃ e, d = e + 1 := ⟨d - 1, by omega⟩
  refine fu_enter (ls := [.ref 117]) am_at_X12_isThing rfl rfl ?_
  show fu_J _ _ (fr_X d (some .boolean) k_X12_isThing 0 [.ref 117] [] s)
  unfold f_X12_isThing
  refine fu_go 7 (pc' := 12) (ls' := [.ref 117]) (st' := [.int (0 : Int32), .int (103 : Int32), .int (110 : Int32), .int (105 : Int32), .int (104 : Int32), .int (116 : Int32), .ref 117]) (s' := s) rfl ?_
  refine fu_step (fu_cS rfl rfl rfl rfl rfl rfl (fu_eq (e_X12_spelled d (by omega) s (116 : Int32) (104 : Int32) (105 : Int32) (110 : Int32) (103 : Int32) (0 : Int32)) rfl)) ?_
  show fu_J _ _ (fr_X d (some .boolean) k_X12_isThing 15 [.ref 117] [.long (f_X12_spelled (116 : Int32) (104 : Int32) (105 : Int32) (110 : Int32) (103 : Int32) (0 : Int32)), .ref 117] s)
  refine fu_step (fu_cV rfl rfl rfl rfl rfl (fu_recv fr_117 am_at_X12_isWord rfl) (fu_eq (e_X12_isWord d (by omega) s (f_X12_spelled (116 : Int32) (104 : Int32) (105 : Int32) (110 : Int32) (103 : Int32) (0 : Int32))) rfl)) ?_
  show fu_J _ _ (fr_X d (some .boolean) k_X12_isThing 18 [.ref 117] [.int (fu_b (f_X12_isWord s (f_X12_spelled (116 : Int32) (104 : Int32) (105 : Int32) (110 : Int32) (103 : Int32) (0 : Int32))))] s)
  exact fu_bret (b := (f_X12_isWord s (f_X12_spelled (116 : Int32) (104 : Int32) (105 : Int32) (110 : Int32) (103 : Int32) (0 : Int32)))) rfl rfl
/-! X12_isWorth -/
set_option maxRecDepth 100000 in
theorem e_X12_isWorth (d : Nat) (hd : 2 ≤ d) (s : fu_S) : fu_J (some (f_X12_isWorth s)) (fun r => some (some (.int (fu_b r)), s)) (am_D (fu_ho fr_sh) am_m d 270 [.ref 117] s) := by
  obtain ⟨d, rfl⟩ : ∃ e, d = e + 1 := ⟨d - 1, by omega⟩
  refine fu_enter (ls := [.ref 117]) am_at_X12_isWorth rfl rfl ?_
  show fu_J _ _ (fr_X d (some .boolean) k_X12_isWorth 0 [.ref 117] [] s)
  unfold f_X12_isWorth
  refine fu_go 7 (pc' := 12) (ls' := [.ref 117]) (st' := [.int (0 : Int32), .int (104 : Int32), .int (116 : Int32), .int (114 : Int32), .int (111 : Int32), .int (119 : Int32), .ref 117]) (s' := s) rfl ?_
  refine fu_step (fu_cS rfl rfl rfl rfl rfl rfl (fu_eq (e_X12_spelled d (by omega) s (119 : Int32) (111 : Int32) (114 : Int32) (116 : Int32) (104 : Int32) (0 : Int32)) rfl)) ?_
  show fu_J _ _ (fr_X d (some .boolean) k_X12_isWorth 15 [.ref 117] [.long (f_X12_spelled (119 : Int32) (111 : Int32) (114 : Int32) (116 : Int32) (104 : Int32) (0 : Int32)), .ref 117] s)
  refine fu_step (fu_cV rfl rfl rfl rfl rfl (fu_recv fr_117 am_at_X12_isWord rfl) (fu_eq (e_X12_isWord d (by omega) s (f_X12_spelled (119 : Int32) (111 : Int32) (114 : Int32) (116 : Int32) (104 : Int32) (0 : Int32))) rfl)) ?_
  show fu_J _ _ (fr_X d (some .boolean) k_X12_isWorth 18 [.ref 117] [.int (fu_b (f_X12_isWord s (f_X12_spelled (119 : Int32) (111 : Int32) (114 : Int32) (116 : Int32) (104 : Int32) (0 : Int32))))] s)
  exact fu_bret (b := (f_X12_isWord s (f_X12_spelled (119 : Int32) (111 : Int32) (114 : Int32) (116 : Int32) (104 : Int32) (0 : Int32)))) rfl rfl
/-! X12_stepWord -/
set_option maxRecDepth 100000 in
theorem e_X12_stepWord (d : Nat) (hd : 2 ≤ d) (s : fu_S) : fu_J (some (f_X12_stepWord s)) (fun r => some (some (.int r), s)) (am_D (fu_ho fr_sh) am_m d 271 [.ref 117] s) := by
  obtain ⟨d, rfl⟩ : ∃ e, d = e + 1 := ⟨d - 1, by omega⟩
  refine fu_enter (ls := [.ref 117]) am_at_X12_stepWord rfl rfl ?_
  show fu_J _ _ (fr_X d (some .int) k_X12_stepWord 0 [.ref 117] [] s)
  unfold f_X12_stepWord
  refine fu_go 7 (pc' := 11) (ls' := [.ref 117]) (st' := [.int (0 : Int32), .int (0 : Int32), .int (116 : Int32), .int (105 : Int32), .int (97 : Int32), .int (119 : Int32), .ref 117]) (s' := s) rfl ?_
  refine fu_step (fu_cS rfl rfl rfl rfl rfl rfl (fu_eq (e_X12_spelled d (by omega) s (119 : Int32) (97 : Int32) (105 : Int32) (116 : Int32) (0 : Int32) (0 : Int32)) rfl)) ?_
  show fu_J _ _ (fr_X d (some .int) k_X12_stepWord 14 [.ref 117] [.long (f_X12_spelled (119 : Int32) (97 : Int32) (105 : Int32) (116 : Int32) (0 : Int32) (0 : Int32)), .ref 117] s)
  refine fu_step (fu_cV rfl rfl rfl rfl rfl (fu_recv fr_117 am_at_X12_isWord rfl) (fu_eq (e_X12_isWord d (by omega) s (f_X12_spelled (119 : Int32) (97 : Int32) (105 : Int32) (116 : Int32) (0 : Int32) (0 : Int32))) rfl)) ?_
  show fu_J _ _ (fr_X d (some .int) k_X12_stepWord 17 [.ref 117] [.int (fu_b (f_X12_isWord s (f_X12_spelled (119 : Int32) (97 : Int32) (105 : Int32) (116 : Int32) (0 : Int32) (0 : Int32))))] s)
  refine fu_iteS (fun h1 => fu_step (fu_ib_eq_t rfl h1) ?_) (fun h1 => fu_step (fu_ib_eq_f rfl h1) ?_)
  · refine fu_go 1 (pc' := 21) (ls' := [.ref 117]) (st' := [.int (0 : Int32)]) (s' := s) rfl ?_
    exact fu_iret rfl rfl
  · refine fu_go 7 (pc' := 33) (ls' := [.ref 117]) (st' := [.int (0 : Int32), .int (0 : Int32), .int (101 : Int32), .int (115 : Int32), .int (111 : Int32), .int (108 : Int32), .ref 117]) (s' := s) rfl ?_
    refine fu_step (fu_cS rfl rfl rfl rfl rfl rfl (fu_eq (e_X12_spelled d (by omega) s (108 : Int32) (111 : Int32) (115 : Int32) (101 : Int32) (0 : Int32) (0 : Int32)) rfl)) ?_
    show fu_J _ _ (fr_X d (some .int) k_X12_stepWord 36 [.ref 117] [.long (f_X12_spelled (108 : Int32) (111 : Int32) (115 : Int32) (101 : Int32) (0 : Int32) (0 : Int32)), .ref 117] s)
    refine fu_step (fu_cV rfl rfl rfl rfl rfl (fu_recv fr_117 am_at_X12_isWord rfl) (fu_eq (e_X12_isWord d (by omega) s (f_X12_spelled (108 : Int32) (111 : Int32) (115 : Int32) (101 : Int32) (0 : Int32) (0 : Int32))) rfl)) ?_
    show fu_J _ _ (fr_X d (some .int) k_X12_stepWord 39 [.ref 117] [.int (fu_b (f_X12_isWord s (f_X12_spelled (108 : Int32) (111 : Int32) (115 : Int32) (101 : Int32) (0 : Int32) (0 : Int32))))] s)
    refine fu_iteS (fun h2 => fu_step (fu_ib_eq_t rfl h2) ?_) (fun h2 => fu_step (fu_ib_eq_f rfl h2) ?_)
    · refine fu_go 1 (pc' := 43) (ls' := [.ref 117]) (st' := [.int (1 : Int32)]) (s' := s) rfl ?_
      exact fu_iret rfl rfl
    · refine fu_go 7 (pc' := 57) (ls' := [.ref 117]) (st' := [.int (99 : Int32), .int (116 : Int32), .int (97 : Int32), .int (114 : Int32), .int (99 : Int32), .int (115 : Int32), .ref 117]) (s' := s) rfl ?_
      refine fu_step (fu_cS rfl rfl rfl rfl rfl rfl (fu_eq (e_X12_spelled d (by omega) s (115 : Int32) (99 : Int32) (114 : Int32) (97 : Int32) (116 : Int32) (99 : Int32)) rfl)) ?_
      show fu_J _ _ (fr_X d (some .int) k_X12_stepWord 60 [.ref 117] [.long (f_X12_spelled (115 : Int32) (99 : Int32) (114 : Int32) (97 : Int32) (116 : Int32) (99 : Int32)), .ref 117] s)
      refine fu_go 6 (pc' := 72) (ls' := [.ref 117]) (st' := [.long ((((f_X12_spelled (115 : Int32) (99 : Int32) (114 : Int32) (97 : Int32) (116 : Int32) (99 : Int32)) * (32 : Int64)) + (104 : Int64)) - (96 : Int64)), .ref 117]) (s' := s) rfl ?_
      refine fu_step (fu_cV rfl rfl rfl rfl rfl (fu_recv fr_117 am_at_X12_isWord rfl) (fu_eq (e_X12_isWord d (by omega) s ((((f_X12_spelled (115 : Int32) (99 : Int32) (114 : Int32) (97 : Int32) (116 : Int32) (99 : Int32)) * (32 : Int64)) + (104 : Int64)) - (96 : Int64))) rfl)) ?_
      show fu_J _ _ (fr_X d (some .int) k_X12_stepWord 75 [.ref 117] [.int (fu_b (f_X12_isWord s ((((f_X12_spelled (115 : Int32) (99 : Int32) (114 : Int32) (97 : Int32) (116 : Int32) (99 : Int32)) * (32 : Int64)) + (104 : Int64)) - (96 : Int64))))] s)
      refine fu_iteS (fun h3 => fu_step (fu_ib_eq_t rfl h3) ?_) (fun h3 => fu_step (fu_ib_eq_f rfl h3) ?_)
      · refine fu_go 1 (pc' := 79) (ls' := [.ref 117]) (st' := [.int (2 : Int32)]) (s' := s) rfl ?_
        exact fu_iret rfl rfl
      · refine fu_go 7 (pc' := 90) (ls' := [.ref 117]) (st' := [.int (0 : Int32), .int (0 : Int32), .int (0 : Int32), .int (121 : Int32), .int (110 : Int32), .int (97 : Int32), .ref 117]) (s' := s) rfl ?_
        refine fu_step (fu_cS rfl rfl rfl rfl rfl rfl (fu_eq (e_X12_spelled d (by omega) s (97 : Int32) (110 : Int32) (121 : Int32) (0 : Int32) (0 : Int32) (0 : Int32)) rfl)) ?_
        show fu_J _ _ (fr_X d (some .int) k_X12_stepWord 93 [.ref 117] [.long (f_X12_spelled (97 : Int32) (110 : Int32) (121 : Int32) (0 : Int32) (0 : Int32) (0 : Int32)), .ref 117] s)
        refine fu_step (fu_cV rfl rfl rfl rfl rfl (fu_recv fr_117 am_at_X12_isWord rfl) (fu_eq (e_X12_isWord d (by omega) s (f_X12_spelled (97 : Int32) (110 : Int32) (121 : Int32) (0 : Int32) (0 : Int32) (0 : Int32))) rfl)) ?_
        show fu_J _ _ (fr_X d (some .int) k_X12_stepWord 96 [.ref 117] [.int (fu_b (f_X12_isWord s (f_X12_spelled (97 : Int32) (110 : Int32) (121 : Int32) (0 : Int32) (0 : Int32) (0 : Int32))))] s)
        refine fu_iteS (fun h4 => fu_step (fu_ib_eq_t rfl h4) ?_) (fun h4 => fu_step (fu_ib_eq_f rfl h4) ?_)
        · refine fu_go 1 (pc' := 100) (ls' := [.ref 117]) (st' := [.int (3 : Int32)]) (s' := s) rfl ?_
          exact fu_iret rfl rfl
        · refine fu_go 7 (pc' := 112) (ls' := [.ref 117]) (st' := [.int (0 : Int32), .int (0 : Int32), .int (110 : Int32), .int (101 : Int32), .int (104 : Int32), .int (119 : Int32), .ref 117]) (s' := s) rfl ?_
          refine fu_step (fu_cS rfl rfl rfl rfl rfl rfl (fu_eq (e_X12_spelled d (by omega) s (119 : Int32) (104 : Int32) (101 : Int32) (110 : Int32) (0 : Int32) (0 : Int32)) rfl)) ?_
          show fu_J _ _ (fr_X d (some .int) k_X12_stepWord 115 [.ref 117] [.long (f_X12_spelled (119 : Int32) (104 : Int32) (101 : Int32) (110 : Int32) (0 : Int32) (0 : Int32)), .ref 117] s)
          refine fu_step (fu_cV rfl rfl rfl rfl rfl (fu_recv fr_117 am_at_X12_isWord rfl) (fu_eq (e_X12_isWord d (by omega) s (f_X12_spelled (119 : Int32) (104 : Int32) (101 : Int32) (110 : Int32) (0 : Int32) (0 : Int32))) rfl)) ?_
          show fu_J _ _ (fr_X d (some .int) k_X12_stepWord 118 [.ref 117] [.int (fu_b (f_X12_isWord s (f_X12_spelled (119 : Int32) (104 : Int32) (101 : Int32) (110 : Int32) (0 : Int32) (0 : Int32))))] s)
          refine fu_iteS (fun h5 => fu_step (fu_ib_eq_t rfl h5) ?_) (fun h5 => fu_step (fu_ib_eq_f rfl h5) ?_)
          · refine fu_go 1 (pc' := 122) (ls' := [.ref 117]) (st' := [.int (4 : Int32)]) (s' := s) rfl ?_
            exact fu_iret rfl rfl
          · refine fu_go 7 (pc' := 134) (ls' := [.ref 117]) (st' := [.int (0 : Int32), .int (0 : Int32), .int (112 : Int32), .int (111 : Int32), .int (111 : Int32), .int (108 : Int32), .ref 117]) (s' := s) rfl ?_
            refine fu_step (fu_cS rfl rfl rfl rfl rfl rfl (fu_eq (e_X12_spelled d (by omega) s (108 : Int32) (111 : Int32) (111 : Int32) (112 : Int32) (0 : Int32) (0 : Int32)) rfl)) ?_
            show fu_J _ _ (fr_X d (some .int) k_X12_stepWord 137 [.ref 117] [.long (f_X12_spelled (108 : Int32) (111 : Int32) (111 : Int32) (112 : Int32) (0 : Int32) (0 : Int32)), .ref 117] s)
            refine fu_step (fu_cV rfl rfl rfl rfl rfl (fu_recv fr_117 am_at_X12_isWord rfl) (fu_eq (e_X12_isWord d (by omega) s (f_X12_spelled (108 : Int32) (111 : Int32) (111 : Int32) (112 : Int32) (0 : Int32) (0 : Int32))) rfl)) ?_
            show fu_J _ _ (fr_X d (some .int) k_X12_stepWord 140 [.ref 117] [.int (fu_b (f_X12_isWord s (f_X12_spelled (108 : Int32) (111 : Int32) (111 : Int32) (112 : Int32) (0 : Int32) (0 : Int32))))] s)
            refine fu_iteS (fun h6 => fu_step (fu_ib_eq_t rfl h6) ?_) (fun h6 => fu_step (fu_ib_eq_f rfl h6) ?_)
            · refine fu_go 1 (pc' := 144) (ls' := [.ref 117]) (st' := [.int (5 : Int32)]) (s' := s) rfl ?_
              exact fu_iret rfl rfl
            · refine fu_go 7 (pc' := 156) (ls' := [.ref 117]) (st' := [.int (0 : Int32), .int (0 : Int32), .int (112 : Int32), .int (111 : Int32), .int (116 : Int32), .int (115 : Int32), .ref 117]) (s' := s) rfl ?_
              refine fu_step (fu_cS rfl rfl rfl rfl rfl rfl (fu_eq (e_X12_spelled d (by omega) s (115 : Int32) (116 : Int32) (111 : Int32) (112 : Int32) (0 : Int32) (0 : Int32)) rfl)) ?_
              show fu_J _ _ (fr_X d (some .int) k_X12_stepWord 159 [.ref 117] [.long (f_X12_spelled (115 : Int32) (116 : Int32) (111 : Int32) (112 : Int32) (0 : Int32) (0 : Int32)), .ref 117] s)
              refine fu_step (fu_cV rfl rfl rfl rfl rfl (fu_recv fr_117 am_at_X12_isWord rfl) (fu_eq (e_X12_isWord d (by omega) s (f_X12_spelled (115 : Int32) (116 : Int32) (111 : Int32) (112 : Int32) (0 : Int32) (0 : Int32))) rfl)) ?_
              show fu_J _ _ (fr_X d (some .int) k_X12_stepWord 162 [.ref 117] [.int (fu_b (f_X12_isWord s (f_X12_spelled (115 : Int32) (116 : Int32) (111 : Int32) (112 : Int32) (0 : Int32) (0 : Int32))))] s)
              refine fu_letS (V := fun j7 : Int32 => fr_X d (some .int) k_X12_stepWord 171 [am_U] [.int j7] s) ?_ (fun j7 => ?_)
              · refine fu_iteS (fun h8 => fu_step (fu_ib_eq_t rfl h8) ?_) (fun h8 => fu_step (fu_ib_eq_f rfl h8) ?_)
                · refine fu_go 2 (pc' := 171) (ls' := [.ref 117]) (st' := [.int (6 : Int32)]) (s' := s) rfl ?_
                  exact fu_leaf rfl ⟨.inl rfl, trivial⟩
                · refine fu_go 1 (pc' := 171) (ls' := [.ref 117]) (st' := [.int (-1 : Int32)]) (s' := s) rfl ?_
                  exact fu_leaf rfl ⟨.inl rfl, trivial⟩
              show fu_J _ _ (fr_X d (some .int) k_X12_stepWord 171 [am_U] [.int j7] s)
              exact fu_iret rfl rfl
/-! X12_testWord -/
set_option maxRecDepth 100000 in
theorem e_X12_testWord (d : Nat) (hd : 2 ≤ d) (s : fu_S) : fu_J (some (f_X12_testWord s)) (fun r => some (some (.int r), s)) (am_D (fu_ho fr_sh) am_m d 272 [.ref 117] s) := by
  obtain ⟨d, rfl⟩ : ∃ e, d = e + 1 := ⟨d - 1, by omega⟩
  refine fu_enter (ls := [.ref 117]) am_at_X12_testWord rfl rfl ?_
  show fu_J _ _ (fr_X d (some .int) k_X12_testWord 0 [.ref 117] [] s)
  unfold f_X12_testWord
  refine fu_go 7 (pc' := 12) (ls' := [.ref 117]) (st' := [.int (0 : Int32), .int (100 : Int32), .int (110 : Int32), .int (117 : Int32), .int (111 : Int32), .int (102 : Int32), .ref 117]) (s' := s) rfl ?_
  refine fu_step (fu_cS rfl rfl rfl rfl rfl rfl (fu_eq (e_X12_spelled d (by omega) s (102 : Int32) (111 : Int32) (117 : Int32) (110 : Int32) (100 : Int32) (0 : Int32)) rfl)) ?_
  show fu_J _ _ (fr_X d (some .int) k_X12_testWord 15 [.ref 117] [.long (f_X12_spelled (102 : Int32) (111 : Int32) (117 : Int32) (110 : Int32) (100 : Int32) (0 : Int32)), .ref 117] s)
  refine fu_step (fu_cV rfl rfl rfl rfl rfl (fu_recv fr_117 am_at_X12_isWord rfl) (fu_eq (e_X12_isWord d (by omega) s (f_X12_spelled (102 : Int32) (111 : Int32) (117 : Int32) (110 : Int32) (100 : Int32) (0 : Int32))) rfl)) ?_
  show fu_J _ _ (fr_X d (some .int) k_X12_testWord 18 [.ref 117] [.int (fu_b (f_X12_isWord s (f_X12_spelled (102 : Int32) (111 : Int32) (117 : Int32) (110 : Int32) (100 : Int32) (0 : Int32))))] s)
  refine fu_iteS (fun h1 => fu_step (fu_ib_eq_t rfl h1) ?_) (fun h1 => fu_step (fu_ib_eq_f rfl h1) ?_)
  · refine fu_go 1 (pc' := 22) (ls' := [.ref 117]) (st' := [.int (0 : Int32)]) (s' := s) rfl ?_
    exact fu_iret rfl rfl
  · refine fu_go 7 (pc' := 32) (ls' := [.ref 117]) (st' := [.int (0 : Int32), .int (0 : Int32), .int (0 : Int32), .int (0 : Int32), .int (112 : Int32), .int (117 : Int32), .ref 117]) (s' := s) rfl ?_
    refine fu_step (fu_cS rfl rfl rfl rfl rfl rfl (fu_eq (e_X12_spelled d (by omega) s (117 : Int32) (112 : Int32) (0 : Int32) (0 : Int32) (0 : Int32) (0 : Int32)) rfl)) ?_
    show fu_J _ _ (fr_X d (some .int) k_X12_testWord 35 [.ref 117] [.long (f_X12_spelled (117 : Int32) (112 : Int32) (0 : Int32) (0 : Int32) (0 : Int32) (0 : Int32)), .ref 117] s)
    refine fu_step (fu_cV rfl rfl rfl rfl rfl (fu_recv fr_117 am_at_X12_isWord rfl) (fu_eq (e_X12_isWord d (by omega) s (f_X12_spelled (117 : Int32) (112 : Int32) (0 : Int32) (0 : Int32) (0 : Int32) (0 : Int32))) rfl)) ?_
    show fu_J _ _ (fr_X d (some .int) k_X12_testWord 38 [.ref 117] [.int (fu_b (f_X12_isWord s (f_X12_spelled (117 : Int32) (112 : Int32) (0 : Int32) (0 : Int32) (0 : Int32) (0 : Int32))))] s)
    refine fu_iteS (fun h2 => fu_step (fu_ib_eq_t rfl h2) ?_) (fun h2 => fu_step (fu_ib_eq_f rfl h2) ?_)
    · refine fu_go 1 (pc' := 42) (ls' := [.ref 117]) (st' := [.int (1 : Int32)]) (s' := s) rfl ?_
      exact fu_iret rfl rfl
    · refine fu_go 7 (pc' := 56) (ls' := [.ref 117]) (st' := [.int (101 : Int32), .int (116 : Int32), .int (117 : Int32), .int (110 : Int32), .int (105 : Int32), .int (109 : Int32), .ref 117]) (s' := s) rfl ?_
      refine fu_step (fu_cS rfl rfl rfl rfl rfl rfl (fu_eq (e_X12_spelled d (by omega) s (109 : Int32) (105 : Int32) (110 : Int32) (117 : Int32) (116 : Int32) (101 : Int32)) rfl)) ?_
      show fu_J _ _ (fr_X d (some .int) k_X12_testWord 59 [.ref 117] [.long (f_X12_spelled (109 : Int32) (105 : Int32) (110 : Int32) (117 : Int32) (116 : Int32) (101 : Int32)), .ref 117] s)
      refine fu_step (fu_cV rfl rfl rfl rfl rfl (fu_recv fr_117 am_at_X12_isWord rfl) (fu_eq (e_X12_isWord d (by omega) s (f_X12_spelled (109 : Int32) (105 : Int32) (110 : Int32) (117 : Int32) (116 : Int32) (101 : Int32))) rfl)) ?_
      show fu_J _ _ (fr_X d (some .int) k_X12_testWord 62 [.ref 117] [.int (fu_b (f_X12_isWord s (f_X12_spelled (109 : Int32) (105 : Int32) (110 : Int32) (117 : Int32) (116 : Int32) (101 : Int32))))] s)
      refine fu_letS (V := fun j3 : Int32 => fr_X d (some .int) k_X12_testWord 70 [am_U] [.int j3] s) ?_ (fun j3 => ?_)
      · refine fu_iteS (fun h4 => fu_step (fu_ib_eq_t rfl h4) ?_) (fun h4 => fu_step (fu_ib_eq_f rfl h4) ?_)
        · refine fu_go 2 (pc' := 70) (ls' := [.ref 117]) (st' := [.int (2 : Int32)]) (s' := s) rfl ?_
          exact fu_leaf rfl ⟨.inl rfl, trivial⟩
        · refine fu_go 1 (pc' := 70) (ls' := [.ref 117]) (st' := [.int (-1 : Int32)]) (s' := s) rfl ?_
          exact fu_leaf rfl ⟨.inl rfl, trivial⟩
      show fu_J _ _ (fr_X d (some .int) k_X12_testWord 70 [am_U] [.int j3] s)
      exact fu_iret rfl rfl
/-! X12_isEnd -/
set_option maxRecDepth 100000 in
theorem e_X12_isEnd (d : Nat) (hd : 2 ≤ d) (s : fu_S) : fu_J (some (f_X12_isEnd s)) (fun r => some (some (.int (fu_b r)), s)) (am_D (fu_ho fr_sh) am_m d 273 [.ref 117] s) := by
  obtain ⟨d, rfl⟩ : ∃ e, d = e + 1 := ⟨d - 1, by omega⟩
  refine fu_enter (ls := [.ref 117]) am_at_X12_isEnd rfl rfl ?_
  show fu_J _ _ (fr_X d (some .boolean) k_X12_isEnd 0 [.ref 117] [] s)
  unfold f_X12_isEnd
  refine fu_go 7 (pc' := 10) (ls' := [.ref 117]) (st' := [.int (0 : Int32), .int (0 : Int32), .int (0 : Int32), .int (100 : Int32), .int (110 : Int32), .int (101 : Int32), .ref 117]) (s' := s) rfl ?_
  refine fu_step (fu_cS rfl rfl rfl rfl rfl rfl (fu_eq (e_X12_spelled d (by omega) s (101 : Int32) (110 : Int32) (100 : Int32) (0 : Int32) (0 : Int32) (0 : Int32)) rfl)) ?_
  show fu_J _ _ (fr_X d (some .boolean) k_X12_isEnd 13 [.ref 117] [.long (f_X12_spelled (101 : Int32) (110 : Int32) (100 : Int32) (0 : Int32) (0 : Int32) (0 : Int32)), .ref 117] s)
  refine fu_step (fu_cV rfl rfl rfl rfl rfl (fu_recv fr_117 am_at_X12_isWord rfl) (fu_eq (e_X12_isWord d (by omega) s (f_X12_spelled (101 : Int32) (110 : Int32) (100 : Int32) (0 : Int32) (0 : Int32) (0 : Int32))) rfl)) ?_
  show fu_J _ _ (fr_X d (some .boolean) k_X12_isEnd 16 [.ref 117] [.int (fu_b (f_X12_isWord s (f_X12_spelled (101 : Int32) (110 : Int32) (100 : Int32) (0 : Int32) (0 : Int32) (0 : Int32))))] s)
  exact fu_bret (b := (f_X12_isWord s (f_X12_spelled (101 : Int32) (110 : Int32) (100 : Int32) (0 : Int32) (0 : Int32) (0 : Int32)))) rfl rfl
/-! X12_isKept -/
set_option maxRecDepth 100000 in
theorem e_X12_isKept (d : Nat) (hd : 3 ≤ d) (s : fu_S) : fu_J (some (f_X12_isKept s)) (fun r => some (some (.int (fu_b r)), s)) (am_D (fu_ho fr_sh) am_m d 274 [.ref 117] s) := by
  obtain ⟨d, rfl⟩ : ∃ e, d = e + 1 := ⟨d - 1, by omega⟩
  refine fu_enter (ls := [.ref 117]) am_at_X12_isKept rfl rfl ?_
  show fu_J _ _ (fr_X d (some .boolean) k_X12_isKept 0 [.ref 117] [] s)
  unfold f_X12_isKept
  refine fu_go 1 (pc' := 1) (ls' := [.ref 117]) (st' := [.ref 117]) (s' := s) rfl ?_
  refine fu_step (fu_cV rfl rfl rfl rfl rfl (fu_recv fr_117 am_at_X12_isOdds rfl) (fu_eq (e_X12_isOdds d (by omega) s) rfl)) ?_
  show fu_J _ _ (fr_X d (some .boolean) k_X12_isKept 4 [.ref 117] [.int (fu_b (f_X12_isOdds s))] s)
  refine fu_iteS (fun h1 => fu_step (fu_ib_ne_t rfl h1) ?_) (fun h1 => fu_step (fu_ib_ne_f rfl h1) ?_)
  · refine fu_go 1 (pc' := 78) (ls' := [.ref 117]) (st' := [.int (1 : Int32)]) (s' := s) rfl ?_
    exact fu_bret (b := true) rfl rfl
  · refine fu_go 1 (pc' := 8) (ls' := [.ref 117]) (st' := [.ref 117]) (s' := s) rfl ?_
    refine fu_step (fu_cV rfl rfl rfl rfl rfl (fu_recv fr_117 am_at_X12_isArm rfl) (fu_eq (e_X12_isArm d (by omega) s) rfl)) ?_
    show fu_J _ _ (fr_X d (some .boolean) k_X12_isKept 11 [.ref 117] [.int (fu_b (f_X12_isArm s))] s)
    refine fu_iteS (fun h2 => fu_step (fu_ib_ne_t rfl h2) ?_) (fun h2 => fu_step (fu_ib_ne_f rfl h2) ?_)
    · refine fu_go 1 (pc' := 78) (ls' := [.ref 117]) (st' := [.int (1 : Int32)]) (s' := s) rfl ?_
      exact fu_bret (b := true) rfl rfl
    · refine fu_go 1 (pc' := 15) (ls' := [.ref 117]) (st' := [.ref 117]) (s' := s) rfl ?_
      refine fu_step (fu_cV rfl rfl rfl rfl rfl (fu_recv fr_117 am_at_X12_isKindWord rfl) (fu_eq (e_X12_isKindWord d (by omega) s) rfl)) ?_
      show fu_J _ _ (fr_X d (some .boolean) k_X12_isKept 18 [.ref 117] [.int (fu_b (f_X12_isKindWord s))] s)
      refine fu_iteS (fun h3 => fu_step (fu_ib_ne_t rfl h3) ?_) (fun h3 => fu_step (fu_ib_ne_f rfl h3) ?_)
      · refine fu_go 1 (pc' := 78) (ls' := [.ref 117]) (st' := [.int (1 : Int32)]) (s' := s) rfl ?_
        exact fu_bret (b := true) rfl rfl
      · refine fu_go 1 (pc' := 22) (ls' := [.ref 117]) (st' := [.ref 117]) (s' := s) rfl ?_
        refine fu_step (fu_cV rfl rfl rfl rfl rfl (fu_recv fr_117 am_at_X12_isStepWord rfl) (fu_eq (e_X12_isStepWord d (by omega) s) rfl)) ?_
        show fu_J _ _ (fr_X d (some .boolean) k_X12_isKept 25 [.ref 117] [.int (fu_b (f_X12_isStepWord s))] s)
        refine fu_iteS (fun h4 => fu_step (fu_ib_ne_t rfl h4) ?_) (fun h4 => fu_step (fu_ib_ne_f rfl h4) ?_)
        · refine fu_go 1 (pc' := 78) (ls' := [.ref 117]) (st' := [.int (1 : Int32)]) (s' := s) rfl ?_
          exact fu_bret (b := true) rfl rfl
        · refine fu_go 1 (pc' := 29) (ls' := [.ref 117]) (st' := [.ref 117]) (s' := s) rfl ?_
          refine fu_step (fu_cV rfl rfl rfl rfl rfl (fu_recv fr_117 am_at_X12_isSpotWord rfl) (fu_eq (e_X12_isSpotWord d (by omega) s) rfl)) ?_
          show fu_J _ _ (fr_X d (some .boolean) k_X12_isKept 32 [.ref 117] [.int (fu_b (f_X12_isSpotWord s))] s)
          refine fu_iteS (fun h5 => fu_step (fu_ib_ne_t rfl h5) ?_) (fun h5 => fu_step (fu_ib_ne_f rfl h5) ?_)
          · refine fu_go 1 (pc' := 78) (ls' := [.ref 117]) (st' := [.int (1 : Int32)]) (s' := s) rfl ?_
            exact fu_bret (b := true) rfl rfl
          · refine fu_go 1 (pc' := 36) (ls' := [.ref 117]) (st' := [.ref 117]) (s' := s) rfl ?_
            refine fu_step (fu_cV rfl rfl rfl rfl rfl (fu_recv fr_117 am_at_X12_isWeight rfl) (fu_eq (e_X12_isWeight d (by omega) s) rfl)) ?_
            show fu_J _ _ (fr_X d (some .boolean) k_X12_isKept 39 [.ref 117] [.int (fu_b (f_X12_isWeight s))] s)
            refine fu_iteS (fun h6 => fu_step (fu_ib_ne_t rfl h6) ?_) (fun h6 => fu_step (fu_ib_ne_f rfl h6) ?_)
            · refine fu_go 1 (pc' := 78) (ls' := [.ref 117]) (st' := [.int (1 : Int32)]) (s' := s) rfl ?_
              exact fu_bret (b := true) rfl rfl
            · refine fu_go 1 (pc' := 43) (ls' := [.ref 117]) (st' := [.ref 117]) (s' := s) rfl ?_
              refine fu_step (fu_cV rfl rfl rfl rfl rfl (fu_recv fr_117 am_at_X12_isPerson rfl) (fu_eq (e_X12_isPerson d (by omega) s) rfl)) ?_
              show fu_J _ _ (fr_X d (some .boolean) k_X12_isKept 46 [.ref 117] [.int (fu_b (f_X12_isPerson s))] s)
              refine fu_iteS (fun h7 => fu_step (fu_ib_ne_t rfl h7) ?_) (fun h7 => fu_step (fu_ib_ne_f rfl h7) ?_)
              · refine fu_go 1 (pc' := 78) (ls' := [.ref 117]) (st' := [.int (1 : Int32)]) (s' := s) rfl ?_
                exact fu_bret (b := true) rfl rfl
              · refine fu_go 1 (pc' := 50) (ls' := [.ref 117]) (st' := [.ref 117]) (s' := s) rfl ?_
                refine fu_step (fu_cV rfl rfl rfl rfl rfl (fu_recv fr_117 am_at_X12_isHome rfl) (fu_eq (e_X12_isHome d (by omega) s) rfl)) ?_
                show fu_J _ _ (fr_X d (some .boolean) k_X12_isKept 53 [.ref 117] [.int (fu_b (f_X12_isHome s))] s)
                refine fu_iteS (fun h8 => fu_step (fu_ib_ne_t rfl h8) ?_) (fun h8 => fu_step (fu_ib_ne_f rfl h8) ?_)
                · refine fu_go 1 (pc' := 78) (ls' := [.ref 117]) (st' := [.int (1 : Int32)]) (s' := s) rfl ?_
                  exact fu_bret (b := true) rfl rfl
                · refine fu_go 1 (pc' := 57) (ls' := [.ref 117]) (st' := [.ref 117]) (s' := s) rfl ?_
                  refine fu_step (fu_cV rfl rfl rfl rfl rfl (fu_recv fr_117 am_at_X12_isReach rfl) (fu_eq (e_X12_isReach d (by omega) s) rfl)) ?_
                  show fu_J _ _ (fr_X d (some .boolean) k_X12_isKept 60 [.ref 117] [.int (fu_b (f_X12_isReach s))] s)
                  refine fu_iteS (fun h9 => fu_step (fu_ib_ne_t rfl h9) ?_) (fun h9 => fu_step (fu_ib_ne_f rfl h9) ?_)
                  · refine fu_go 1 (pc' := 78) (ls' := [.ref 117]) (st' := [.int (1 : Int32)]) (s' := s) rfl ?_
                    exact fu_bret (b := true) rfl rfl
                  · refine fu_go 1 (pc' := 64) (ls' := [.ref 117]) (st' := [.ref 117]) (s' := s) rfl ?_
                    refine fu_step (fu_cV rfl rfl rfl rfl rfl (fu_recv fr_117 am_at_X12_isThing rfl) (fu_eq (e_X12_isThing d (by omega) s) rfl)) ?_
                    show fu_J _ _ (fr_X d (some .boolean) k_X12_isKept 67 [.ref 117] [.int (fu_b (f_X12_isThing s))] s)
                    refine fu_iteS (fun h10 => fu_step (fu_ib_ne_t rfl h10) ?_) (fun h10 => fu_step (fu_ib_ne_f rfl h10) ?_)
                    · refine fu_go 1 (pc' := 78) (ls' := [.ref 117]) (st' := [.int (1 : Int32)]) (s' := s) rfl ?_
                      exact fu_bret (b := true) rfl rfl
                    · refine fu_go 1 (pc' := 71) (ls' := [.ref 117]) (st' := [.ref 117]) (s' := s) rfl ?_
                      refine fu_step (fu_cV rfl rfl rfl rfl rfl (fu_recv fr_117 am_at_X12_isWorth rfl) (fu_eq (e_X12_isWorth d (by omega) s) rfl)) ?_
                      show fu_J _ _ (fr_X d (some .boolean) k_X12_isKept 74 [.ref 117] [.int (fu_b (f_X12_isWorth s))] s)
                      refine fu_iteS (fun h11 => fu_step (fu_ib_eq_t rfl h11) ?_) (fun h11 => fu_step (fu_ib_eq_f rfl h11) ?_)
                      · refine fu_go 1 (pc' := 78) (ls' := [.ref 117]) (st' := [.int (1 : Int32)]) (s' := s) rfl ?_
                        exact fu_bret (b := true) rfl rfl
                      · refine fu_go 1 (pc' := 80) (ls' := [.ref 117]) (st' := [.ref 117]) (s' := s) rfl ?_
                        refine fu_step (fu_cV rfl rfl rfl rfl rfl (fu_recv fr_117 am_at_X12_stepWord rfl) (fu_eq (e_X12_stepWord d (by omega) s) rfl)) ?_
                        show fu_J _ _ (fr_X d (some .boolean) k_X12_isKept 83 [.ref 117] [.int (f_X12_stepWord s)] s)
                        refine fu_letS (V := fun j12 : Bool => fr_X d (some .boolean) k_X12_isKept 105 [am_U] [.int (fu_b j12)] s) ?_ (fun j12 => ?_)
                        · refine fu_iteS (fun h13 => fu_step (fu_if_ge_t rfl h13) ?_) (fun h13 => fu_step (fu_if_ge_f rfl h13) ?_)
                          · refine fu_go 1 (pc' := 87) (ls' := [.ref 117]) (st' := [.ref 117]) (s' := s) rfl ?_
                            refine fu_step (fu_cV rfl rfl rfl rfl rfl (fu_recv fr_117 am_at_X12_testWord rfl) (fu_eq (e_X12_testWord d (by omega) s) rfl)) ?_
                            show fu_J _ _ (fr_X d (some .boolean) k_X12_isKept 90 [.ref 117] [.int (f_X12_testWord s)] s)
                            refine fu_iteS (fun h14 => fu_step (fu_if_ge_t rfl h14) ?_) (fun h14 => fu_step (fu_if_ge_f rfl h14) ?_)
                            · refine fu_go 1 (pc' := 94) (ls' := [.ref 117]) (st' := [.ref 117]) (s' := s) rfl ?_
                              refine fu_step (fu_cV rfl rfl rfl rfl rfl (fu_recv fr_117 am_at_X12_isEnd rfl) (fu_eq (e_X12_isEnd d (by omega) s) rfl)) ?_
                              show fu_J _ _ (fr_X d (some .boolean) k_X12_isKept 97 [.ref 117] [.int (fu_b (f_X12_isEnd s))] s)
                              refine fu_iteS (fun h15 => fu_step (fu_ib_eq_t rfl h15) ?_) (fun h15 => fu_step (fu_ib_eq_f rfl h15) ?_)
                              · refine fu_go 2 (pc' := 105) (ls' := [.ref 117]) (st' := [.int (1 : Int32)]) (s' := s) rfl ?_
                                exact fu_leaf rfl ⟨.inl rfl, trivial⟩
                              · refine fu_go 1 (pc' := 105) (ls' := [.ref 117]) (st' := [.int (0 : Int32)]) (s' := s) rfl ?_
                                exact fu_leaf rfl ⟨.inl rfl, trivial⟩
                            · refine fu_go 2 (pc' := 105) (ls' := [.ref 117]) (st' := [.int (1 : Int32)]) (s' := s) rfl ?_
                              exact fu_leaf rfl ⟨.inl rfl, trivial⟩
                          · refine fu_go 2 (pc' := 105) (ls' := [.ref 117]) (st' := [.int (1 : Int32)]) (s' := s) rfl ?_
                            exact fu_leaf rfl ⟨.inl rfl, trivial⟩
                        show fu_J _ _ (fr_X d (some .boolean) k_X12_isKept 105 [am_U] [.int (fu_b j12)] s)
                        exact fu_bret (b := j12) rfl rfl
/-! X12_isName -/
set_option maxRecDepth 100000 in
theorem e_X12_isName (d : Nat) (hd : 4 ≤ d) (s : fu_S) : fu_J (some (f_X12_isName s)) (fun r => some (some (.int (fu_b r)), s)) (am_D (fu_ho fr_sh) am_m d 275 [.ref 117] s) := by
  obtain ⟨d, rfl⟩ : ∃ e, d = e + 1 := ⟨d - 1, by omega⟩
  refine fu_enter (ls := [.ref 117]) am_at_X12_isName rfl rfl ?_
  show fu_J _ _ (fr_X d (some .boolean) k_X12_isName 0 [.ref 117] [] s)
  unfold f_X12_isName
  refine fu_go 1 (pc' := 1) (ls' := [.ref 117]) (st' := [.ref 117]) (s' := s) rfl ?_
  refine fu_step (fu_getI rfl fr_117 rfl rfl) ?_
  refine fu_go 1 (pc' := 5) (ls' := [.ref 117]) (st' := [.int (1 : Int32), .int (s.1 117 14)]) (s' := s) rfl ?_
  refine fu_letS (V := fun j1 : Bool => fr_X d (some .boolean) k_X12_isName 29 [am_U] [.int (fu_b j1)] s) ?_ (fun j1 => ?_)
  · refine fu_iteS (fun h2 => fu_step (fu_ic_ne_t rfl h2) ?_) (fun h2 => fu_step (fu_ic_ne_f rfl h2) ?_)
    · refine fu_go 1 (pc' := 9) (ls' := [.ref 117]) (st' := [.ref 117]) (s' := s) rfl ?_
      refine fu_step (fu_getI rfl fr_117 rfl rfl) ?_
      refine fu_go 1 (pc' := 14) (ls' := [.ref 117]) (st' := [.int (8 : Int32), .int (s.1 117 18)]) (s' := s) rfl ?_
      refine fu_iteS (fun h3 => fu_step (fu_ic_gt_t rfl h3) ?_) (fun h3 => fu_step (fu_ic_gt_f rfl h3) ?_)
      · refine fu_go 1 (pc' := 18) (ls' := [.ref 117]) (st' := [.ref 117]) (s' := s) rfl ?_
        refine fu_step (fu_cV rfl rfl rfl rfl rfl (fu_recv fr_117 am_at_X12_isKept rfl) (fu_eq (e_X12_isKept d (by omega) s) rfl)) ?_
        show fu_J _ _ (fr_X d (some .boolean) k_X12_isName 21 [.ref 117] [.int (fu_b (f_X12_isKept s))] s)
        refine fu_iteS (fun h4 => fu_step (fu_ib_ne_t rfl h4) ?_) (fun h4 => fu_step (fu_ib_ne_f rfl h4) ?_)
        · refine fu_go 1 (pc' := 29) (ls' := [.ref 117]) (st' := [.int (0 : Int32)]) (s' := s) rfl ?_
          exact fu_leaf rfl ⟨.inl rfl, trivial⟩
        · refine fu_go 2 (pc' := 29) (ls' := [.ref 117]) (st' := [.int (1 : Int32)]) (s' := s) rfl ?_
          exact fu_leaf rfl ⟨.inl rfl, trivial⟩
      · refine fu_go 1 (pc' := 29) (ls' := [.ref 117]) (st' := [.int (0 : Int32)]) (s' := s) rfl ?_
        exact fu_leaf rfl ⟨.inl rfl, trivial⟩
    · refine fu_go 1 (pc' := 29) (ls' := [.ref 117]) (st' := [.int (0 : Int32)]) (s' := s) rfl ?_
      exact fu_leaf rfl ⟨.inl rfl, trivial⟩
  show fu_J _ _ (fr_X d (some .boolean) k_X12_isName 29 [am_U] [.int (fu_b j1)] s)
  exact fu_bret (b := j1) rfl rfl
/-! X12_fail -/
set_option maxRecDepth 100000 in
theorem e_X12_fail (d : Nat) (hd : 1 ≤ d) (s : fu_S) (a1 : Int32) (a2 : Int32) : fu_J (some (f_X12_fail s a1 a2)) (fun r => some (none, r)) (am_D (fu_ho fr_sh) am_m d 276 [.ref 117, .int a1, .int a2] s) := by
  obtain ⟨d, rfl⟩ : ∃ e, d = e + 1 := ⟨d - 1, by omega⟩
  refine fu_enter (ls := [.ref 117, .int a1, .int a2]) am_at_X12_fail rfl rfl ?_
  show fu_J _ _ (fr_X d none k_X12_fail 0 [.ref 117, .int a1, .int a2] [] s)
  unfold f_X12_fail
  refine fu_go 1 (pc' := 1) (ls' := [.ref 117, .int a1, .int a2]) (st' := [.ref 117]) (s' := s) rfl ?_
  refine fu_step (fu_getI rfl fr_117 rfl rfl) ?_
  refine fu_iteS (fun h1 => fu_step (fu_if_le_t rfl h1) ?_) (fun h1 => fu_step (fu_if_le_f rfl h1) ?_)
  · refine fu_go 2 (pc' := 10) (ls' := [.ref 117, .int a1, .int a2]) (st' := [.int a1, .ref 117]) (s' := s) rfl ?_
    refine fu_letsS (b := (fu_pi s 117 12 a1)) (fu_putI rfl fr_117 rfl rfl) (fun s2 => ?_)
    refine fu_go 2 (pc' := 15) (ls' := [.ref 117, .int a1, .int a2]) (st' := [.int a2, .ref 117]) (s' := s2) rfl ?_
    refine fu_letsS (b := (fu_pi s2 117 13 a2)) (fu_putI rfl fr_117 rfl rfl) (fun s3 => ?_)
    exact fu_vret rfl rfl
  · exact fu_vret rfl rfl
/-! X12_amiss -/
set_option maxRecDepth 100000 in
theorem e_X12_amiss (d : Nat) (hd : 2 ≤ d) (s : fu_S) : fu_J (some (f_X12_amiss s)) (fun r => some (none, r)) (am_D (fu_ho fr_sh) am_m d 277 [.ref 117] s) := by
  obtain ⟨d, rfl⟩ : ∃ e, d = e + 1 := ⟨d - 1, by omega⟩
  refine fu_enter (ls := [.ref 117]) am_at_X12_amiss rfl rfl ?_
  show fu_J _ _ (fr_X d none k_X12_amiss 0 [.ref 117] [] s)
  unfold f_X12_amiss
  refine fu_go 2 (pc' := 2) (ls' := [.ref 117]) (st' := [.ref 117, .ref 117]) (s' := s) rfl ?_
  refine fu_step (fu_getI rfl fr_117 rfl rfl) ?_
  refine fu_go 1 (pc' := 6) (ls' := [.ref 117]) (st' := [.int (4 : Int32), .int (s.1 117 14), .ref 117]) (s' := s) rfl ?_
  refine fu_letS (V := fun j1 : Int32 => fr_X d none k_X12_amiss 14 [.ref 117] [.int j1, .ref 117] s) ?_ (fun j1 => ?_)
  · refine fu_iteS (fun h2 => fu_step (fu_ic_ne_t rfl h2) ?_) (fun h2 => fu_step (fu_ic_ne_f rfl h2) ?_)
    · refine fu_go 2 (pc' := 14) (ls' := [.ref 117]) (st' := [.int (1 : Int32), .ref 117]) (s' := s) rfl ?_
      exact fu_leaf rfl ⟨.inr rfl, trivial⟩
    · refine fu_go 1 (pc' := 14) (ls' := [.ref 117]) (st' := [.int (2 : Int32), .ref 117]) (s' := s) rfl ?_
      exact fu_leaf rfl ⟨.inr rfl, trivial⟩
  show fu_J _ _ (fr_X d none k_X12_amiss 14 [.ref 117] [.int j1, .ref 117] s)
  refine fu_go 1 (pc' := 15) (ls' := [.ref 117]) (st' := [.ref 117, .int j1, .ref 117]) (s' := s) rfl ?_
  refine fu_step (fu_getI rfl fr_117 rfl rfl) ?_
  refine fu_letS (fu_cVJ rfl rfl rfl rfl rfl (fu_recv fr_117 am_at_X12_fail rfl) (e_X12_fail d (by omega) s j1 (s.1 117 15))) (fun r3 => ?_)
  show fu_J _ _ (fr_X d none k_X12_amiss 21 [.ref 117] [] r3)
  exact fu_vret rfl rfl
/-! X12_must -/
set_option maxRecDepth 100000 in
theorem e_X12_must (d : Nat) (hd : 3 ≤ d) (s : fu_S) (a1 : Bool) : fu_J (f_X12_must s a1) (fun r => some (none, r)) (am_D (fu_ho fr_sh) am_m d 278 [.ref 117, .int (fu_b a1)] s) := by
  obtain ⟨d, rfl⟩ : ∃ e, d = e + 1 := ⟨d - 1, by omega⟩
  refine fu_enter (ls := [.ref 117, .int (fu_b a1)]) am_at_X12_must rfl rfl ?_
  show fu_J _ _ (fr_X d none k_X12_must 0 [.ref 117, .int (fu_b a1)] [] s)
  unfold f_X12_must
  refine fu_go 1 (pc' := 1) (ls' := [.ref 117, .int (fu_b a1)]) (st' := [.ref 117]) (s' := s) rfl ?_
  refine fu_step (fu_getI rfl fr_117 rfl rfl) ?_
  refine fu_ite (fun h1 => fu_step (fu_if_le_t rfl h1) ?_) (fun h1 => fu_step (fu_if_le_f rfl h1) ?_)
  · refine fu_go 1 (pc' := 9) (ls' := [.ref 117, .int (fu_b a1)]) (st' := [.int (fu_b a1)]) (s' := s) rfl ?_
    refine fu_bind (V := fun j2 : fu_S => fr_X d none k_X12_must 23 [am_U, am_U] [] j2) ?_ (fun j2 => ?_)
    · refine fu_ite (fun h3 => fu_step (fu_ib_eq_t rfl h3) ?_) (fun h3 => fu_step (fu_ib_eq_f rfl h3) ?_)
      · refine fu_go 1 (pc' := 13) (ls' := [.ref 117, .int (fu_b a1)]) (st' := [.ref 117]) (s' := s) rfl ?_
        refine fu_bind (fu_cVJ rfl rfl rfl rfl rfl (fu_recv fr_117 am_at_X12_advance rfl) (e_X12_advance d (by omega) s)) (fun r4 => ?_)
        show fu_J _ _ (fr_X d none k_X12_must 16 [.ref 117, .int (fu_b a1)] [] r4)
        refine fu_go 1 (pc' := 23) (ls' := [.ref 117, .int (fu_b a1)]) (st' := []) (s' := r4) rfl ?_
        exact fu_leaf rfl ⟨.inl rfl, .inl rfl, trivial⟩
      · refine fu_go 1 (pc' := 20) (ls' := [.ref 117, .int (fu_b a1)]) (st' := [.ref 117]) (s' := s) rfl ?_
        refine fu_let (fu_cVJ rfl rfl rfl rfl rfl (fu_recv fr_117 am_at_X12_amiss rfl) (e_X12_amiss d (by omega) s)) (fun r5 => ?_)
        show fu_J _ _ (fr_X d none k_X12_must 23 [.ref 117, .int (fu_b a1)] [] r5)
        exact fu_leaf rfl ⟨.inl rfl, .inl rfl, trivial⟩
    show fu_J _ _ (fr_X d none k_X12_must 23 [am_U, am_U] [] j2)
    exact fu_vret rfl rfl
  · exact fu_vret rfl rfl
/-! X12_count -/
set_option maxRecDepth 100000 in
theorem e_X12_count (d : Nat) (hd : 3 ≤ d) (s : fu_S) (a1 : Int32) (a2 : Int32) : fu_J (f_X12_count s a1 a2) (fun r => some (some (.int r.1), r.2)) (am_D (fu_ho fr_sh) am_m d 279 [.ref 117, .int a1, .int a2] s) := by
  obtain ⟨d, rfl⟩ : ∃ e, d = e + 1 := ⟨d - 1, by omega⟩
  refine fu_enter (ls := [.ref 117, .int a1, .int a2, am_U]) am_at_X12_count rfl rfl ?_
  show fu_J _ _ (fr_X d (some .int) k_X12_count 0 [.ref 117, .int a1, .int a2, am_U] [] s)
  unfold f_X12_count
  refine fu_go 1 (pc' := 1) (ls' := [.ref 117, .int a1, .int a2, am_U]) (st' := [.ref 117]) (s' := s) rfl ?_
  refine fu_step (fu_getI rfl fr_117 rfl rfl) ?_
  refine fu_bind (V := fun j1 : fu_S => fr_X d (some .int) k_X12_count 19 [.ref 117, .int a1, .int a2, am_U] [] j1) ?_ (fun j1 => ?_)
  · refine fu_ite (fun h2 => fu_step (fu_if_ne_t rfl h2) ?_) (fun h2 => fu_step (fu_if_ne_f rfl h2) ?_)
    · refine fu_go 1 (pc' := 8) (ls' := [.ref 117, .int a1, .int a2, am_U]) (st' := [.ref 117]) (s' := s) rfl ?_
      refine fu_step (fu_getI rfl fr_117 rfl rfl) ?_
      refine fu_go 1 (pc' := 12) (ls' := [.ref 117, .int a1, .int a2, am_U]) (st' := [.int (2 : Int32), .int (s.1 117 14)]) (s' := s) rfl ?_
      refine fu_ite (fun h3 => fu_step (fu_ic_eq_t rfl h3) ?_) (fun h3 => fu_step (fu_ic_eq_f rfl h3) ?_)
      · exact fu_leaf rfl ⟨.inr rfl, .inr rfl, .inr rfl, .inl rfl, trivial⟩
      · refine fu_go 1 (pc' := 16) (ls' := [.ref 117, .int a1, .int a2, am_U]) (st' := [.ref 117]) (s' := s) rfl ?_
        refine fu_let (fu_cVJ rfl rfl rfl rfl rfl (fu_recv fr_117 am_at_X12_amiss rfl) (e_X12_amiss d (by omega) s)) (fun r4 => ?_)
        show fu_J _ _ (fr_X d (some .int) k_X12_count 19 [.ref 117, .int a1, .int a2, am_U] [] r4)
        exact fu_leaf rfl ⟨.inr rfl, .inr rfl, .inr rfl, .inl rfl, trivial⟩
    · exact fu_leaf rfl ⟨.inr rfl, .inr rfl, .inr rfl, .inl rfl, trivial⟩
  show fu_J _ _ (fr_X d (some .int) k_X12_count 19 [.ref 117, .int a1, .int a2, am_U] [] j1)
  refine fu_go 1 (pc' := 20) (ls' := [.ref 117, .int a1, .int a2, am_U]) (st' := [.ref 117]) (s' := j1) rfl ?_
  refine fu_step (fu_getI rfl fr_117 rfl rfl) ?_
  refine fu_bind (V := fun j5 : fu_S => fr_X d (some .int) k_X12_count 50 [.ref 117, am_U, am_U, am_U] [] j5) ?_ (fun j5 => ?_)
  · refine fu_ite (fun h6 => fu_step (fu_if_ne_t rfl h6) ?_) (fun h6 => fu_step (fu_if_ne_f rfl h6) ?_)
    · refine fu_go 1 (pc' := 27) (ls' := [.ref 117, .int a1, .int a2, am_U]) (st' := [.ref 117]) (s' := j1) rfl ?_
      refine fu_step (fu_getI rfl fr_117 rfl rfl) ?_
      refine fu_go 5 (pc' := 35) (ls' := [.ref 117, .int a1, .int a2, am_U]) (st' := [.long (Int32.toInt64 a2), .long (Int32.toInt64 a1), .long (Int32.toInt64 (j1.1 117 17))]) (s' := j1) rfl ?_
      refine fu_step (fu_cS rfl rfl rfl rfl rfl rfl (fu_eq (e_X12_isIn d (by omega) j1 (Int32.toInt64 (j1.1 117 17)) (Int32.toInt64 a1) (Int32.toInt64 a2)) rfl)) ?_
      show fu_J _ _ (fr_X d (some .int) k_X12_count 38 [.ref 117, .int a1, .int a2, am_U] [.int (fu_b (f_X12_isIn (Int32.toInt64 (j1.1 117 17)) (Int32.toInt64 a1) (Int32.toInt64 a2)))] j1)
      refine fu_ite (fun h7 => fu_step (fu_ib_ne_t rfl h7) ?_) (fun h7 => fu_step (fu_ib_ne_f rfl h7) ?_)
      · exact fu_leaf rfl ⟨.inr rfl, .inl rfl, .inl rfl, .inl rfl, trivial⟩
      · refine fu_go 3 (pc' := 44) (ls' := [.ref 117, .int a1, .int a2, am_U]) (st' := [.ref 117, .int (4 : Int32), .ref 117]) (s' := j1) rfl ?_
        refine fu_step (fu_getI rfl fr_117 rfl rfl) ?_
        refine fu_let (fu_cVJ rfl rfl rfl rfl rfl (fu_recv fr_117 am_at_X12_fail rfl) (e_X12_fail d (by omega) j1 (4 : Int32) (j1.1 117 15))) (fun r8 => ?_)
        show fu_J _ _ (fr_X d (some .int) k_X12_count 50 [.ref 117, .int a1, .int a2, am_U] [] r8)
        exact fu_leaf rfl ⟨.inr rfl, .inl rfl, .inl rfl, .inl rfl, trivial⟩
    · exact fu_leaf rfl ⟨.inr rfl, .inl rfl, .inl rfl, .inl rfl, trivial⟩
  show fu_J _ _ (fr_X d (some .int) k_X12_count 50 [.ref 117, am_U, am_U, am_U] [] j5)
  refine fu_go 1 (pc' := 51) (ls' := [.ref 117, am_U, am_U, am_U]) (st' := [.ref 117]) (s' := j5) rfl ?_
  refine fu_step (fu_getI rfl fr_117 rfl rfl) ?_
  refine fu_ite (fun h9 => fu_step (fu_if_le_t rfl h9) ?_) (fun h9 => fu_step (fu_if_le_f rfl h9) ?_)
  · refine fu_go 1 (pc' := 60) (ls' := [.ref 117, am_U, am_U, am_U]) (st' := [.ref 117]) (s' := j5) rfl ?_
    refine fu_step (fu_getI rfl fr_117 rfl rfl) ?_
    refine fu_go 2 (pc' := 65) (ls' := [.ref 117, am_U, am_U, .int (j5.1 117 17)]) (st' := [.ref 117]) (s' := j5) rfl ?_
    refine fu_bind (fu_cVJ rfl rfl rfl rfl rfl (fu_recv fr_117 am_at_X12_advance rfl) (e_X12_advance d (by omega) j5)) (fun r10 => ?_)
    show fu_J _ _ (fr_X d (some .int) k_X12_count 68 [.ref 117, am_U, am_U, .int (j5.1 117 17)] [] r10)
    refine fu_go 1 (pc' := 69) (ls' := [.ref 117, am_U, am_U, .int (j5.1 117 17)]) (st' := [.int (j5.1 117 17)]) (s' := r10) rfl ?_
    exact fu_iret rfl rfl
  · refine fu_go 1 (pc' := 58) (ls' := [.ref 117, am_U, am_U, am_U]) (st' := [.int (0 : Int32)]) (s' := j5) rfl ?_
    exact fu_iret rfl rfl
/-! X12_behindWord -/
set_option maxRecDepth 100000 in
theorem e_X12_behindWord (d : Nat) (hd : 4 ≤ d) (s : fu_S) (a1 : Bool) (a2 : Int32) (a3 : Int32) : fu_J (f_X12_behindWord s a1 a2 a3) (fun r => some (some (.int r.1), r.2)) (am_D (fu_ho fr_sh) am_m d 280 [.ref 117, .int (fu_b a1), .int a2, .int a3] s) := by
  obtain ⟨d, rfl⟩ : ∃ e, d = e + 1 := ⟨d - 1, by omega⟩
  refine fu_enter (ls := [.ref 117, .int (fu_b a1), .int a2, .int a3]) am_at_X12_behindWord rfl rfl ?_
  show fu_J _ _ (fr_X d (some .int) k_X12_behindWord 0 [.ref 117, .int (fu_b a1), .int a2, .int a3] [] s)
  unfold f_X12_behindWord
  refine fu_go 2 (pc' := 2) (ls' := [.ref 117, .int (fu_b a1), .int a2, .int a3]) (st' := [.int (fu_b a1), .ref 117]) (s' := s) rfl ?_
  refine fu_bind (fu_cVJ rfl rfl rfl rfl rfl (fu_recv fr_117 am_at_X12_must rfl) (e_X12_must d (by omega) s a1)) (fun r1 => ?_)
  show fu_J _ _ (fr_X d (some .int) k_X12_behindWord 5 [.ref 117, .int (fu_b a1), .int a2, .int a3] [] r1)
  refine fu_go 3 (pc' := 8) (ls' := [.ref 117, .int (fu_b a1), .int a2, .int a3]) (st' := [.int a3, .int a2, .ref 117]) (s' := r1) rfl ?_
  refine fu_bind (fu_cVJ rfl rfl rfl rfl rfl (fu_recv fr_117 am_at_X12_count rfl) (e_X12_count d (by omega) r1 a2 a3)) (fun r2 => ?_)
  show fu_J _ _ (fr_X d (some .int) k_X12_behindWord 11 [.ref 117, .int (fu_b a1), .int a2, .int a3] [.int r2.1] r2.2)
  exact fu_iret rfl rfl
/-! X12_perhaps -/
set_option maxRecDepth 100000 in
theorem e_X12_perhaps (d : Nat) (hd : 3 ≤ d) (s : fu_S) (a1 : Bool) : fu_J (f_X12_perhaps s a1) (fun r => some (some (.int (fu_b r.1)), r.2)) (am_D (fu_ho fr_sh) am_m d 281 [.ref 117, .int (fu_b a1)] s) := by
  obtain ⟨d, rfl⟩ : ∃ e, d = e + 1 := ⟨d - 1, by omega⟩
  refine fu_enter (ls := [.ref 117, .int (fu_b a1)]) am_at_X12_perhaps rfl rfl ?_
  show fu_J _ _ (fr_X d (some .boolean) k_X12_perhaps 0 [.ref 117, .int (fu_b a1)] [] s)
  unfold f_X12_perhaps
  refine fu_go 1 (pc' := 1) (ls' := [.ref 117, .int (fu_b a1)]) (st' := [.ref 117]) (s' := s) rfl ?_
  refine fu_step (fu_getI rfl fr_117 rfl rfl) ?_
  refine fu_ite (fun h1 => fu_step (fu_if_gt_t rfl h1) ?_) (fun h1 => fu_step (fu_if_gt_f rfl h1) ?_)
  · refine fu_go 1 (pc' := 8) (ls' := [.ref 117, .int (fu_b a1)]) (st' := [.int (fu_b a1)]) (s' := s) rfl ?_
    refine fu_ite (fun h2 => fu_step (fu_ib_ne_t rfl h2) ?_) (fun h2 => fu_step (fu_ib_ne_f rfl h2) ?_)
    · refine fu_go 1 (pc' := 14) (ls' := [.ref 117, .int (fu_b a1)]) (st' := [.ref 117]) (s' := s) rfl ?_
      refine fu_bind (fu_cVJ rfl rfl rfl rfl rfl (fu_recv fr_117 am_at_X12_advance rfl) (e_X12_advance d (by omega) s)) (fun r3 => ?_)
      show fu_J _ _ (fr_X d (some .boolean) k_X12_perhaps 17 [.ref 117, .int (fu_b a1)] [] r3)
      refine fu_go 1 (pc' := 18) (ls' := [.ref 117, .int (fu_b a1)]) (st' := [.int (1 : Int32)]) (s' := r3) rfl ?_
      exact fu_bret (b := true) rfl rfl
    · refine fu_go 1 (pc' := 12) (ls' := [.ref 117, .int (fu_b a1)]) (st' := [.int (0 : Int32)]) (s' := s) rfl ?_
      exact fu_bret (b := false) rfl rfl
  · refine fu_go 1 (pc' := 12) (ls' := [.ref 117, .int (fu_b a1)]) (st' := [.int (0 : Int32)]) (s' := s) rfl ?_
    exact fu_bret (b := false) rfl rfl
/-! X12_lay -/
theorem el_X12_lay_2 (d : Nat) (hd : 0 ≤ d) : ∀ (n : Nat) (s : fu_S) (x1 : Int32) (x2 : Int32), fu_J (l_X12_lay_2 n s x1 x2) (fun r => fr_X d none k_X12_lay 38 [am_U, am_U, am_U] [] r) (fr_X d none k_X12_lay 2 [.ref 117, .int x1, .int x2] [] s) := by
  intro n
  induction n with
  | zero => intros; exact fu_none
  | succ n ih =>
    intro s x1 x2
    rw [l_X12_lay_2]
    refine fu_go 1 (pc' := 3) (ls' := [.ref 117, .int x1, .int x2]) (st' := [.int x2]) (s' := s) rfl ?_
    refine fu_ite (fun h1 => fu_step (fu_if_lt_t rfl h1) ?_) (fun h1 => fu_step (fu_if_lt_f rfl h1) ?_)
    · exact fu_leaf rfl ⟨.inl rfl, .inl rfl, .inl rfl, trivial⟩
    · refine fu_go 1 (pc' := 7) (ls' := [.ref 117, .int x1, .int x2]) (st' := [.ref 117]) (s' := s) rfl ?_
      refine fu_step (fu_getR rfl fr_117 rfl rfl) ?_
      refine fu_go 1 (pc' := 11) (ls' := [.ref 117, .int x1, .int x2]) (st' := [.ref 117, .ref 121]) (s' := s) rfl ?_
      refine fu_step (fu_getI rfl fr_117 rfl rfl) ?_
      refine fu_go 6 (pc' := 21) (ls' := [.ref 117, .int x1, .int x2]) (st' := [.int (Int8.toInt32 (Int32.toInt8 (x1 >>> (((8 : Int32) * x2) &&& 31)))), .int (s.1 117 8), .ref 121]) (s' := s) rfl ?_
      refine fu_guard (fun h3 => fu_lets (b := (fu_pi s 121 (Int32.toNatClampNeg (s.1 117 8)) (fu_by (Int8.toInt32 (Int32.toInt8 (x1 >>> (((8 : Int32) * x2) &&& 31))))))) (fu_stB rfl fr_121 h3) (fun s2 => ?_))
      refine fu_go 2 (pc' := 24) (ls' := [.ref 117, .int x1, .int x2]) (st' := [.ref 117, .ref 117]) (s' := s2) rfl ?_
      refine fu_step (fu_getI rfl fr_117 rfl rfl) ?_
      refine fu_go 2 (pc' := 29) (ls' := [.ref 117, .int x1, .int x2]) (st' := [.int ((s2.1 117 8) + (1 : Int32)), .ref 117]) (s' := s2) rfl ?_
      refine fu_lets (b := (fu_pi s2 117 8 ((s2.1 117 8) + (1 : Int32)))) (fu_putI rfl fr_117 rfl rfl) (fun s4 => ?_)
      refine fu_go 2 (pc' := 2) (ls' := [.ref 117, .int x1, .int (x2 + (-1 : Int32))]) (st' := []) (s' := s4) rfl ?_
      exact fu_drop (ls' := [.ref 117, .int x1, .int (x2 + (-1 : Int32))]) ⟨.inr rfl, .inr rfl, .inr rfl, trivial⟩ (ih s4 x1 (x2 + (-1 : Int32)))
set_option maxRecDepth 100000 in
theorem e_X12_lay (d : Nat) (hd : 1 ≤ d) (s : fu_S) (a1 : Int32) : fu_J (f_X12_lay s a1) (fun r => some (none, r)) (am_D (fu_ho fr_sh) am_m d 283 [.ref 117, .int a1] s) := by
  obtain ⟨d, rfl⟩ : ∃ e, d = e + 1 := ⟨d - 1, by omega⟩
  refine fu_enter (ls := [.ref 117, .int a1, am_U]) am_at_X12_lay rfl rfl ?_
  show fu_J _ _ (fr_X d none k_X12_lay 0 [.ref 117, .int a1, am_U] [] s)
  unfold f_X12_lay
  refine fu_go 2 (pc' := 2) (ls' := [.ref 117, .int a1, .int (3 : Int32)]) (st' := []) (s' := s) rfl ?_
  refine fu_drop (ls' := [.ref 117, .int a1, .int (3 : Int32)]) ⟨.inr rfl, .inr rfl, .inr rfl, trivial⟩ ?_
  refine fu_bind (el_X12_lay_2 d (by omega) fu_N s a1 (3 : Int32)) (fun r5 => ?_)
  show fu_J _ _ (fr_X d none k_X12_lay 38 [am_U, am_U, am_U] [] r5)
  exact fu_vret rfl rfl
/-! X12_feed -/
set_option maxRecDepth 100000 in
theorem e_X12_feed (d : Nat) (hd : 2 ≤ d) (s : fu_S) (a1 : Int32) (a2 : Int32) (a3 : Int32) (a4 : Int32) (a5 : Int32) : fu_J (f_X12_feed s a1 a2 a3 a4 a5) (fun r => some (some (.int r.1), r.2)) (am_D (fu_ho fr_sh) am_m d 282 [.ref 117, .int a1, .int a2, .int a3, .int a4, .int a5] s) := by
  obtain ⟨d, rfl⟩ : ∃ e, d = e + 1 := ⟨d - 1, by omega⟩
  refine fu_enter (ls := [.ref 117, .int a1, .int a2, .int a3, .int a4, .int a5]) am_at_X12_feed rfl rfl ?_
  show fu_J _ _ (fr_X d (some .int) k_X12_feed 0 [.ref 117, .int a1, .int a2, .int a3, .int a4, .int a5] [] s)
  unfold f_X12_feed
  refine fu_go 2 (pc' := 2) (ls' := [.ref 117, .int a1, .int a2, .int a3, .int a4, .int a5]) (st' := [.int (0 : Int32), .ref 117]) (s' := s) rfl ?_
  refine fu_lets (b := (fu_pi s 117 1 (0 : Int32))) (fu_putI rfl fr_117 rfl rfl) (fun s1 => ?_)
  refine fu_go 1 (pc' := 6) (ls' := [.ref 117, .int a1, .int a2, .int a3, .int a4, .int a5]) (st' := [.ref 117]) (s' := s1) rfl ?_
  refine fu_step (fu_getI rfl fr_117 rfl rfl) ?_
  refine fu_go 3 (pc' := 15) (ls' := [.ref 117, .int a1, .int a2, .int a3, .int a4, .int a5]) (st' := [.int (900 : Int32), .int ((s1.1 117 8) + (20 : Int32))]) (s' := s1) rfl ?_
  refine fu_ite (fun h2 => fu_step (fu_ic_le_t rfl h2) ?_) (fun h2 => fu_step (fu_ic_le_f rfl h2) ?_)
  · refine fu_go 2 (pc' := 22) (ls' := [.ref 117, .int a1, .int a2, .int a3, .int a4, .int a5]) (st' := [.int a1, .ref 117]) (s' := s1) rfl ?_
    refine fu_bind (fu_cVJ rfl rfl rfl rfl rfl (fu_recv fr_117 am_at_X12_lay rfl) (e_X12_lay d (by omega) s1 a1)) (fun r3 => ?_)
    show fu_J _ _ (fr_X d (some .int) k_X12_feed 25 [.ref 117, .int a1, .int a2, .int a3, .int a4, .int a5] [] r3)
    refine fu_go 2 (pc' := 27) (ls' := [.ref 117, .int a1, .int a2, .int a3, .int a4, .int a5]) (st' := [.int a2, .ref 117]) (s' := r3) rfl ?_
    refine fu_bind (fu_cVJ rfl rfl rfl rfl rfl (fu_recv fr_117 am_at_X12_lay rfl) (e_X12_lay d (by omega) r3 a2)) (fun r4 => ?_)
    show fu_J _ _ (fr_X d (some .int) k_X12_feed 30 [.ref 117, .int a1, .int a2, .int a3, .int a4, .int a5] [] r4)
    refine fu_go 2 (pc' := 32) (ls' := [.ref 117, .int a1, .int a2, .int a3, .int a4, .int a5]) (st' := [.int a3, .ref 117]) (s' := r4) rfl ?_
    refine fu_bind (fu_cVJ rfl rfl rfl rfl rfl (fu_recv fr_117 am_at_X12_lay rfl) (e_X12_lay d (by omega) r4 a3)) (fun r5 => ?_)
    show fu_J _ _ (fr_X d (some .int) k_X12_feed 35 [.ref 117, .int a1, .int a2, .int a3, .int a4, .int a5] [] r5)
    refine fu_go 2 (pc' := 38) (ls' := [.ref 117, .int a1, .int a2, .int a3, .int a4, .int a5]) (st' := [.int a4, .ref 117]) (s' := r5) rfl ?_
    refine fu_bind (fu_cVJ rfl rfl rfl rfl rfl (fu_recv fr_117 am_at_X12_lay rfl) (e_X12_lay d (by omega) r5 a4)) (fun r6 => ?_)
    show fu_J _ _ (fr_X d (some .int) k_X12_feed 41 [.ref 117, .int a1, .int a2, .int a3, .int a4, .int a5] [] r6)
    refine fu_go 2 (pc' := 44) (ls' := [.ref 117, .int a1, .int a2, .int a3, .int a4, .int a5]) (st' := [.int a5, .ref 117]) (s' := r6) rfl ?_
    refine fu_bind (fu_cVJ rfl rfl rfl rfl rfl (fu_recv fr_117 am_at_X12_lay rfl) (e_X12_lay d (by omega) r6 a5)) (fun r7 => ?_)
    show fu_J _ _ (fr_X d (some .int) k_X12_feed 47 [.ref 117, .int a1, .int a2, .int a3, .int a4, .int a5] [] r7)
    refine fu_go 1 (pc' := 48) (ls' := [.ref 117, .int a1, .int a2, .int a3, .int a4, .int a5]) (st' := [.ref 117]) (s' := r7) rfl ?_
    refine fu_step (fu_getI rfl fr_117 rfl rfl) ?_
    exact fu_iret rfl rfl
  · refine fu_go 1 (pc' := 19) (ls' := [.ref 117, .int a1, .int a2, .int a3, .int a4, .int a5]) (st' := [.int (-1 : Int32)]) (s' := s1) rfl ?_
    exact fu_iret rfl rfl
/-! X12_starts -/
set_option maxRecDepth 100000 in
theorem e_X12_starts (d : Nat) (hd : 3 ≤ d) (s : fu_S) (a1 : Int32) (a2 : Int32) : fu_J (f_X12_starts s a1 a2) (fun r => some (some (.int (fu_b r.1)), r.2)) (am_D (fu_ho fr_sh) am_m d 284 [.ref 117, .int a1, .int a2] s) := by
  obtain ⟨d, rfl⟩ : ∃ e, d = e + 1 := ⟨d - 1, by omega⟩
  refine fu_enter (ls := [.ref 117, .int a1, .int a2]) am_at_X12_starts rfl rfl ?_
  show fu_J _ _ (fr_X d (some .boolean) k_X12_starts 0 [.ref 117, .int a1, .int a2] [] s)
  unfold f_X12_starts
  refine fu_go 1 (pc' := 1) (ls' := [.ref 117, .int a1, .int a2]) (st' := [.int a1]) (s' := s) rfl ?_
  refine fu_ite (fun h1 => fu_step (fu_if_lt_t rfl h1) ?_) (fun h1 => fu_step (fu_if_lt_f rfl h1) ?_)
  · refine fu_go 2 (pc' := 19) (ls' := [.ref 117, .int a1, .int a2]) (st' := [.int (5 : Int32), .ref 117]) (s' := s) rfl ?_
    refine fu_let (fu_cVJ rfl rfl rfl rfl rfl (fu_recv fr_117 am_at_X12_no rfl) (e_X12_no d (by omega) s (5 : Int32))) (fun r2 => ?_)
    show fu_J _ _ (fr_X d (some .boolean) k_X12_starts 22 [.ref 117, .int a1, .int a2] [.int (fu_b r2.1)] r2.2)
    exact fu_bret (b := r2.1) rfl rfl
  · refine fu_go 2 (pc' := 6) (ls' := [.ref 117, .int a1, .int a2]) (st' := [.ref 117, .int a1]) (s' := s) rfl ?_
    refine fu_step (fu_getI rfl fr_117 rfl rfl) ?_
    refine fu_ite (fun h3 => fu_step (fu_ic_gt_t rfl h3) ?_) (fun h3 => fu_step (fu_ic_gt_f rfl h3) ?_)
    · refine fu_go 2 (pc' := 14) (ls' := [.ref 117, .int a1, .int a2]) (st' := [.int a2, .int a1]) (s' := s) rfl ?_
      refine fu_ite (fun h4 => fu_step (fu_ic_le_t rfl h4) ?_) (fun h4 => fu_step (fu_ic_le_f rfl h4) ?_)
      · refine fu_go 2 (pc' := 25) (ls' := [.ref 117, .int a1, .int a2]) (st' := [.int a1, .ref 117]) (s' := s) rfl ?_
        refine fu_lets (b := (fu_pi s 117 9 a1)) (fu_putI rfl fr_117 rfl rfl) (fun s5 => ?_)
        refine fu_go 2 (pc' := 30) (ls' := [.ref 117, .int a1, .int a2]) (st' := [.int (0 : Int32), .ref 117]) (s' := s5) rfl ?_
        refine fu_lets (b := (fu_pi s5 117 8 (0 : Int32))) (fu_putI rfl fr_117 rfl rfl) (fun s6 => ?_)
        refine fu_go 2 (pc' := 35) (ls' := [.ref 117, .int a1, .int a2]) (st' := [.int (0 : Int32), .ref 117]) (s' := s6) rfl ?_
        refine fu_lets (b := (fu_pi s6 117 16 (0 : Int32))) (fu_putI rfl fr_117 rfl rfl) (fun s7 => ?_)
        refine fu_go 2 (pc' := 40) (ls' := [.ref 117, .int a1, .int a2]) (st' := [.int (0 : Int32), .ref 117]) (s' := s7) rfl ?_
        refine fu_lets (b := (fu_pi s7 117 12 (0 : Int32))) (fu_putI rfl fr_117 rfl rfl) (fun s8 => ?_)
        refine fu_go 1 (pc' := 44) (ls' := [.ref 117, .int a1, .int a2]) (st' := [.ref 117]) (s' := s8) rfl ?_
        refine fu_bind (fu_cVJ rfl rfl rfl rfl rfl (fu_recv fr_117 am_at_X12_advance rfl) (e_X12_advance d (by omega) s8)) (fun r9 => ?_)
        show fu_J _ _ (fr_X d (some .boolean) k_X12_starts 47 [.ref 117, .int a1, .int a2] [] r9)
        refine fu_go 1 (pc' := 48) (ls' := [.ref 117, .int a1, .int a2]) (st' := [.int (1 : Int32)]) (s' := r9) rfl ?_
        exact fu_bret (b := true) rfl rfl
      · refine fu_go 2 (pc' := 19) (ls' := [.ref 117, .int a1, .int a2]) (st' := [.int (5 : Int32), .ref 117]) (s' := s) rfl ?_
        refine fu_let (fu_cVJ rfl rfl rfl rfl rfl (fu_recv fr_117 am_at_X12_no rfl) (e_X12_no d (by omega) s (5 : Int32))) (fun r10 => ?_)
        show fu_J _ _ (fr_X d (some .boolean) k_X12_starts 22 [.ref 117, .int a1, .int a2] [.int (fu_b r10.1)] r10.2)
        exact fu_bret (b := r10.1) rfl rfl
    · refine fu_go 2 (pc' := 19) (ls' := [.ref 117, .int a1, .int a2]) (st' := [.int (5 : Int32), .ref 117]) (s' := s) rfl ?_
      refine fu_let (fu_cVJ rfl rfl rfl rfl rfl (fu_recv fr_117 am_at_X12_no rfl) (e_X12_no d (by omega) s (5 : Int32))) (fun r11 => ?_)
      show fu_J _ _ (fr_X d (some .boolean) k_X12_starts 22 [.ref 117, .int a1, .int a2] [.int (fu_b r11.1)] r11.2)
      exact fu_bret (b := r11.1) rfl rfl
/-! X12_isWell -/
set_option maxRecDepth 100000 in
theorem e_X12_isWell (d : Nat) (hd : 2 ≤ d) (s : fu_S) : fu_J (some (f_X12_isWell s)) (fun r => some (some (.int (fu_b r.1)), r.2)) (am_D (fu_ho fr_sh) am_m d 285 [.ref 117] s) := by
  obtain ⟨d, rfl⟩ : ∃ e, d = e + 1 := ⟨d - 1, by omega⟩
  refine fu_enter (ls := [.ref 117]) am_at_X12_isWell rfl rfl ?_
  show fu_J _ _ (fr_X d (some .boolean) k_X12_isWell 0 [.ref 117] [] s)
  unfold f_X12_isWell
  refine fu_go 2 (pc' := 2) (ls' := [.ref 117]) (st' := [.ref 117, .ref 117]) (s' := s) rfl ?_
  refine fu_step (fu_getI rfl fr_117 rfl rfl) ?_
  refine fu_letsS (b := (fu_pi s 117 10 (s.1 117 12))) (fu_putI rfl fr_117 rfl rfl) (fun s1 => ?_)
  refine fu_go 2 (pc' := 10) (ls' := [.ref 117]) (st' := [.ref 117, .ref 117]) (s' := s1) rfl ?_
  refine fu_step (fu_getI rfl fr_117 rfl rfl) ?_
  refine fu_letS (V := fun j2 : Int32 => fr_X d (some .boolean) k_X12_isWell 24 [.ref 117] [.int j2, .ref 117] s1) ?_ (fun j2 => ?_)
  · refine fu_iteS (fun h3 => fu_step (fu_if_ne_t rfl h3) ?_) (fun h3 => fu_step (fu_if_ne_f rfl h3) ?_)
    · refine fu_go 2 (pc' := 24) (ls' := [.ref 117]) (st' := [.int (-1 : Int32), .ref 117]) (s' := s1) rfl ?_
      exact fu_leaf rfl ⟨.inr rfl, trivial⟩
    · refine fu_go 1 (pc' := 21) (ls' := [.ref 117]) (st' := [.ref 117, .ref 117]) (s' := s1) rfl ?_
      refine fu_step (fu_getI rfl fr_117 rfl rfl) ?_
      exact fu_leaf rfl ⟨.inr rfl, trivial⟩
  show fu_J _ _ (fr_X d (some .boolean) k_X12_isWell 24 [.ref 117] [.int j2, .ref 117] s1)
  refine fu_letsS (b := (fu_pi s1 117 11 j2)) (fu_putI rfl fr_117 rfl rfl) (fun s4 => ?_)
  refine fu_go 1 (pc' := 28) (ls' := [.ref 117]) (st' := [.ref 117]) (s' := s4) rfl ?_
  refine fu_step (fu_getI rfl fr_117 rfl rfl) ?_
  refine fu_letS (V := fun j5 : Bool × fu_S => fr_X d (some .boolean) k_X12_isWell 48 [am_U] [.int (fu_b j5.1)] j5.2) ?_ (fun j5 => ?_)
  · refine fu_iteS (fun h6 => fu_step (fu_if_eq_t rfl h6) ?_) (fun h6 => fu_step (fu_if_eq_f rfl h6) ?_)
    · refine fu_go 2 (pc' := 48) (ls' := [.ref 117]) (st' := [.int (1 : Int32)]) (s' := s4) rfl ?_
      exact fu_leaf rfl ⟨.inl rfl, trivial⟩
    · refine fu_go 2 (pc' := 37) (ls' := [.ref 117]) (st' := [.int (10 : Int32), .ref 117]) (s' := s4) rfl ?_
      refine fu_letS (fu_cVJ rfl rfl rfl rfl rfl (fu_recv fr_117 am_at_X12_no rfl) (e_X12_no d (by omega) s4 (10 : Int32))) (fun r7 => ?_)
      show fu_J _ _ (fr_X d (some .boolean) k_X12_isWell 40 [.ref 117] [.int (fu_b r7.1)] r7.2)
      refine fu_iteS (fun h8 => fu_step (fu_ib_eq_t rfl h8) ?_) (fun h8 => fu_step (fu_ib_eq_f rfl h8) ?_)
      · refine fu_go 2 (pc' := 48) (ls' := [.ref 117]) (st' := [.int (1 : Int32)]) (s' := r7.2) rfl ?_
        exact fu_leaf rfl ⟨.inl rfl, trivial⟩
      · refine fu_go 1 (pc' := 48) (ls' := [.ref 117]) (st' := [.int (0 : Int32)]) (s' := r7.2) rfl ?_
        exact fu_leaf rfl ⟨.inl rfl, trivial⟩
  show fu_J _ _ (fr_X d (some .boolean) k_X12_isWell 48 [am_U] [.int (fu_b j5.1)] j5.2)
  exact fu_bret (b := j5.1) rfl rfl
/-! X12_fault -/
set_option maxRecDepth 100000 in
theorem e_X12_fault (d : Nat) (hd : 1 ≤ d) (s : fu_S) (a1 : Int32) : fu_J (some (f_X12_fault s a1)) (fun r => some (some (.int r.1), r.2)) (am_D (fu_ho fr_sh) am_m d 286 [.ref 117, .int a1] s) := by
  obtain ⟨d, rfl⟩ : ∃ e, d = e + 1 := ⟨d - 1, by omega⟩
  refine fu_enter (ls := [.ref 117, .int a1]) am_at_X12_fault rfl rfl ?_
  show fu_J _ _ (fr_X d (some .int) k_X12_fault 0 [.ref 117, .int a1] [] s)
  unfold f_X12_fault
  refine fu_go 2 (pc' := 2) (ls' := [.ref 117, .int a1]) (st' := [.int (0 : Int32), .ref 117]) (s' := s) rfl ?_
  refine fu_letsS (b := (fu_pi s 117 1 (0 : Int32))) (fu_putI rfl fr_117 rfl rfl) (fun s1 => ?_)
  refine fu_go 1 (pc' := 6) (ls' := [.ref 117, .int a1]) (st' := [.int a1]) (s' := s1) rfl ?_
  refine fu_letS (V := fun j2 : Int32 => fr_X d (some .int) k_X12_fault 29 [am_U, am_U] [.int j2] s1) ?_ (fun j2 => ?_)
  · refine fu_iteS (fun h3 => fu_step (fu_if_ne_t rfl h3) ?_) (fun h3 => fu_step (fu_if_ne_f rfl h3) ?_)
    · refine fu_go 1 (pc' := 10) (ls' := [.ref 117, .int a1]) (st' := [.ref 117]) (s' := s1) rfl ?_
      refine fu_step (fu_getI rfl fr_117 rfl rfl) ?_
      refine fu_go 1 (pc' := 29) (ls' := [.ref 117, .int a1]) (st' := [.int (s1.1 117 10)]) (s' := s1) rfl ?_
      exact fu_leaf rfl ⟨.inl rfl, .inl rfl, trivial⟩
    · refine fu_go 2 (pc' := 18) (ls' := [.ref 117, .int a1]) (st' := [.int (1 : Int32), .int a1]) (s' := s1) rfl ?_
      refine fu_iteS (fun h4 => fu_step (fu_ic_ne_t rfl h4) ?_) (fun h4 => fu_step (fu_ic_ne_f rfl h4) ?_)
      · refine fu_go 1 (pc' := 22) (ls' := [.ref 117, .int a1]) (st' := [.ref 117]) (s' := s1) rfl ?_
        refine fu_step (fu_getI rfl fr_117 rfl rfl) ?_
        refine fu_go 1 (pc' := 29) (ls' := [.ref 117, .int a1]) (st' := [.int (s1.1 117 11)]) (s' := s1) rfl ?_
        exact fu_leaf rfl ⟨.inl rfl, .inl rfl, trivial⟩
      · refine fu_go 1 (pc' := 29) (ls' := [.ref 117, .int a1]) (st' := [.int (-1 : Int32)]) (s' := s1) rfl ?_
        exact fu_leaf rfl ⟨.inl rfl, .inl rfl, trivial⟩
  show fu_J _ _ (fr_X d (some .int) k_X12_fault 29 [am_U, am_U] [.int j2] s1)
  exact fu_iret rfl rfl
/-! X12_named -/
theorem el_X12_named_2 (d : Nat) (hd : 0 ≤ d) : ∀ (n : Nat) (s : fu_S) (x1 : Int32) (x2 : Int32), fu_J (l_X12_named_2 n s x1 x2) (fun u => Sum.elim (fun r => some (some (.int r), s)) (fun r => fr_X d (some .int) k_X12_named 45 [am_U, am_U, am_U] [] s) u) (fr_X d (some .int) k_X12_named 2 [.ref 117, .int x1, .int x2] [] s) := by
  intro n
  induction n with
  | zero => intros; exact fu_none
  | succ n ih =>
    intro s x1 x2
    rw [l_X12_named_2]
    refine fu_go 2 (pc' := 4) (ls' := [.ref 117, .int x1, .int x2]) (st' := [.ref 117, .int x2]) (s' := s) rfl ?_
    refine fu_step (fu_getR rfl fr_117 rfl rfl) ?_
    refine fu_go 5 (pc' := 14) (ls' := [.ref 117, .int x1, .int x2]) (st' := [.int (((355 : Int32) * x1) + (1 : Int32)), .ref 122, .int x2]) (s' := s) rfl ?_
    refine fu_guard (fun h1 => fu_step (fu_ldI rfl fr_122 h1) ?_)
    refine fu_ite (fun h2 => fu_step (fu_ic_ge_t rfl h2) ?_) (fun h2 => fu_step (fu_ic_ge_f rfl h2) ?_)
    · refine fu_go 1 (pc' := 19) (ls' := [.ref 117, .int x1, .int x2]) (st' := [.ref 117]) (s' := s) rfl ?_
      refine fu_step (fu_getR rfl fr_117 rfl rfl) ?_
      refine fu_go 5 (pc' := 28) (ls' := [.ref 117, .int x1, .int x2]) (st' := [.int (((7 : Int32) * x1) + x2), .ref 124]) (s' := s) rfl ?_
      refine fu_guard (fun h3 => fu_step (fu_ldL rfl fr_124 h3) ?_)
      refine fu_go 1 (pc' := 30) (ls' := [.ref 117, .int x1, .int x2]) (st' := [.ref 117, .long (s.2 124 (Int32.toNatClampNeg (((7 : Int32) * x1) + x2)))]) (s' := s) rfl ?_
      refine fu_step (fu_getL rfl fr_117 rfl rfl) ?_
      refine fu_ite (fun h4 => fu_step (fu_lc_ne_t rfl rfl h4) ?_) (fun h4 => fu_step (fu_lc_ne_f rfl rfl h4) ?_)
      · refine fu_go 1 (pc' := 38) (ls' := [.ref 117, .int x1, .int x2]) (st' := [.int x2]) (s' := s) rfl ?_
        exact fu_iret rfl rfl
      · refine fu_go 2 (pc' := 2) (ls' := [.ref 117, .int x1, .int (x2 + (1 : Int32))]) (st' := []) (s' := s) rfl ?_
        exact fu_drop (ls' := [.ref 117, .int x1, .int (x2 + (1 : Int32))]) ⟨.inr rfl, .inr rfl, .inr rfl, trivial⟩ (ih s x1 (x2 + (1 : Int32)))
    · exact fu_leaf rfl ⟨.inl rfl, .inl rfl, .inl rfl, trivial⟩
set_option maxRecDepth 100000 in
theorem e_X12_named (d : Nat) (hd : 1 ≤ d) (s : fu_S) (a1 : Int32) : fu_J (f_X12_named s a1) (fun r => some (some (.int r), s)) (am_D (fu_ho fr_sh) am_m d 288 [.ref 117, .int a1] s) := by
  obtain ⟨d, rfl⟩ : ∃ e, d = e + 1 := ⟨d - 1, by omega⟩
  refine fu_enter (ls := [.ref 117, .int a1, am_U]) am_at_X12_named rfl rfl ?_
  show fu_J _ _ (fr_X d (some .int) k_X12_named 0 [.ref 117, .int a1, am_U] [] s)
  unfold f_X12_named
  refine fu_go 2 (pc' := 2) (ls' := [.ref 117, .int a1, .int (0 : Int32)]) (st' := []) (s' := s) rfl ?_
  refine fu_drop (ls' := [.ref 117, .int a1, .int (0 : Int32)]) ⟨.inr rfl, .inr rfl, .inr rfl, trivial⟩ ?_
  refine fu_bind (el_X12_named_2 d (by omega) fu_N s a1 (0 : Int32)) (fun u => fu_sum (fun a => ?_) (fun r5 => ?_))
  · exact fu_ret rfl
  show fu_J _ _ (fr_X d (some .int) k_X12_named 45 [am_U, am_U, am_U] [] s)
  refine fu_go 1 (pc' := 46) (ls' := [am_U, am_U, am_U]) (st' := [.int (-1 : Int32)]) (s' := s) rfl ?_
  exact fu_iret rfl rfl
/-! X12_readTold -/
set_option maxRecDepth 100000 in
theorem e_X12_readTold (d : Nat) (hd : 5 ≤ d) (s : fu_S) (a1 : Int32) : fu_J (f_X12_readTold s a1) (fun r => some (some (.int r.1), r.2)) (am_D (fu_ho fr_sh) am_m d 289 [.ref 117, .int a1] s) := by
  obtain ⟨d, rfl⟩ : ∃ e, d = e + 1 := ⟨d - 1, by omega⟩
  refine fu_enter (ls := [.ref 117, .int a1, am_U]) am_at_X12_readTold rfl rfl ?_
  show fu_J _ _ (fr_X d (some .int) k_X12_readTold 0 [.ref 117, .int a1, am_U] [] s)
  unfold f_X12_readTold
  refine fu_go 1 (pc' := 1) (ls' := [.ref 117, .int a1, am_U]) (st' := [.ref 117]) (s' := s) rfl ?_
  refine fu_step (fu_getI rfl fr_117 rfl rfl) ?_
  refine fu_bind (V := fun j1 : fu_S => fr_X d (some .int) k_X12_readTold 18 [.ref 117, .int a1, am_U] [] j1) ?_ (fun j1 => ?_)
  · refine fu_ite (fun h2 => fu_step (fu_if_ne_t rfl h2) ?_) (fun h2 => fu_step (fu_if_ne_f rfl h2) ?_)
    · refine fu_go 1 (pc' := 8) (ls' := [.ref 117, .int a1, am_U]) (st' := [.ref 117]) (s' := s) rfl ?_
      refine fu_step (fu_cV rfl rfl rfl rfl rfl (fu_recv fr_117 am_at_X12_isName rfl) (fu_eq (e_X12_isName d (by omega) s) rfl)) ?_
      show fu_J _ _ (fr_X d (some .int) k_X12_readTold 11 [.ref 117, .int a1, am_U] [.int (fu_b (f_X12_isName s))] s)
      refine fu_ite (fun h3 => fu_step (fu_ib_ne_t rfl h3) ?_) (fun h3 => fu_step (fu_ib_ne_f rfl h3) ?_)
      · exact fu_leaf rfl ⟨.inr rfl, .inr rfl, .inl rfl, trivial⟩
      · refine fu_go 1 (pc' := 15) (ls' := [.ref 117, .int a1, am_U]) (st' := [.ref 117]) (s' := s) rfl ?_
        refine fu_let (fu_cVJ rfl rfl rfl rfl rfl (fu_recv fr_117 am_at_X12_amiss rfl) (e_X12_amiss d (by omega) s)) (fun r4 => ?_)
        show fu_J _ _ (fr_X d (some .int) k_X12_readTold 18 [.ref 117, .int a1, am_U] [] r4)
        exact fu_leaf rfl ⟨.inr rfl, .inr rfl, .inl rfl, trivial⟩
    · exact fu_leaf rfl ⟨.inr rfl, .inr rfl, .inl rfl, trivial⟩
  show fu_J _ _ (fr_X d (some .int) k_X12_readTold 18 [.ref 117, .int a1, am_U] [] j1)
  refine fu_go 1 (pc' := 19) (ls' := [.ref 117, .int a1, am_U]) (st' := [.ref 117]) (s' := j1) rfl ?_
  refine fu_step (fu_getI rfl fr_117 rfl rfl) ?_
  refine fu_ite (fun h5 => fu_step (fu_if_le_t rfl h5) ?_) (fun h5 => fu_step (fu_if_le_f rfl h5) ?_)
  · refine fu_go 2 (pc' := 29) (ls' := [.ref 117, .int a1, am_U]) (st' := [.int a1, .ref 117]) (s' := j1) rfl ?_
    refine fu_bind (fu_cVJ rfl rfl rfl rfl rfl (fu_recv fr_117 am_at_X12_named rfl) (e_X12_named d (by omega) j1 a1)) (fun r6 => ?_)
    show fu_J _ _ (fr_X d (some .int) k_X12_readTold 32 [.ref 117, .int a1, am_U] [.int r6] j1)
    refine fu_go 2 (pc' := 34) (ls' := [.ref 117, .int a1, .int r6]) (st' := [.int r6]) (s' := j1) rfl ?_
    refine fu_bind (V := fun j7 : fu_S => fr_X d (some .int) k_X12_readTold 46 [.ref 117, am_U, .int r6] [] j7) ?_ (fun j7 => ?_)
    · refine fu_ite (fun h8 => fu_step (fu_if_ge_t rfl h8) ?_) (fun h8 => fu_step (fu_if_ge_f rfl h8) ?_)
      · refine fu_go 3 (pc' := 40) (ls' := [.ref 117, .int a1, .int r6]) (st' := [.ref 117, .int (3 : Int32), .ref 117]) (s' := j1) rfl ?_
        refine fu_step (fu_getI rfl fr_117 rfl rfl) ?_
        refine fu_let (fu_cVJ rfl rfl rfl rfl rfl (fu_recv fr_117 am_at_X12_fail rfl) (e_X12_fail d (by omega) j1 (3 : Int32) (j1.1 117 15))) (fun r9 => ?_)
        show fu_J _ _ (fr_X d (some .int) k_X12_readTold 46 [.ref 117, .int a1, .int r6] [] r9)
        exact fu_leaf rfl ⟨.inr rfl, .inl rfl, .inr rfl, trivial⟩
      · exact fu_leaf rfl ⟨.inr rfl, .inl rfl, .inr rfl, trivial⟩
    show fu_J _ _ (fr_X d (some .int) k_X12_readTold 46 [.ref 117, am_U, .int r6] [] j7)
    refine fu_go 2 (pc' := 48) (ls' := [.ref 117, am_U, .int r6]) (st' := [.int (1 : Int32), .ref 117]) (s' := j7) rfl ?_
    refine fu_bind (fu_cVJ rfl rfl rfl rfl rfl (fu_recv fr_117 am_at_X12_must rfl) (e_X12_must d (by omega) j7 true)) (fun r10 => ?_)
    show fu_J _ _ (fr_X d (some .int) k_X12_readTold 51 [.ref 117, am_U, .int r6] [] r10)
    refine fu_go 2 (pc' := 53) (ls' := [.ref 117, am_U, .int r6]) (st' := [.int r6, .int (0 : Int32)]) (s' := r10) rfl ?_
    refine fu_step (fu_prim rfl rfl rfl rfl) ?_
    exact fu_iret rfl rfl
  · refine fu_go 1 (pc' := 26) (ls' := [.ref 117, .int a1, am_U]) (st' := [.int (0 : Int32)]) (s' := j1) rfl ?_
    exact fu_iret rfl rfl
/-! X12_readOnce -/
set_option maxRecDepth 100000 in
theorem e_X12_readOnce (d : Nat) (hd : 4 ≤ d) (s : fu_S) (a1 : Int32) (a2 : Int32) : fu_J (f_X12_readOnce s a1 a2) (fun r => some (none, r)) (am_D (fu_ho fr_sh) am_m d 290 [.ref 117, .int a1, .int a2] s) := by
  obtain ⟨d, rfl⟩ : ∃ e, d = e + 1 := ⟨d - 1, by omega⟩
  refine fu_enter (ls := [.ref 117, .int a1, .int a2, am_U]) am_at_X12_readOnce rfl rfl ?_
  show fu_J _ _ (fr_X d none k_X12_readOnce 0 [.ref 117, .int a1, .int a2, am_U] [] s)
  unfold f_X12_readOnce
  refine fu_go 1 (pc' := 1) (ls' := [.ref 117, .int a1, .int a2, am_U]) (st' := [.ref 117]) (s' := s) rfl ?_
  refine fu_step (fu_getI rfl fr_117 rfl rfl) ?_
  refine fu_go 1 (pc' := 5) (ls' := [.ref 117, .int a1, .int a2, am_U]) (st' := [.int a1, .int (s.1 117 24)]) (s' := s) rfl ?_
  refine fu_step (fu_cS rfl rfl rfl rfl rfl rfl (fu_eq (e_X12_has d (by omega) s (s.1 117 24) a1) rfl)) ?_
  show fu_J _ _ (fr_X d none k_X12_readOnce 8 [.ref 117, .int a1, .int a2, am_U] [.int (fu_b (f_X12_has (s.1 117 24) a1))] s)
  refine fu_bind (V := fun j1 : fu_S => fr_X d none k_X12_readOnce 20 [.ref 117, .int a1, .int a2, am_U] [] j1) ?_ (fun j1 => ?_)
  · refine fu_ite (fun h2 => fu_step (fu_ib_eq_t rfl h2) ?_) (fun h2 => fu_step (fu_ib_eq_f rfl h2) ?_)
    · refine fu_go 3 (pc' := 14) (ls' := [.ref 117, .int a1, .int a2, am_U]) (st' := [.ref 117, .int (5 : Int32), .ref 117]) (s' := s) rfl ?_
      refine fu_step (fu_getI rfl fr_117 rfl rfl) ?_
      refine fu_let (fu_cVJ rfl rfl rfl rfl rfl (fu_recv fr_117 am_at_X12_fail rfl) (e_X12_fail d (by omega) s (5 : Int32) (s.1 117 15))) (fun r3 => ?_)
      show fu_J _ _ (fr_X d none k_X12_readOnce 20 [.ref 117, .int a1, .int a2, am_U] [] r3)
      exact fu_leaf rfl ⟨.inr rfl, .inr rfl, .inr rfl, .inl rfl, trivial⟩
    · exact fu_leaf rfl ⟨.inr rfl, .inr rfl, .inr rfl, .inl rfl, trivial⟩
  show fu_J _ _ (fr_X d none k_X12_readOnce 20 [.ref 117, .int a1, .int a2, am_U] [] j1)
  refine fu_go 2 (pc' := 22) (ls' := [.ref 117, .int a1, .int a2, am_U]) (st' := [.ref 117, .ref 117]) (s' := j1) rfl ?_
  refine fu_step (fu_getI rfl fr_117 rfl rfl) ?_
  refine fu_go 4 (pc' := 29) (ls' := [.ref 117, .int a1, .int a2, am_U]) (st' := [.int ((j1.1 117 24) ||| ((1 : Int32) <<< (a1 &&& 31))), .ref 117]) (s' := j1) rfl ?_
  refine fu_lets (b := (fu_pi j1 117 24 ((j1.1 117 24) ||| ((1 : Int32) <<< (a1 &&& 31))))) (fu_putI rfl fr_117 rfl rfl) (fun s4 => ?_)
  refine fu_go 2 (pc' := 34) (ls' := [.ref 117, .int a1, .int a2, am_U]) (st' := [.int (1 : Int32), .ref 117]) (s' := s4) rfl ?_
  refine fu_bind (fu_cVJ rfl rfl rfl rfl rfl (fu_recv fr_117 am_at_X12_must rfl) (e_X12_must d (by omega) s4 true)) (fun r5 => ?_)
  show fu_J _ _ (fr_X d none k_X12_readOnce 37 [.ref 117, .int a1, .int a2, am_U] [] r5)
  refine fu_go 3 (pc' := 40) (ls' := [.ref 117, .int a1, .int a2, am_U]) (st' := [.int a2, .int (0 : Int32), .ref 117]) (s' := r5) rfl ?_
  refine fu_bind (fu_cVJ rfl rfl rfl rfl rfl (fu_recv fr_117 am_at_X12_count rfl) (e_X12_count d (by omega) r5 (0 : Int32) a2)) (fun r6 => ?_)
  show fu_J _ _ (fr_X d none k_X12_readOnce 43 [.ref 117, .int a1, .int a2, am_U] [.int r6.1] r6.2)
  refine fu_go 2 (pc' := 45) (ls' := [.ref 117, .int a1, .int a2, .int r6.1]) (st' := [.ref 117]) (s' := r6.2) rfl ?_
  refine fu_step (fu_getI rfl fr_117 rfl rfl) ?_
  refine fu_bind (V := fun j7 : fu_S => fr_X d none k_X12_readOnce 62 [am_U, am_U, am_U, am_U] [] j7) ?_ (fun j7 => ?_)
  · refine fu_ite (fun h8 => fu_step (fu_if_ne_t rfl h8) ?_) (fun h8 => fu_step (fu_if_ne_f rfl h8) ?_)
    · refine fu_go 1 (pc' := 52) (ls' := [.ref 117, .int a1, .int a2, .int r6.1]) (st' := [.ref 117]) (s' := r6.2) rfl ?_
      refine fu_step (fu_getR rfl fr_117 rfl rfl) ?_
      refine fu_go 4 (pc' := 61) (ls' := [.ref 117, .int a1, .int a2, .int r6.1]) (st' := [.int r6.1, .int ((1420 : Int32) + a1), .ref 122]) (s' := r6.2) rfl ?_
      refine fu_guard (fun h10 => fu_lets (b := (fu_pi r6.2 122 (Int32.toNatClampNeg ((1420 : Int32) + a1)) r6.1)) (fu_stI rfl fr_122 h10) (fun s9 => ?_))
      exact fu_leaf rfl ⟨.inl rfl, .inl rfl, .inl rfl, .inl rfl, trivial⟩
    · exact fu_leaf rfl ⟨.inl rfl, .inl rfl, .inl rfl, .inl rfl, trivial⟩
  show fu_J _ _ (fr_X d none k_X12_readOnce 62 [am_U, am_U, am_U, am_U] [] j7)
  exact fu_vret rfl rfl
/-! X12_another -/
set_option maxRecDepth 100000 in
theorem e_X12_another (d : Nat) (hd : 4 ≤ d) (s : fu_S) (a1 : Int32) (a2 : Int32) : fu_J (f_X12_another s a1 a2) (fun r => some (some (.int r.1), r.2)) (am_D (fu_ho fr_sh) am_m d 291 [.ref 117, .int a1, .int a2] s) := by
  obtain ⟨d, rfl⟩ : ∃ e, d = e + 1 := ⟨d - 1, by omega⟩
  refine fu_enter (ls := [.ref 117, .int a1, .int a2, am_U]) am_at_X12_another rfl rfl ?_
  show fu_J _ _ (fr_X d (some .int) k_X12_another 0 [.ref 117, .int a1, .int a2, am_U] [] s)
  unfold f_X12_another
  refine fu_go 1 (pc' := 1) (ls' := [.ref 117, .int a1, .int a2, am_U]) (st' := [.ref 117]) (s' := s) rfl ?_
  refine fu_step (fu_getR rfl fr_117 rfl rfl) ?_
  refine fu_go 3 (pc' := 9) (ls' := [.ref 117, .int a1, .int a2, am_U]) (st' := [.int ((1420 : Int32) + a1), .ref 122]) (s' := s) rfl ?_
  refine fu_guard (fun h1 => fu_step (fu_ldI rfl fr_122 h1) ?_)
  refine fu_go 3 (pc' := 13) (ls' := [.ref 117, .int a1, .int a2, .int (s.1 122 (Int32.toNatClampNeg ((1420 : Int32) + a1)))]) (st' := [.int a2, .int (s.1 122 (Int32.toNatClampNeg ((1420 : Int32) + a1)))]) (s' := s) rfl ?_
  refine fu_bind (V := fun j2 : fu_S => fr_X d (some .int) k_X12_another 26 [.ref 117, am_U, am_U, .int (s.1 122 (Int32.toNatClampNeg ((1420 : Int32) + a1)))] [] j2) ?_ (fun j2 => ?_)
  · refine fu_ite (fun h3 => fu_step (fu_ic_ne_t rfl h3) ?_) (fun h3 => fu_step (fu_ic_ne_f rfl h3) ?_)
    · refine fu_go 3 (pc' := 20) (ls' := [.ref 117, .int a1, .int a2, .int (s.1 122 (Int32.toNatClampNeg ((1420 : Int32) + a1)))]) (st' := [.ref 117, .int (6 : Int32), .ref 117]) (s' := s) rfl ?_
      refine fu_step (fu_getI rfl fr_117 rfl rfl) ?_
      refine fu_let (fu_cVJ rfl rfl rfl rfl rfl (fu_recv fr_117 am_at_X12_fail rfl) (e_X12_fail d (by omega) s (6 : Int32) (s.1 117 15))) (fun r4 => ?_)
      show fu_J _ _ (fr_X d (some .int) k_X12_another 26 [.ref 117, .int a1, .int a2, .int (s.1 122 (Int32.toNatClampNeg ((1420 : Int32) + a1)))] [] r4)
      exact fu_leaf rfl ⟨.inr rfl, .inl rfl, .inl rfl, .inr rfl, trivial⟩
    · exact fu_leaf rfl ⟨.inr rfl, .inl rfl, .inl rfl, .inr rfl, trivial⟩
  show fu_J _ _ (fr_X d (some .int) k_X12_another 26 [.ref 117, am_U, am_U, .int (s.1 122 (Int32.toNatClampNeg ((1420 : Int32) + a1)))] [] j2)
  refine fu_go 2 (pc' := 28) (ls' := [.ref 117, am_U, am_U, .int (s.1 122 (Int32.toNatClampNeg ((1420 : Int32) + a1)))]) (st' := [.int (1 : Int32), .ref 117]) (s' := j2) rfl ?_
  refine fu_bind (fu_cVJ rfl rfl rfl rfl rfl (fu_recv fr_117 am_at_X12_must rfl) (e_X12_must d (by omega) j2 true)) (fun r5 => ?_)
  show fu_J _ _ (fr_X d (some .int) k_X12_another 31 [.ref 117, am_U, am_U, .int (s.1 122 (Int32.toNatClampNeg ((1420 : Int32) + a1)))] [] r5)
  refine fu_go 1 (pc' := 32) (ls' := [.ref 117, am_U, am_U, .int (s.1 122 (Int32.toNatClampNeg ((1420 : Int32) + a1)))]) (st' := [.int (s.1 122 (Int32.toNatClampNeg ((1420 : Int32) + a1)))]) (s' := r5) rfl ?_
  exact fu_iret rfl rfl
/-! X12_readKind -/
set_option maxRecDepth 100000 in
theorem e_X12_readKind (d : Nat) (hd : 5 ≤ d) (s : fu_S) : fu_J (f_X12_readKind s) (fun r => some (none, r)) (am_D (fu_ho fr_sh) am_m d 292 [.ref 117] s) := by
  obtain ⟨d, rfl⟩ : ∃ e, d = e + 1 := ⟨d - 1, by omega⟩
  refine fu_enter (ls := [.ref 117, am_U, am_U, am_U, am_U]) am_at_X12_readKind rfl rfl ?_
  show fu_J _ _ (fr_X d none k_X12_readKind 0 [.ref 117, am_U, am_U, am_U, am_U] [] s)
  unfold f_X12_readKind
  refine fu_go 3 (pc' := 3) (ls' := [.ref 117, am_U, am_U, am_U, am_U]) (st' := [.int (5 : Int32), .int (0 : Int32), .ref 117]) (s' := s) rfl ?_
  refine fu_bind (fu_cVJ rfl rfl rfl rfl rfl (fu_recv fr_117 am_at_X12_another rfl) (e_X12_another d (by omega) s (0 : Int32) (5 : Int32))) (fun r1 => ?_)
  show fu_J _ _ (fr_X d none k_X12_readKind 6 [.ref 117, am_U, am_U, am_U, am_U] [.int r1.1] r1.2)
  refine fu_go 3 (pc' := 9) (ls' := [.ref 117, .int r1.1, am_U, am_U, am_U]) (st' := [.ref 117, .ref 117]) (s' := r1.2) rfl ?_
  refine fu_step (fu_cV rfl rfl rfl rfl rfl (fu_recv fr_117 am_at_X12_isStepWord rfl) (fu_eq (e_X12_isStepWord d (by omega) r1.2) rfl)) ?_
  show fu_J _ _ (fr_X d none k_X12_readKind 12 [.ref 117, .int r1.1, am_U, am_U, am_U] [.int (fu_b (f_X12_isStepWord r1.2)), .ref 117] r1.2)
  refine fu_go 2 (pc' := 15) (ls' := [.ref 117, .int r1.1, am_U, am_U, am_U]) (st' := [.int (9 : Int32), .int (1 : Int32), .int (fu_b (f_X12_isStepWord r1.2)), .ref 117]) (s' := r1.2) rfl ?_
  refine fu_bind (fu_cVJ rfl rfl rfl rfl rfl (fu_recv fr_117 am_at_X12_behindWord rfl) (e_X12_behindWord d (by omega) r1.2 (f_X12_isStepWord r1.2) (1 : Int32) (9 : Int32))) (fun r2 => ?_)
  show fu_J _ _ (fr_X d none k_X12_readKind 18 [.ref 117, .int r1.1, am_U, am_U, am_U] [.int r2.1] r2.2)
  refine fu_go 3 (pc' := 21) (ls' := [.ref 117, .int r1.1, .int r2.1, am_U, am_U]) (st' := [.ref 117, .ref 117]) (s' := r2.2) rfl ?_
  refine fu_step (fu_cV rfl rfl rfl rfl rfl (fu_recv fr_117 am_at_X12_isSpotWord rfl) (fu_eq (e_X12_isSpotWord d (by omega) r2.2) rfl)) ?_
  show fu_J _ _ (fr_X d none k_X12_readKind 24 [.ref 117, .int r1.1, .int r2.1, am_U, am_U] [.int (fu_b (f_X12_isSpotWord r2.2)), .ref 117] r2.2)
  refine fu_go 2 (pc' := 27) (ls' := [.ref 117, .int r1.1, .int r2.1, am_U, am_U]) (st' := [.int (9 : Int32), .int (0 : Int32), .int (fu_b (f_X12_isSpotWord r2.2)), .ref 117]) (s' := r2.2) rfl ?_
  refine fu_bind (fu_cVJ rfl rfl rfl rfl rfl (fu_recv fr_117 am_at_X12_behindWord rfl) (e_X12_behindWord d (by omega) r2.2 (f_X12_isSpotWord r2.2) (0 : Int32) (9 : Int32))) (fun r3 => ?_)
  show fu_J _ _ (fr_X d none k_X12_readKind 30 [.ref 117, .int r1.1, .int r2.1, am_U, am_U] [.int r3.1] r3.2)
  refine fu_go 3 (pc' := 33) (ls' := [.ref 117, .int r1.1, .int r2.1, .int r3.1, am_U]) (st' := [.ref 117, .ref 117]) (s' := r3.2) rfl ?_
  refine fu_step (fu_cV rfl rfl rfl rfl rfl (fu_recv fr_117 am_at_X12_isWeight rfl) (fu_eq (e_X12_isWeight d (by omega) r3.2) rfl)) ?_
  show fu_J _ _ (fr_X d none k_X12_readKind 36 [.ref 117, .int r1.1, .int r2.1, .int r3.1, am_U] [.int (fu_b (f_X12_isWeight r3.2)), .ref 117] r3.2)
  refine fu_bind (fu_cVJ rfl rfl rfl rfl rfl (fu_recv fr_117 am_at_X12_perhaps rfl) (e_X12_perhaps d (by omega) r3.2 (f_X12_isWeight r3.2))) (fun r4 => ?_)
  show fu_J _ _ (fr_X d none k_X12_readKind 39 [.ref 117, .int r1.1, .int r2.1, .int r3.1, am_U] [.int (fu_b r4.1)] r4.2)
  refine fu_bind (V := fun j5 : Int32 × fu_S => fr_X d none k_X12_readKind 53 [.ref 117, .int r1.1, .int r2.1, .int r3.1, am_U] [.int j5.1] j5.2) ?_ (fun j5 => ?_)
  · refine fu_ite (fun h6 => fu_step (fu_ib_eq_t rfl h6) ?_) (fun h6 => fu_step (fu_ib_eq_f rfl h6) ?_)
    · refine fu_go 3 (pc' := 46) (ls' := [.ref 117, .int r1.1, .int r2.1, .int r3.1, am_U]) (st' := [.int (9 : Int32), .int (1 : Int32), .ref 117]) (s' := r4.2) rfl ?_
      refine fu_bind (fu_cVJ rfl rfl rfl rfl rfl (fu_recv fr_117 am_at_X12_count rfl) (e_X12_count d (by omega) r4.2 (1 : Int32) (9 : Int32))) (fun r7 => ?_)
      show fu_J _ _ (fr_X d none k_X12_readKind 49 [.ref 117, .int r1.1, .int r2.1, .int r3.1, am_U] [.int r7.1] r7.2)
      refine fu_go 1 (pc' := 53) (ls' := [.ref 117, .int r1.1, .int r2.1, .int r3.1, am_U]) (st' := [.int r7.1]) (s' := r7.2) rfl ?_
      exact fu_leaf rfl ⟨.inr rfl, .inr rfl, .inr rfl, .inr rfl, .inl rfl, trivial⟩
    · refine fu_go 1 (pc' := 53) (ls' := [.ref 117, .int r1.1, .int r2.1, .int r3.1, am_U]) (st' := [.int (1 : Int32)]) (s' := r4.2) rfl ?_
      exact fu_leaf rfl ⟨.inr rfl, .inr rfl, .inr rfl, .inr rfl, .inl rfl, trivial⟩
  show fu_J _ _ (fr_X d none k_X12_readKind 53 [.ref 117, .int r1.1, .int r2.1, .int r3.1, am_U] [.int j5.1] j5.2)
  refine fu_go 2 (pc' := 56) (ls' := [.ref 117, .int r1.1, .int r2.1, .int r3.1, .int j5.1]) (st' := [.ref 117]) (s' := j5.2) rfl ?_
  refine fu_step (fu_getI rfl fr_117 rfl rfl) ?_
  refine fu_ite (fun h8 => fu_step (fu_if_le_t rfl h8) ?_) (fun h8 => fu_step (fu_if_le_f rfl h8) ?_)
  · refine fu_go 1 (pc' := 64) (ls' := [.ref 117, .int r1.1, .int r2.1, .int r3.1, .int j5.1]) (st' := [.ref 117]) (s' := j5.2) rfl ?_
    refine fu_step (fu_getR rfl fr_117 rfl rfl) ?_
    refine fu_go 4 (pc' := 73) (ls' := [.ref 117, .int r1.1, .int r2.1, .int r3.1, .int j5.1]) (st' := [.int r2.1, .int ((1426 : Int32) + r1.1), .ref 122]) (s' := j5.2) rfl ?_
    refine fu_guard (fun h10 => fu_lets (b := (fu_pi j5.2 122 (Int32.toNatClampNeg ((1426 : Int32) + r1.1)) r2.1)) (fu_stI rfl fr_122 h10) (fun s9 => ?_))
    refine fu_go 1 (pc' := 75) (ls' := [.ref 117, .int r1.1, .int r2.1, .int r3.1, .int j5.1]) (st' := [.ref 117]) (s' := s9) rfl ?_
    refine fu_step (fu_getR rfl fr_117 rfl rfl) ?_
    refine fu_go 4 (pc' := 84) (ls' := [.ref 117, .int r1.1, .int r2.1, .int r3.1, .int j5.1]) (st' := [.int r3.1, .int ((1431 : Int32) + r1.1), .ref 122]) (s' := s9) rfl ?_
    refine fu_guard (fun h12 => fu_lets (b := (fu_pi s9 122 (Int32.toNatClampNeg ((1431 : Int32) + r1.1)) r3.1)) (fu_stI rfl fr_122 h12) (fun s11 => ?_))
    refine fu_go 1 (pc' := 86) (ls' := [.ref 117, .int r1.1, .int r2.1, .int r3.1, .int j5.1]) (st' := [.ref 117]) (s' := s11) rfl ?_
    refine fu_step (fu_getR rfl fr_117 rfl rfl) ?_
    refine fu_go 4 (pc' := 96) (ls' := [.ref 117, .int r1.1, .int r2.1, .int r3.1, .int j5.1]) (st' := [.int j5.1, .int ((1436 : Int32) + r1.1), .ref 122]) (s' := s11) rfl ?_
    refine fu_guard (fun h14 => fu_lets (b := (fu_pi s11 122 (Int32.toNatClampNeg ((1436 : Int32) + r1.1)) j5.1)) (fu_stI rfl fr_122 h14) (fun s13 => ?_))
    refine fu_go 1 (pc' := 98) (ls' := [.ref 117, .int r1.1, .int r2.1, .int r3.1, .int j5.1]) (st' := [.ref 117]) (s' := s13) rfl ?_
    refine fu_step (fu_getR rfl fr_117 rfl rfl) ?_
    refine fu_go 2 (pc' := 105) (ls' := [.ref 117, .int r1.1, .int r2.1, .int r3.1, .int j5.1]) (st' := [.int (1420 : Int32), .ref 122, .int (1420 : Int32), .ref 122]) (s' := s13) rfl ?_
    refine fu_step (fu_ldIk (k := 1420) rfl fr_122 (by decide) (by decide)) ?_
    refine fu_go 2 (pc' := 108) (ls' := [.ref 117, .int r1.1, .int r2.1, .int r3.1, .int j5.1]) (st' := [.int ((s13.1 122 1420) + (1 : Int32)), .int (1420 : Int32), .ref 122]) (s' := s13) rfl ?_
    refine fu_lets (b := (fu_pi s13 122 1420 ((s13.1 122 1420) + (1 : Int32)))) (fu_stIk rfl fr_122 (by decide) (by decide)) (fun s15 => ?_)
    exact fu_vret rfl rfl
  · exact fu_vret rfl rfl
/-! X12_readPerson -/
theorem el_X12_readPerson_100 (d : Nat) (hd : 3 ≤ d) : ∀ (n : Nat) (s : fu_S) (x1 : Int32) (x2 : Int32) (x3 : Int32), fu_J (l_X12_readPerson_100 n s x1 x2 x3) (fun r => fr_X d none k_X12_readPerson 180 [.ref 117, .int x1, .int x2, .int r.1, am_U] [] r.2) (fr_X d none k_X12_readPerson 100 [.ref 117, .int x1, .int x2, .int x3, am_U] [] s) := by
  intro n
  induction n with
  | zero => intros; exact fu_none
  | succ n ih =>
    intro s x1 x2 x3
    rw [l_X12_readPerson_100]
    refine fu_go 1 (pc' := 101) (ls' := [.ref 117, .int x1, .int x2, .int x3, am_U]) (st' := [.ref 117]) (s' := s) rfl ?_
    refine fu_step (fu_getI rfl fr_117 rfl rfl) ?_
    refine fu_ite (fun h20 => fu_step (fu_if_ne_t rfl h20) ?_) (fun h20 => fu_step (fu_if_ne_f rfl h20) ?_)
    · refine fu_go 1 (pc' := 108) (ls' := [.ref 117, .int x1, .int x2, .int x3, am_U]) (st' := [.ref 117]) (s' := s) rfl ?_
      refine fu_step (fu_getI rfl fr_117 rfl rfl) ?_
      refine fu_go 1 (pc' := 112) (ls' := [.ref 117, .int x1, .int x2, .int x3, am_U]) (st' := [.int (2 : Int32), .int (s.1 117 14)]) (s' := s) rfl ?_
      refine fu_ite (fun h21 => fu_step (fu_ic_ne_t rfl h21) ?_) (fun h21 => fu_step (fu_ic_ne_f rfl h21) ?_)
      · refine fu_go 1 (pc' := 116) (ls' := [.ref 117, .int x1, .int x2, .int x3, am_U]) (st' := [.ref 117]) (s' := s) rfl ?_
        refine fu_step (fu_getI rfl fr_117 rfl rfl) ?_
        refine fu_go 3 (pc' := 124) (ls' := [.ref 117, .int x1, .int x2, .int x3, am_U]) (st' := [.long (9 : Int64), .long (0 : Int64), .long (Int32.toInt64 (s.1 117 17))]) (s' := s) rfl ?_
        refine fu_step (fu_cS rfl rfl rfl rfl rfl rfl (fu_eq (e_X12_isIn d (by omega) s (Int32.toInt64 (s.1 117 17)) (0 : Int64) (9 : Int64)) rfl)) ?_
        show fu_J _ _ (fr_X d none k_X12_readPerson 127 [.ref 117, .int x1, .int x2, .int x3, am_U] [.int (fu_b (f_X12_isIn (Int32.toInt64 (s.1 117 17)) (0 : Int64) (9 : Int64)))] s)
        refine fu_bind (V := fun j22 : fu_S => fr_X d none k_X12_readPerson 150 [.ref 117, .int x1, .int x2, .int x3, am_U] [] j22) ?_ (fun j22 => ?_)
        · refine fu_ite (fun h23 => fu_step (fu_ib_eq_t rfl h23) ?_) (fun h23 => fu_step (fu_ib_eq_f rfl h23) ?_)
          · refine fu_go 2 (pc' := 132) (ls' := [.ref 117, .int x1, .int x2, .int x3, am_U]) (st' := [.ref 117, .int x3]) (s' := s) rfl ?_
            refine fu_step (fu_getI rfl fr_117 rfl rfl) ?_
            refine fu_step (fu_cS rfl rfl rfl rfl rfl rfl (fu_eq (e_X12_has d (by omega) s x3 (s.1 117 17)) rfl)) ?_
            show fu_J _ _ (fr_X d none k_X12_readPerson 138 [.ref 117, .int x1, .int x2, .int x3, am_U] [.int (fu_b (f_X12_has x3 (s.1 117 17)))] s)
            refine fu_ite (fun h24 => fu_step (fu_ib_eq_t rfl h24) ?_) (fun h24 => fu_step (fu_ib_eq_f rfl h24) ?_)
            · refine fu_go 3 (pc' := 144) (ls' := [.ref 117, .int x1, .int x2, .int x3, am_U]) (st' := [.ref 117, .int (5 : Int32), .ref 117]) (s' := s) rfl ?_
              refine fu_step (fu_getI rfl fr_117 rfl rfl) ?_
              refine fu_let (fu_cVJ rfl rfl rfl rfl rfl (fu_recv fr_117 am_at_X12_fail rfl) (e_X12_fail d (by omega) s (5 : Int32) (s.1 117 15))) (fun r25 => ?_)
              show fu_J _ _ (fr_X d none k_X12_readPerson 150 [.ref 117, .int x1, .int x2, .int x3, am_U] [] r25)
              exact fu_leaf rfl ⟨.inr rfl, .inr rfl, .inr rfl, .inr rfl, .inl rfl, trivial⟩
            · exact fu_leaf rfl ⟨.inr rfl, .inr rfl, .inr rfl, .inr rfl, .inl rfl, trivial⟩
          · exact fu_leaf rfl ⟨.inr rfl, .inr rfl, .inr rfl, .inr rfl, .inl rfl, trivial⟩
        show fu_J _ _ (fr_X d none k_X12_readPerson 150 [.ref 117, .int x1, .int x2, .int x3, am_U] [] j22)
        refine fu_go 3 (pc' := 154) (ls' := [.ref 117, .int x1, .int x2, .int x3, am_U]) (st' := [.int (9 : Int32), .int (0 : Int32), .ref 117]) (s' := j22) rfl ?_
        refine fu_bind (fu_cVJ rfl rfl rfl rfl rfl (fu_recv fr_117 am_at_X12_count rfl) (e_X12_count d (by omega) j22 (0 : Int32) (9 : Int32))) (fun r26 => ?_)
        show fu_J _ _ (fr_X d none k_X12_readPerson 157 [.ref 117, .int x1, .int x2, .int x3, am_U] [.int r26.1] r26.2)
        refine fu_go 3 (pc' := 161) (ls' := [.ref 117, .int x1, .int x2, .int x3, .int r26.1]) (st' := [.ref 117, .int x3]) (s' := r26.2) rfl ?_
        refine fu_step (fu_getI rfl fr_117 rfl rfl) ?_
        refine fu_bind (V := fun j27 : Int32 => fr_X d none k_X12_readPerson 175 [.ref 117, .int x1, .int x2, am_U, am_U] [.int j27, .int x3] r26.2) ?_ (fun j27 => ?_)
        · refine fu_ite (fun h28 => fu_step (fu_if_ne_t rfl h28) ?_) (fun h28 => fu_step (fu_if_ne_f rfl h28) ?_)
          · refine fu_go 4 (pc' := 175) (ls' := [.ref 117, .int x1, .int x2, .int x3, .int r26.1]) (st' := [.int ((1 : Int32) <<< (r26.1 &&& 31)), .int x3]) (s' := r26.2) rfl ?_
            exact fu_leaf rfl ⟨.inr rfl, .inr rfl, .inr rfl, .inl rfl, .inl rfl, trivial⟩
          · refine fu_go 1 (pc' := 175) (ls' := [.ref 117, .int x1, .int x2, .int x3, .int r26.1]) (st' := [.int (0 : Int32), .int x3]) (s' := r26.2) rfl ?_
            exact fu_leaf rfl ⟨.inr rfl, .inr rfl, .inr rfl, .inl rfl, .inl rfl, trivial⟩
        show fu_J _ _ (fr_X d none k_X12_readPerson 175 [.ref 117, .int x1, .int x2, am_U, am_U] [.int j27, .int x3] r26.2)
        refine fu_go 3 (pc' := 100) (ls' := [.ref 117, .int x1, .int x2, .int (x3 ||| j27), am_U]) (st' := []) (s' := r26.2) rfl ?_
        exact fu_drop (ls' := [.ref 117, .int x1, .int x2, .int (x3 ||| j27), am_U]) ⟨.inr rfl, .inr rfl, .inr rfl, .inr rfl, .inl rfl, trivial⟩ (ih r26.2 x1 x2 (x3 ||| j27))
      · exact fu_leaf rfl ⟨.inr rfl, .inr rfl, .inr rfl, .inr rfl, .inl rfl, trivial⟩
    · exact fu_leaf rfl ⟨.inr rfl, .inr rfl, .inr rfl, .inr rfl, .inl rfl, trivial⟩
set_option maxRecDepth 100000 in
theorem e_X12_readPerson (d : Nat) (hd : 5 ≤ d) (s : fu_S) : fu_J (f_X12_readPerson s) (fun r => some (none, r)) (am_D (fu_ho fr_sh) am_m d 293 [.ref 117] s) := by
  obtain ⟨d, rfl⟩ : ∃ e, d = e + 1 := ⟨d - 1, by omega⟩
  refine fu_enter (ls := [.ref 117, am_U, am_U, am_U, am_U]) am_at_X12_readPerson rfl rfl ?_
  show fu_J _ _ (fr_X d none k_X12_readPerson 0 [.ref 117, am_U, am_U, am_U, am_U] [] s)
  unfold f_X12_readPerson
  refine fu_go 3 (pc' := 4) (ls' := [.ref 117, am_U, am_U, am_U, am_U]) (st' := [.int (7 : Int32), .int (1 : Int32), .ref 117]) (s' := s) rfl ?_
  refine fu_bind (fu_cVJ rfl rfl rfl rfl rfl (fu_recv fr_117 am_at_X12_another rfl) (e_X12_another d (by omega) s (1 : Int32) (7 : Int32))) (fun r1 => ?_)
  show fu_J _ _ (fr_X d none k_X12_readPerson 7 [.ref 117, am_U, am_U, am_U, am_U] [.int r1.1] r1.2)
  refine fu_go 2 (pc' := 9) (ls' := [.ref 117, .int r1.1, am_U, am_U, am_U]) (st' := [.ref 117]) (s' := r1.2) rfl ?_
  refine fu_step (fu_getI rfl fr_117 rfl rfl) ?_
  refine fu_bind (V := fun j2 : fu_S => fr_X d none k_X12_readPerson 26 [.ref 117, .int r1.1, am_U, am_U, am_U] [] j2) ?_ (fun j2 => ?_)
  · refine fu_ite (fun h3 => fu_step (fu_if_ne_t rfl h3) ?_) (fun h3 => fu_step (fu_if_ne_f rfl h3) ?_)
    · refine fu_go 1 (pc' := 16) (ls' := [.ref 117, .int r1.1, am_U, am_U, am_U]) (st' := [.ref 117]) (s' := r1.2) rfl ?_
      refine fu_step (fu_cV rfl rfl rfl rfl rfl (fu_recv fr_117 am_at_X12_isName rfl) (fu_eq (e_X12_isName d (by omega) r1.2) rfl)) ?_
      show fu_J _ _ (fr_X d none k_X12_readPerson 19 [.ref 117, .int r1.1, am_U, am_U, am_U] [.int (fu_b (f_X12_isName r1.2))] r1.2)
      refine fu_ite (fun h4 => fu_step (fu_ib_ne_t rfl h4) ?_) (fun h4 => fu_step (fu_ib_ne_f rfl h4) ?_)
      · exact fu_leaf rfl ⟨.inr rfl, .inr rfl, .inl rfl, .inl rfl, .inl rfl, trivial⟩
      · refine fu_go 1 (pc' := 23) (ls' := [.ref 117, .int r1.1, am_U, am_U, am_U]) (st' := [.ref 117]) (s' := r1.2) rfl ?_
        refine fu_let (fu_cVJ rfl rfl rfl rfl rfl (fu_recv fr_117 am_at_X12_amiss rfl) (e_X12_amiss d (by omega) r1.2)) (fun r5 => ?_)
        show fu_J _ _ (fr_X d none k_X12_readPerson 26 [.ref 117, .int r1.1, am_U, am_U, am_U] [] r5)
        exact fu_leaf rfl ⟨.inr rfl, .inr rfl, .inl rfl, .inl rfl, .inl rfl, trivial⟩
    · exact fu_leaf rfl ⟨.inr rfl, .inr rfl, .inl rfl, .inl rfl, .inl rfl, trivial⟩
  show fu_J _ _ (fr_X d none k_X12_readPerson 26 [.ref 117, .int r1.1, am_U, am_U, am_U] [] j2)
  refine fu_go 1 (pc' := 27) (ls' := [.ref 117, .int r1.1, am_U, am_U, am_U]) (st' := [.ref 117]) (s' := j2) rfl ?_
  refine fu_step (fu_getI rfl fr_117 rfl rfl) ?_
  refine fu_bind (V := fun j6 : fu_S => fr_X d none k_X12_readPerson 50 [.ref 117, .int r1.1, am_U, am_U, am_U] [] j6) ?_ (fun j6 => ?_)
  · refine fu_ite (fun h7 => fu_step (fu_if_ne_t rfl h7) ?_) (fun h7 => fu_step (fu_if_ne_f rfl h7) ?_)
    · refine fu_go 2 (pc' := 35) (ls' := [.ref 117, .int r1.1, am_U, am_U, am_U]) (st' := [.int (4 : Int32), .ref 117]) (s' := j2) rfl ?_
      refine fu_bind (fu_cVJ rfl rfl rfl rfl rfl (fu_recv fr_117 am_at_X12_named rfl) (e_X12_named d (by omega) j2 (4 : Int32))) (fun r8 => ?_)
      show fu_J _ _ (fr_X d none k_X12_readPerson 38 [.ref 117, .int r1.1, am_U, am_U, am_U] [.int r8] j2)
      refine fu_ite (fun h9 => fu_step (fu_if_lt_t rfl h9) ?_) (fun h9 => fu_step (fu_if_lt_f rfl h9) ?_)
      · exact fu_leaf rfl ⟨.inr rfl, .inr rfl, .inl rfl, .inl rfl, .inl rfl, trivial⟩
      · refine fu_go 3 (pc' := 44) (ls' := [.ref 117, .int r1.1, am_U, am_U, am_U]) (st' := [.ref 117, .int (3 : Int32), .ref 117]) (s' := j2) rfl ?_
        refine fu_step (fu_getI rfl fr_117 rfl rfl) ?_
        refine fu_let (fu_cVJ rfl rfl rfl rfl rfl (fu_recv fr_117 am_at_X12_fail rfl) (e_X12_fail d (by omega) j2 (3 : Int32) (j2.1 117 15))) (fun r10 => ?_)
        show fu_J _ _ (fr_X d none k_X12_readPerson 50 [.ref 117, .int r1.1, am_U, am_U, am_U] [] r10)
        exact fu_leaf rfl ⟨.inr rfl, .inr rfl, .inl rfl, .inl rfl, .inl rfl, trivial⟩
    · exact fu_leaf rfl ⟨.inr rfl, .inr rfl, .inl rfl, .inl rfl, .inl rfl, trivial⟩
  show fu_J _ _ (fr_X d none k_X12_readPerson 50 [.ref 117, .int r1.1, am_U, am_U, am_U] [] j6)
  refine fu_go 1 (pc' := 51) (ls' := [.ref 117, .int r1.1, am_U, am_U, am_U]) (st' := [.ref 117]) (s' := j6) rfl ?_
  refine fu_step (fu_getI rfl fr_117 rfl rfl) ?_
  refine fu_bind (V := fun j11 : fu_S => fr_X d none k_X12_readPerson 70 [.ref 117, .int r1.1, am_U, am_U, am_U] [] j11) ?_ (fun j11 => ?_)
  · refine fu_ite (fun h12 => fu_step (fu_if_ne_t rfl h12) ?_) (fun h12 => fu_step (fu_if_ne_f rfl h12) ?_)
    · refine fu_go 1 (pc' := 58) (ls' := [.ref 117, .int r1.1, am_U, am_U, am_U]) (st' := [.ref 117]) (s' := j6) rfl ?_
      refine fu_step (fu_getR rfl fr_117 rfl rfl) ?_
      refine fu_go 4 (pc' := 66) (ls' := [.ref 117, .int r1.1, am_U, am_U, am_U]) (st' := [.ref 117, .int ((28 : Int32) + r1.1), .ref 124]) (s' := j6) rfl ?_
      refine fu_step (fu_getL rfl fr_117 rfl rfl) ?_
      refine fu_guard (fun h14 => fu_lets (b := (fu_pl j6 124 (Int32.toNatClampNeg ((28 : Int32) + r1.1)) (j6.2 117 19))) (fu_stL rfl fr_124 h14) (fun s13 => ?_))
      exact fu_leaf rfl ⟨.inr rfl, .inr rfl, .inl rfl, .inl rfl, .inl rfl, trivial⟩
    · exact fu_leaf rfl ⟨.inr rfl, .inr rfl, .inl rfl, .inl rfl, .inl rfl, trivial⟩
  show fu_J _ _ (fr_X d none k_X12_readPerson 70 [.ref 117, .int r1.1, am_U, am_U, am_U] [] j11)
  refine fu_go 2 (pc' := 72) (ls' := [.ref 117, .int r1.1, am_U, am_U, am_U]) (st' := [.int (1 : Int32), .ref 117]) (s' := j11) rfl ?_
  refine fu_bind (fu_cVJ rfl rfl rfl rfl rfl (fu_recv fr_117 am_at_X12_must rfl) (e_X12_must d (by omega) j11 true)) (fun r15 => ?_)
  show fu_J _ _ (fr_X d none k_X12_readPerson 75 [.ref 117, .int r1.1, am_U, am_U, am_U] [] r15)
  refine fu_go 2 (pc' := 77) (ls' := [.ref 117, .int r1.1, am_U, am_U, am_U]) (st' := [.ref 117, .ref 117]) (s' := r15) rfl ?_
  refine fu_step (fu_cV rfl rfl rfl rfl rfl (fu_recv fr_117 am_at_X12_isHome rfl) (fu_eq (e_X12_isHome d (by omega) r15) rfl)) ?_
  show fu_J _ _ (fr_X d none k_X12_readPerson 80 [.ref 117, .int r1.1, am_U, am_U, am_U] [.int (fu_b (f_X12_isHome r15)), .ref 117] r15)
  refine fu_go 2 (pc' := 83) (ls' := [.ref 117, .int r1.1, am_U, am_U, am_U]) (st' := [.int (59 : Int32), .int (0 : Int32), .int (fu_b (f_X12_isHome r15)), .ref 117]) (s' := r15) rfl ?_
  refine fu_bind (fu_cVJ rfl rfl rfl rfl rfl (fu_recv fr_117 am_at_X12_behindWord rfl) (e_X12_behindWord d (by omega) r15 (f_X12_isHome r15) (0 : Int32) (59 : Int32))) (fun r16 => ?_)
  show fu_J _ _ (fr_X d none k_X12_readPerson 86 [.ref 117, .int r1.1, am_U, am_U, am_U] [.int r16.1] r16.2)
  refine fu_go 5 (pc' := 91) (ls' := [.ref 117, .int r1.1, .int r16.1, .int (0 : Int32), am_U]) (st' := [.ref 117, .ref 117]) (s' := r16.2) rfl ?_
  refine fu_step (fu_cV rfl rfl rfl rfl rfl (fu_recv fr_117 am_at_X12_isReach rfl) (fu_eq (e_X12_isReach d (by omega) r16.2) rfl)) ?_
  show fu_J _ _ (fr_X d none k_X12_readPerson 94 [.ref 117, .int r1.1, .int r16.1, .int (0 : Int32), am_U] [.int (fu_b (f_X12_isReach r16.2)), .ref 117] r16.2)
  refine fu_bind (fu_cVJ rfl rfl rfl rfl rfl (fu_recv fr_117 am_at_X12_perhaps rfl) (e_X12_perhaps d (by omega) r16.2 (f_X12_isReach r16.2))) (fun r17 => ?_)
  show fu_J _ _ (fr_X d none k_X12_readPerson 97 [.ref 117, .int r1.1, .int r16.1, .int (0 : Int32), am_U] [.int (fu_b r17.1)] r17.2)
  refine fu_bind (V := fun j18 : Int32 × fu_S => fr_X d none k_X12_readPerson 180 [.ref 117, .int r1.1, .int r16.1, .int j18.1, am_U] [] j18.2) ?_ (fun j18 => ?_)
  · refine fu_ite (fun h19 => fu_step (fu_ib_eq_t rfl h19) ?_) (fun h19 => fu_step (fu_ib_eq_f rfl h19) ?_)
    · refine fu_drop (ls' := [.ref 117, .int r1.1, .int r16.1, .int (0 : Int32), am_U]) ⟨.inr rfl, .inr rfl, .inr rfl, .inr rfl, .inl rfl, trivial⟩ ?_
      refine fu_bind (el_X12_readPerson_100 d (by omega) fu_N r17.2 r1.1 r16.1 (0 : Int32)) (fun r29 => ?_)
      show fu_J _ _ (fr_X d none k_X12_readPerson 180 [.ref 117, .int r1.1, .int r16.1, .int r29.1, am_U] [] r29.2)
      exact fu_leaf rfl ⟨.inr rfl, .inr rfl, .inr rfl, .inr rfl, .inl rfl, trivial⟩
    · exact fu_leaf rfl ⟨.inr rfl, .inr rfl, .inr rfl, .inr rfl, .inl rfl, trivial⟩
  show fu_J _ _ (fr_X d none k_X12_readPerson 180 [.ref 117, .int r1.1, .int r16.1, .int j18.1, am_U] [] j18.2)
  refine fu_go 1 (pc' := 181) (ls' := [.ref 117, .int r1.1, .int r16.1, .int j18.1, am_U]) (st' := [.ref 117]) (s' := j18.2) rfl ?_
  refine fu_step (fu_getI rfl fr_117 rfl rfl) ?_
  refine fu_ite (fun h30 => fu_step (fu_if_le_t rfl h30) ?_) (fun h30 => fu_step (fu_if_le_f rfl h30) ?_)
  · refine fu_go 1 (pc' := 189) (ls' := [.ref 117, .int r1.1, .int r16.1, .int j18.1, am_U]) (st' := [.ref 117]) (s' := j18.2) rfl ?_
    refine fu_step (fu_getR rfl fr_117 rfl rfl) ?_
    refine fu_go 4 (pc' := 198) (ls' := [.ref 117, .int r1.1, .int r16.1, .int j18.1, am_U]) (st' := [.int r16.1, .int ((1441 : Int32) + r1.1), .ref 122]) (s' := j18.2) rfl ?_
    refine fu_guard (fun h32 => fu_lets (b := (fu_pi j18.2 122 (Int32.toNatClampNeg ((1441 : Int32) + r1.1)) r16.1)) (fu_stI rfl fr_122 h32) (fun s31 => ?_))
    refine fu_go 1 (pc' := 200) (ls' := [.ref 117, .int r1.1, .int r16.1, .int j18.1, am_U]) (st' := [.ref 117]) (s' := s31) rfl ?_
    refine fu_step (fu_getR rfl fr_117 rfl rfl) ?_
    refine fu_go 4 (pc' := 209) (ls' := [.ref 117, .int r1.1, .int r16.1, .int j18.1, am_U]) (st' := [.int j18.1, .int ((1448 : Int32) + r1.1), .ref 122]) (s' := s31) rfl ?_
    refine fu_guard (fun h34 => fu_lets (b := (fu_pi s31 122 (Int32.toNatClampNeg ((1448 : Int32) + r1.1)) j18.1)) (fu_stI rfl fr_122 h34) (fun s33 => ?_))
    refine fu_go 1 (pc' := 211) (ls' := [.ref 117, .int r1.1, .int r16.1, .int j18.1, am_U]) (st' := [.ref 117]) (s' := s33) rfl ?_
    refine fu_step (fu_getR rfl fr_117 rfl rfl) ?_
    refine fu_go 2 (pc' := 218) (ls' := [.ref 117, .int r1.1, .int r16.1, .int j18.1, am_U]) (st' := [.int (1421 : Int32), .ref 122, .int (1421 : Int32), .ref 122]) (s' := s33) rfl ?_
    refine fu_step (fu_ldIk (k := 1421) rfl fr_122 (by decide) (by decide)) ?_
    refine fu_go 2 (pc' := 221) (ls' := [.ref 117, .int r1.1, .int r16.1, .int j18.1, am_U]) (st' := [.int ((s33.1 122 1421) + (1 : Int32)), .int (1421 : Int32), .ref 122]) (s' := s33) rfl ?_
    refine fu_lets (b := (fu_pi s33 122 1421 ((s33.1 122 1421) + (1 : Int32)))) (fu_stIk rfl fr_122 (by decide) (by decide)) (fun s35 => ?_)
    exact fu_vret rfl rfl
  · exact fu_vret rfl rfl
/-! X12_loses -/
set_option maxRecDepth 100000 in
theorem e_X12_loses (d : Nat) (hd : 1 ≤ d) (s : fu_S) (a1 : Int32) (a2 : Int32) (a3 : Int32) (a4 : Int32) : fu_J (f_X12_loses s a1 a2 a3 a4) (fun r => some (none, r)) (am_D (fu_ho fr_sh) am_m d 295 [.ref 117, .int a1, .int a2, .int a3, .int a4] s) := by
  obtain ⟨d, rfl⟩ : ∃ e, d = e + 1 := ⟨d - 1, by omega⟩
  refine fu_enter (ls := [.ref 117, .int a1, .int a2, .int a3, .int a4, am_U, am_U]) am_at_X12_loses rfl rfl ?_
  show fu_J _ _ (fr_X d none k_X12_loses 0 [.ref 117, .int a1, .int a2, .int a3, .int a4, am_U, am_U] [] s)
  unfold f_X12_loses
  refine fu_go 5 (pc' := 8) (ls' := [.ref 117, .int a1, .int a2, .int a3, .int a4, .int ((355 : Int32) * a1), am_U]) (st' := [.ref 117]) (s' := s) rfl ?_
  refine fu_step (fu_getR rfl fr_117 rfl rfl) ?_
  refine fu_go 3 (pc' := 15) (ls' := [.ref 117, .int a1, .int a2, .int a3, .int a4, .int ((355 : Int32) * a1), am_U]) (st' := [.int (((355 : Int32) * a1) + (2 : Int32)), .ref 122]) (s' := s) rfl ?_
  refine fu_guard (fun h1 => fu_step (fu_ldI rfl fr_122 h1) ?_)
  refine fu_go 2 (pc' := 19) (ls' := [.ref 117, .int a1, .int a2, .int a3, .int a4, .int ((355 : Int32) * a1), .int (s.1 122 (Int32.toNatClampNeg (((355 : Int32) * a1) + (2 : Int32))))]) (st' := [.ref 117]) (s' := s) rfl ?_
  refine fu_step (fu_getR rfl fr_117 rfl rfl) ?_
  refine fu_go 6 (pc' := 31) (ls' := [.ref 117, .int a1, .int a2, .int a3, .int a4, .int ((355 : Int32) * a1), .int (s.1 122 (Int32.toNatClampNeg (((355 : Int32) * a1) + (2 : Int32))))]) (st' := [.int a2, .int ((((355 : Int32) * a1) + (35 : Int32)) + (s.1 122 (Int32.toNatClampNeg (((355 : Int32) * a1) + (2 : Int32))))), .ref 122]) (s' := s) rfl ?_
  refine fu_guard (fun h3 => fu_lets (b := (fu_pi s 122 (Int32.toNatClampNeg ((((355 : Int32) * a1) + (35 : Int32)) + (s.1 122 (Int32.toNatClampNeg (((355 : Int32) * a1) + (2 : Int32)))))) a2)) (fu_stI rfl fr_122 h3) (fun s2 => ?_))
  refine fu_go 1 (pc' := 33) (ls' := [.ref 117, .int a1, .int a2, .int a3, .int a4, .int ((355 : Int32) * a1), .int (s.1 122 (Int32.toNatClampNeg (((355 : Int32) * a1) + (2 : Int32))))]) (st' := [.ref 117]) (s' := s2) rfl ?_
  refine fu_step (fu_getR rfl fr_117 rfl rfl) ?_
  refine fu_go 6 (pc' := 45) (ls' := [.ref 117, .int a1, .int a2, .int a3, .int a4, .int ((355 : Int32) * a1), .int (s.1 122 (Int32.toNatClampNeg (((355 : Int32) * a1) + (2 : Int32))))]) (st' := [.int a3, .int ((((355 : Int32) * a1) + (43 : Int32)) + (s.1 122 (Int32.toNatClampNeg (((355 : Int32) * a1) + (2 : Int32))))), .ref 122]) (s' := s2) rfl ?_
  refine fu_guard (fun h5 => fu_lets (b := (fu_pi s2 122 (Int32.toNatClampNeg ((((355 : Int32) * a1) + (43 : Int32)) + (s.1 122 (Int32.toNatClampNeg (((355 : Int32) * a1) + (2 : Int32)))))) a3)) (fu_stI rfl fr_122 h5) (fun s4 => ?_))
  refine fu_go 1 (pc' := 47) (ls' := [.ref 117, .int a1, .int a2, .int a3, .int a4, .int ((355 : Int32) * a1), .int (s.1 122 (Int32.toNatClampNeg (((355 : Int32) * a1) + (2 : Int32))))]) (st' := [.ref 117]) (s' := s4) rfl ?_
  refine fu_step (fu_getR rfl fr_117 rfl rfl) ?_
  refine fu_go 6 (pc' := 60) (ls' := [.ref 117, .int a1, .int a2, .int a3, .int a4, .int ((355 : Int32) * a1), .int (s.1 122 (Int32.toNatClampNeg (((355 : Int32) * a1) + (2 : Int32))))]) (st' := [.int a4, .int ((((355 : Int32) * a1) + (51 : Int32)) + (s.1 122 (Int32.toNatClampNeg (((355 : Int32) * a1) + (2 : Int32))))), .ref 122]) (s' := s4) rfl ?_
  refine fu_guard (fun h7 => fu_lets (b := (fu_pi s4 122 (Int32.toNatClampNeg ((((355 : Int32) * a1) + (51 : Int32)) + (s.1 122 (Int32.toNatClampNeg (((355 : Int32) * a1) + (2 : Int32)))))) a4)) (fu_stI rfl fr_122 h7) (fun s6 => ?_))
  refine fu_go 1 (pc' := 62) (ls' := [.ref 117, .int a1, .int a2, .int a3, .int a4, .int ((355 : Int32) * a1), .int (s.1 122 (Int32.toNatClampNeg (((355 : Int32) * a1) + (2 : Int32))))]) (st' := [.ref 117]) (s' := s6) rfl ?_
  refine fu_step (fu_getR rfl fr_117 rfl rfl) ?_
  refine fu_go 6 (pc' := 74) (ls' := [.ref 117, .int a1, .int a2, .int a3, .int a4, .int ((355 : Int32) * a1), .int (s.1 122 (Int32.toNatClampNeg (((355 : Int32) * a1) + (2 : Int32))))]) (st' := [.ref 117, .int ((((355 : Int32) * a1) + (59 : Int32)) + (s.1 122 (Int32.toNatClampNeg (((355 : Int32) * a1) + (2 : Int32))))), .ref 122]) (s' := s6) rfl ?_
  refine fu_step (fu_getR rfl fr_117 rfl rfl) ?_
  refine fu_go 3 (pc' := 81) (ls' := [.ref 117, .int a1, .int a2, .int a3, .int a4, .int ((355 : Int32) * a1), .int (s.1 122 (Int32.toNatClampNeg (((355 : Int32) * a1) + (2 : Int32))))]) (st' := [.int (((355 : Int32) * a1) + (5 : Int32)), .ref 122, .int ((((355 : Int32) * a1) + (59 : Int32)) + (s.1 122 (Int32.toNatClampNeg (((355 : Int32) * a1) + (2 : Int32))))), .ref 122]) (s' := s6) rfl ?_
  refine fu_guard (fun h8 => fu_step (fu_ldI rfl fr_122 h8) ?_)
  refine fu_guard (fun h10 => fu_lets (b := (fu_pi s6 122 (Int32.toNatClampNeg ((((355 : Int32) * a1) + (59 : Int32)) + (s.1 122 (Int32.toNatClampNeg (((355 : Int32) * a1) + (2 : Int32)))))) (s6.1 122 (Int32.toNatClampNeg (((355 : Int32) * a1) + (5 : Int32)))))) (fu_stI rfl fr_122 h10) (fun s9 => ?_))
  refine fu_go 1 (pc' := 84) (ls' := [.ref 117, .int a1, .int a2, .int a3, .int a4, .int ((355 : Int32) * a1), .int (s.1 122 (Int32.toNatClampNeg (((355 : Int32) * a1) + (2 : Int32))))]) (st' := [.ref 117]) (s' := s9) rfl ?_
  refine fu_step (fu_getR rfl fr_117 rfl rfl) ?_
  refine fu_go 6 (pc' := 96) (ls' := [.ref 117, .int a1, .int a2, .int a3, .int a4, .int ((355 : Int32) * a1), .int (s.1 122 (Int32.toNatClampNeg (((355 : Int32) * a1) + (2 : Int32))))]) (st' := [.int (0 : Int32), .int ((((355 : Int32) * a1) + (67 : Int32)) + (s.1 122 (Int32.toNatClampNeg (((355 : Int32) * a1) + (2 : Int32))))), .ref 122]) (s' := s9) rfl ?_
  refine fu_guard (fun h12 => fu_lets (b := (fu_pi s9 122 (Int32.toNatClampNeg ((((355 : Int32) * a1) + (67 : Int32)) + (s.1 122 (Int32.toNatClampNeg (((355 : Int32) * a1) + (2 : Int32)))))) (0 : Int32))) (fu_stI rfl fr_122 h12) (fun s11 => ?_))
  refine fu_go 1 (pc' := 98) (ls' := [.ref 117, .int a1, .int a2, .int a3, .int a4, .int ((355 : Int32) * a1), .int (s.1 122 (Int32.toNatClampNeg (((355 : Int32) * a1) + (2 : Int32))))]) (st' := [.ref 117]) (s' := s11) rfl ?_
  refine fu_step (fu_getR rfl fr_117 rfl rfl) ?_
  refine fu_go 6 (pc' := 110) (ls' := [.ref 117, .int a1, .int a2, .int a3, .int a4, .int ((355 : Int32) * a1), .int (s.1 122 (Int32.toNatClampNeg (((355 : Int32) * a1) + (2 : Int32))))]) (st' := [.int (0 : Int32), .int ((((355 : Int32) * a1) + (75 : Int32)) + (s.1 122 (Int32.toNatClampNeg (((355 : Int32) * a1) + (2 : Int32))))), .ref 122]) (s' := s11) rfl ?_
  refine fu_guard (fun h14 => fu_lets (b := (fu_pi s11 122 (Int32.toNatClampNeg ((((355 : Int32) * a1) + (75 : Int32)) + (s.1 122 (Int32.toNatClampNeg (((355 : Int32) * a1) + (2 : Int32)))))) (0 : Int32))) (fu_stI rfl fr_122 h14) (fun s13 => ?_))
  refine fu_go 1 (pc' := 112) (ls' := [.ref 117, .int a1, .int a2, .int a3, .int a4, .int ((355 : Int32) * a1), .int (s.1 122 (Int32.toNatClampNeg (((355 : Int32) * a1) + (2 : Int32))))]) (st' := [.ref 117]) (s' := s13) rfl ?_
  refine fu_step (fu_getR rfl fr_117 rfl rfl) ?_
  refine fu_go 4 (pc' := 120) (ls' := [.ref 117, .int a1, .int a2, .int a3, .int a4, .int ((355 : Int32) * a1), .int (s.1 122 (Int32.toNatClampNeg (((355 : Int32) * a1) + (2 : Int32))))]) (st' := [.int (((355 : Int32) * a1) + (2 : Int32)), .ref 122, .int (((355 : Int32) * a1) + (2 : Int32)), .ref 122]) (s' := s13) rfl ?_
  refine fu_guard (fun h15 => fu_step (fu_ldI rfl fr_122 h15) ?_)
  refine fu_go 2 (pc' := 123) (ls' := [.ref 117, .int a1, .int a2, .int a3, .int a4, .int ((355 : Int32) * a1), .int (s.1 122 (Int32.toNatClampNeg (((355 : Int32) * a1) + (2 : Int32))))]) (st' := [.int ((s13.1 122 (Int32.toNatClampNeg (((355 : Int32) * a1) + (2 : Int32)))) + (1 : Int32)), .int (((355 : Int32) * a1) + (2 : Int32)), .ref 122]) (s' := s13) rfl ?_
  refine fu_guard (fun h17 => fu_lets (b := (fu_pi s13 122 (Int32.toNatClampNeg (((355 : Int32) * a1) + (2 : Int32))) ((s13.1 122 (Int32.toNatClampNeg (((355 : Int32) * a1) + (2 : Int32)))) + (1 : Int32)))) (fu_stI rfl fr_122 h17) (fun s16 => ?_))
  exact fu_vret rfl rfl
/-! X12_readThing -/
set_option maxRecDepth 100000 in
theorem e_X12_readThing (d : Nat) (hd : 6 ≤ d) (s : fu_S) : fu_J (f_X12_readThing s) (fun r => some (none, r)) (am_D (fu_ho fr_sh) am_m d 294 [.ref 117] s) := by
  obtain ⟨d, rfl⟩ : ∃ e, d = e + 1 := ⟨d - 1, by omega⟩
  refine fu_enter (ls := [.ref 117, am_U, am_U, am_U]) am_at_X12_readThing rfl rfl ?_
  show fu_J _ _ (fr_X d none k_X12_readThing 0 [.ref 117, am_U, am_U, am_U] [] s)
  unfold f_X12_readThing
  refine fu_go 3 (pc' := 4) (ls' := [.ref 117, am_U, am_U, am_U]) (st' := [.int (8 : Int32), .int (2 : Int32), .ref 117]) (s' := s) rfl ?_
  refine fu_bind (fu_cVJ rfl rfl rfl rfl rfl (fu_recv fr_117 am_at_X12_another rfl) (e_X12_another d (by omega) s (2 : Int32) (8 : Int32))) (fun r1 => ?_)
  show fu_J _ _ (fr_X d none k_X12_readThing 7 [.ref 117, am_U, am_U, am_U] [.int r1.1] r1.2)
  refine fu_go 3 (pc' := 10) (ls' := [.ref 117, am_U, am_U, am_U]) (st' := [.int (4 : Int32), .ref 117]) (s' := r1.2) rfl ?_
  refine fu_bind (fu_cVJ rfl rfl rfl rfl rfl (fu_recv fr_117 am_at_X12_readTold rfl) (e_X12_readTold d (by omega) r1.2 (4 : Int32))) (fun r2 => ?_)
  show fu_J _ _ (fr_X d none k_X12_readThing 13 [.ref 117, am_U, am_U, am_U] [.int r2.1] r2.2)
  refine fu_go 4 (pc' := 17) (ls' := [.ref 117, .int r2.1, am_U, am_U]) (st' := [.ref 117, .int (0 : Int32), .ref 117]) (s' := r2.2) rfl ?_
  refine fu_step (fu_getR rfl fr_117 rfl rfl) ?_
  refine fu_go 1 (pc' := 23) (ls' := [.ref 117, .int r2.1, am_U, am_U]) (st' := [.int (1420 : Int32), .ref 122, .int (0 : Int32), .ref 117]) (s' := r2.2) rfl ?_
  refine fu_step (fu_ldIk (k := 1420) rfl fr_122 (by decide) (by decide)) ?_
  refine fu_go 2 (pc' := 26) (ls' := [.ref 117, .int r2.1, am_U, am_U]) (st' := [.int ((r2.2.1 122 1420) - (1 : Int32)), .int (0 : Int32), .ref 117]) (s' := r2.2) rfl ?_
  refine fu_bind (fu_cVJ rfl rfl rfl rfl rfl (fu_recv fr_117 am_at_X12_count rfl) (e_X12_count d (by omega) r2.2 (0 : Int32) ((r2.2.1 122 1420) - (1 : Int32)))) (fun r3 => ?_)
  show fu_J _ _ (fr_X d none k_X12_readThing 29 [.ref 117, .int r2.1, am_U, am_U] [.int r3.1] r3.2)
  refine fu_go 3 (pc' := 32) (ls' := [.ref 117, .int r2.1, .int r3.1, am_U]) (st' := [.ref 117, .ref 117]) (s' := r3.2) rfl ?_
  refine fu_step (fu_cV rfl rfl rfl rfl rfl (fu_recv fr_117 am_at_X12_isWorth rfl) (fu_eq (e_X12_isWorth d (by omega) r3.2) rfl)) ?_
  show fu_J _ _ (fr_X d none k_X12_readThing 35 [.ref 117, .int r2.1, .int r3.1, am_U] [.int (fu_b (f_X12_isWorth r3.2)), .ref 117] r3.2)
  refine fu_bind (fu_cVJ rfl rfl rfl rfl rfl (fu_recv fr_117 am_at_X12_perhaps rfl) (e_X12_perhaps d (by omega) r3.2 (f_X12_isWorth r3.2))) (fun r4 => ?_)
  show fu_J _ _ (fr_X d none k_X12_readThing 38 [.ref 117, .int r2.1, .int r3.1, am_U] [.int (fu_b r4.1)] r4.2)
  refine fu_bind (V := fun j5 : Int32 × fu_S => fr_X d none k_X12_readThing 52 [.ref 117, .int r2.1, .int r3.1, am_U] [.int j5.1] j5.2) ?_ (fun j5 => ?_)
  · refine fu_ite (fun h6 => fu_step (fu_ib_eq_t rfl h6) ?_) (fun h6 => fu_step (fu_ib_eq_f rfl h6) ?_)
    · refine fu_go 3 (pc' := 45) (ls' := [.ref 117, .int r2.1, .int r3.1, am_U]) (st' := [.int (9 : Int32), .int (1 : Int32), .ref 117]) (s' := r4.2) rfl ?_
      refine fu_bind (fu_cVJ rfl rfl rfl rfl rfl (fu_recv fr_117 am_at_X12_count rfl) (e_X12_count d (by omega) r4.2 (1 : Int32) (9 : Int32))) (fun r7 => ?_)
      show fu_J _ _ (fr_X d none k_X12_readThing 48 [.ref 117, .int r2.1, .int r3.1, am_U] [.int r7.1] r7.2)
      refine fu_go 1 (pc' := 52) (ls' := [.ref 117, .int r2.1, .int r3.1, am_U]) (st' := [.int r7.1]) (s' := r7.2) rfl ?_
      exact fu_leaf rfl ⟨.inr rfl, .inr rfl, .inr rfl, .inl rfl, trivial⟩
    · refine fu_go 1 (pc' := 52) (ls' := [.ref 117, .int r2.1, .int r3.1, am_U]) (st' := [.int (1 : Int32)]) (s' := r4.2) rfl ?_
      exact fu_leaf rfl ⟨.inr rfl, .inr rfl, .inr rfl, .inl rfl, trivial⟩
  show fu_J _ _ (fr_X d none k_X12_readThing 52 [.ref 117, .int r2.1, .int r3.1, am_U] [.int j5.1] j5.2)
  refine fu_go 2 (pc' := 54) (ls' := [.ref 117, .int r2.1, .int r3.1, .int j5.1]) (st' := [.ref 117]) (s' := j5.2) rfl ?_
  refine fu_step (fu_getI rfl fr_117 rfl rfl) ?_
  refine fu_bind (V := fun j8 : fu_S => fr_X d none k_X12_readThing 68 [am_U, am_U, am_U, am_U] [] j8) ?_ (fun j8 => ?_)
  · refine fu_ite (fun h9 => fu_step (fu_if_ne_t rfl h9) ?_) (fun h9 => fu_step (fu_if_ne_f rfl h9) ?_)
    · refine fu_go 5 (pc' := 65) (ls' := [.ref 117, .int r2.1, .int r3.1, .int j5.1]) (st' := [.int j5.1, .int r3.1, .int r2.1, .int (4 : Int32), .ref 117]) (s' := j5.2) rfl ?_
      refine fu_bind (fu_cVJ rfl rfl rfl rfl rfl (fu_recv fr_117 am_at_X12_loses rfl) (e_X12_loses d (by omega) j5.2 (4 : Int32) r2.1 r3.1 j5.1)) (fun r10 => ?_)
      show fu_J _ _ (fr_X d none k_X12_readThing 68 [.ref 117, .int r2.1, .int r3.1, .int j5.1] [] r10)
      exact fu_leaf rfl ⟨.inl rfl, .inl rfl, .inl rfl, .inl rfl, trivial⟩
    · exact fu_leaf rfl ⟨.inl rfl, .inl rfl, .inl rfl, .inl rfl, trivial⟩
  show fu_J _ _ (fr_X d none k_X12_readThing 68 [am_U, am_U, am_U, am_U] [] j8)
  exact fu_vret rfl rfl
