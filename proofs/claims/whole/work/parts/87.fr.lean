/-! printed by wip/whole/lift/lift.py: the small machine comes to what the functions answer -/
/-! X12_person -/
set_option maxRecDepth 100000 in
theorem e_X12_person (d : Nat) (hd : 7 ≤ d) (s : fu_S) (a1 : Int32) (a2 : Int32) : fu_J (f_X12_person s a1 a2) (fun r => some (some (.int r.1), r.2)) (am_D (fu_ho fr_sh) am_m d 322 [.ref 117, .int a1, .int a2] s) := by
  obtain ⟨d, rfl⟩ : ∃ e, d = e + 1 := ⟨d - 1, by omega⟩
  refine fu_enter (ls := [.ref 117, .int a1, .int a2]) am_at_X12_person rfl rfl ?_
  show fu_J _ _ (fr_X d (some .int) k_X12_person 0 [.ref 117, .int a1, .int a2] [] s)
  unfold f_X12_person
  refine fu_go 2 (pc' := 2) (ls' := [.ref 117, .int a1, .int a2]) (st' := [.int (0 : Int32), .ref 117]) (s' := s) rfl ?_
  refine fu_lets (b := (fu_pi s 117 1 (0 : Int32))) (fu_putI rfl fr_117 rfl rfl) (fun s1 => ?_)
  refine fu_go 2 (pc' := 7) (ls' := [.ref 117, .int a1, .int a2]) (st' := [.int (0 : Int32), .ref 117]) (s' := s1) rfl ?_
  refine fu_lets (b := (fu_pi s1 117 0 (0 : Int32))) (fu_putI rfl fr_117 rfl rfl) (fun s2 => ?_)
  refine fu_go 3 (pc' := 13) (ls' := [.ref 117, .int a1, .int a2]) (st' := [.long (Int32.toInt64 a1), .ref 117]) (s' := s2) rfl ?_
  refine fu_step (fu_cV rfl rfl rfl rfl rfl (fu_recv fr_117 am_at_X12_isPersonAt rfl) (fu_eq (e_X12_isPersonAt d (by omega) s2 (Int32.toInt64 a1)) rfl)) ?_
  show fu_J _ _ (fr_X d (some .int) k_X12_person 16 [.ref 117, .int a1, .int a2] [.int (fu_b (f_X12_isPersonAt s2 (Int32.toInt64 a1)))] s2)
  refine fu_ite (fun h3 => fu_step (fu_ib_ne_t rfl h3) ?_) (fun h3 => fu_step (fu_ib_ne_f rfl h3) ?_)
  · refine fu_go 4 (pc' := 31) (ls' := [.ref 117, .int a1, .int a2]) (st' := [.long (3 : Int64), .long (0 : Int64), .long (Int32.toInt64 a2)]) (s' := s2) rfl ?_
    refine fu_step (fu_cS rfl rfl rfl rfl rfl rfl (fu_eq (e_X12_isIn d (by omega) s2 (Int32.toInt64 a2) (0 : Int64) (3 : Int64)) rfl)) ?_
    show fu_J _ _ (fr_X d (some .int) k_X12_person 34 [.ref 117, .int a1, .int a2] [.int (fu_b (f_X12_isIn (Int32.toInt64 a2) (0 : Int64) (3 : Int64)))] s2)
    refine fu_ite (fun h4 => fu_step (fu_ib_ne_t rfl h4) ?_) (fun h4 => fu_step (fu_ib_ne_f rfl h4) ?_)
    · refine fu_go 2 (pc' := 45) (ls' := [.ref 117, .int a1, .int a2]) (st' := [.int (2 : Int32), .int a2]) (s' := s2) rfl ?_
      refine fu_bind (V := fun j5 : Int32 => fr_X d (some .int) k_X12_person 80 [am_U, am_U, am_U] [.int j5] s2) ?_ (fun j5 => ?_)
      · refine fu_ite (fun h6 => fu_step (fu_ic_ge_t rfl h6) ?_) (fun h6 => fu_step (fu_ic_ge_f rfl h6) ?_)
        · refine fu_go 1 (pc' := 49) (ls' := [.ref 117, .int a1, .int a2]) (st' := [.ref 117]) (s' := s2) rfl ?_
          refine fu_step (fu_getR rfl fr_117 rfl rfl) ?_
          refine fu_go 7 (pc' := 61) (ls' := [.ref 117, .int a1, .int a2]) (st' := [.int (((21 : Int32) + ((7 : Int32) * a2)) + a1), .ref 122]) (s' := s2) rfl ?_
          refine fu_guard (fun h7 => fu_step (fu_ldI rfl fr_122 h7) ?_)
          refine fu_go 1 (pc' := 80) (ls' := [.ref 117, .int a1, .int a2]) (st' := [.int (s2.1 122 (Int32.toNatClampNeg (((21 : Int32) + ((7 : Int32) * a2)) + a1)))]) (s' := s2) rfl ?_
          exact fu_leaf rfl ⟨.inl rfl, .inl rfl, .inl rfl, trivial⟩
        · refine fu_go 4 (pc' := 69) (ls' := [.ref 117, .int a1, .int a2]) (st' := [.int (2 : Int32), .int a2, .int a1, .ref 117]) (s' := s2) rfl ?_
          refine fu_bind (V := fun j8 : Bool => fr_X d (some .int) k_X12_person 77 [am_U, am_U, am_U] [.int (fu_b j8), .int a1, .ref 117] s2) ?_ (fun j8 => ?_)
          · refine fu_ite (fun h9 => fu_step (fu_ic_ne_t rfl h9) ?_) (fun h9 => fu_step (fu_ic_ne_f rfl h9) ?_)
            · refine fu_go 2 (pc' := 77) (ls' := [.ref 117, .int a1, .int a2]) (st' := [.int (1 : Int32), .int a1, .ref 117]) (s' := s2) rfl ?_
              exact fu_leaf rfl ⟨.inl rfl, .inl rfl, .inl rfl, trivial⟩
            · refine fu_go 1 (pc' := 77) (ls' := [.ref 117, .int a1, .int a2]) (st' := [.int (0 : Int32), .int a1, .ref 117]) (s' := s2) rfl ?_
              exact fu_leaf rfl ⟨.inl rfl, .inl rfl, .inl rfl, trivial⟩
          show fu_J _ _ (fr_X d (some .int) k_X12_person 77 [am_U, am_U, am_U] [.int (fu_b j8), .int a1, .ref 117] s2)
          refine fu_bind (fu_cVJ rfl rfl rfl rfl rfl (fu_recv fr_117 am_at_X12_thingsOf rfl) (e_X12_thingsOf d (by omega) s2 a1 j8)) (fun r10 => ?_)
          show fu_J _ _ (fr_X d (some .int) k_X12_person 80 [am_U, am_U, am_U] [.int r10] s2)
          exact fu_leaf rfl ⟨.inl rfl, .inl rfl, .inl rfl, trivial⟩
      show fu_J _ _ (fr_X d (some .int) k_X12_person 80 [am_U, am_U, am_U] [.int j5] s2)
      exact fu_iret rfl rfl
    · refine fu_go 2 (pc' := 39) (ls' := [.ref 117, .int a1, .int a2]) (st' := [.int (5 : Int32), .ref 117]) (s' := s2) rfl ?_
      refine fu_let (fu_cVJ rfl rfl rfl rfl rfl (fu_recv fr_117 am_at_X12_refuse rfl) (e_X12_refuse d (by omega) s2 (5 : Int32))) (fun r11 => ?_)
      show fu_J _ _ (fr_X d (some .int) k_X12_person 42 [.ref 117, .int a1, .int a2] [.int r11.1] r11.2)
      exact fu_iret rfl rfl
  · refine fu_go 2 (pc' := 21) (ls' := [.ref 117, .int a1, .int a2]) (st' := [.int (2 : Int32), .ref 117]) (s' := s2) rfl ?_
    refine fu_let (fu_cVJ rfl rfl rfl rfl rfl (fu_recv fr_117 am_at_X12_refuse rfl) (e_X12_refuse d (by omega) s2 (2 : Int32))) (fun r12 => ?_)
    show fu_J _ _ (fr_X d (some .int) k_X12_person 24 [.ref 117, .int a1, .int a2] [.int r12.1] r12.2)
    exact fu_iret rfl rfl
/-! X12_thing -/
set_option maxRecDepth 100000 in
theorem e_X12_thing (d : Nat) (hd : 5 ≤ d) (s : fu_S) (a1 : Int32) (a2 : Int32) : fu_J (f_X12_thing s a1 a2) (fun r => some (some (.int r.1), r.2)) (am_D (fu_ho fr_sh) am_m d 323 [.ref 117, .int a1, .int a2] s) := by
  obtain ⟨d, rfl⟩ : ∃ e, d = e + 1 := ⟨d - 1, by omega⟩
  refine fu_enter (ls := [.ref 117, .int a1, .int a2]) am_at_X12_thing rfl rfl ?_
  show fu_J _ _ (fr_X d (some .int) k_X12_thing 0 [.ref 117, .int a1, .int a2] [] s)
  unfold f_X12_thing
  refine fu_go 2 (pc' := 2) (ls' := [.ref 117, .int a1, .int a2]) (st' := [.int (0 : Int32), .ref 117]) (s' := s) rfl ?_
  refine fu_lets (b := (fu_pi s 117 1 (0 : Int32))) (fu_putI rfl fr_117 rfl rfl) (fun s1 => ?_)
  refine fu_go 2 (pc' := 7) (ls' := [.ref 117, .int a1, .int a2]) (st' := [.int (0 : Int32), .ref 117]) (s' := s1) rfl ?_
  refine fu_lets (b := (fu_pi s1 117 0 (0 : Int32))) (fu_putI rfl fr_117 rfl rfl) (fun s2 => ?_)
  refine fu_go 2 (pc' := 12) (ls' := [.ref 117, .int a1, .int a2]) (st' := [.int a1, .ref 117]) (s' := s2) rfl ?_
  refine fu_step (fu_cV rfl rfl rfl rfl rfl (fu_recv fr_117 am_at_X12_isThingAt rfl) (fu_eq (e_X12_isThingAt d (by omega) s2 a1) rfl)) ?_
  show fu_J _ _ (fr_X d (some .int) k_X12_thing 15 [.ref 117, .int a1, .int a2] [.int (fu_b (f_X12_isThingAt s2 a1))] s2)
  refine fu_ite (fun h3 => fu_step (fu_ib_ne_t rfl h3) ?_) (fun h3 => fu_step (fu_ib_ne_f rfl h3) ?_)
  · refine fu_go 4 (pc' := 30) (ls' := [.ref 117, .int a1, .int a2]) (st' := [.long (9 : Int64), .long (0 : Int64), .long (Int32.toInt64 a2)]) (s' := s2) rfl ?_
    refine fu_step (fu_cS rfl rfl rfl rfl rfl rfl (fu_eq (e_X12_isIn d (by omega) s2 (Int32.toInt64 a2) (0 : Int64) (9 : Int64)) rfl)) ?_
    show fu_J _ _ (fr_X d (some .int) k_X12_thing 33 [.ref 117, .int a1, .int a2] [.int (fu_b (f_X12_isIn (Int32.toInt64 a2) (0 : Int64) (9 : Int64)))] s2)
    refine fu_ite (fun h4 => fu_step (fu_ib_ne_t rfl h4) ?_) (fun h4 => fu_step (fu_ib_ne_f rfl h4) ?_)
    · refine fu_go 2 (pc' := 44) (ls' := [.ref 117, .int a1, .int a2]) (st' := [.int (4 : Int32), .int a2]) (s' := s2) rfl ?_
      refine fu_ite (fun h5 => fu_step (fu_ic_ge_t rfl h5) ?_) (fun h5 => fu_step (fu_ic_ge_f rfl h5) ?_)
      · refine fu_go 1 (pc' := 48) (ls' := [.ref 117, .int a1, .int a2]) (st' := [.ref 117]) (s' := s2) rfl ?_
        refine fu_step (fu_getR rfl fr_117 rfl rfl) ?_
        refine fu_go 7 (pc' := 60) (ls' := [.ref 117, .int a1, .int a2]) (st' := [.int (((35 : Int32) + ((8 : Int32) * a2)) + a1), .ref 122]) (s' := s2) rfl ?_
        refine fu_guard (fun h6 => fu_step (fu_ldI rfl fr_122 h6) ?_)
        exact fu_iret rfl rfl
      · refine fu_go 2 (pc' := 64) (ls' := [.ref 117, .int a1, .int a2]) (st' := [.int (4 : Int32), .int a2]) (s' := s2) rfl ?_
        refine fu_ite (fun h7 => fu_step (fu_ic_ne_t rfl h7) ?_) (fun h7 => fu_step (fu_ic_ne_f rfl h7) ?_)
        · refine fu_go 2 (pc' := 69) (ls' := [.ref 117, .int a1, .int a2]) (st' := [.int a1, .ref 117]) (s' := s2) rfl ?_
          refine fu_bind (fu_cVJ rfl rfl rfl rfl rfl (fu_recv fr_117 am_at_X12_bearerOf rfl) (e_X12_bearerOf d (by omega) s2 a1)) (fun r8 => ?_)
          show fu_J _ _ (fr_X d (some .int) k_X12_thing 72 [.ref 117, .int a1, .int a2] [.int r8] s2)
          exact fu_iret rfl rfl
        · refine fu_go 2 (pc' := 75) (ls' := [.ref 117, .int a1, .int a2]) (st' := [.int (5 : Int32), .int a2]) (s' := s2) rfl ?_
          refine fu_ite (fun h9 => fu_step (fu_ic_ne_t rfl h9) ?_) (fun h9 => fu_step (fu_ic_ne_f rfl h9) ?_)
          · refine fu_go 2 (pc' := 80) (ls' := [.ref 117, .int a1, .int a2]) (st' := [.int a1, .ref 117]) (s' := s2) rfl ?_
            refine fu_bind (fu_cVJ rfl rfl rfl rfl rfl (fu_recv fr_117 am_at_X12_spotOf rfl) (e_X12_spotOf d (by omega) s2 a1)) (fun r10 => ?_)
            show fu_J _ _ (fr_X d (some .int) k_X12_thing 83 [.ref 117, .int a1, .int a2] [.int r10] s2)
            exact fu_iret rfl rfl
          · refine fu_go 2 (pc' := 87) (ls' := [.ref 117, .int a1, .int a2]) (st' := [.int (6 : Int32), .int a2]) (s' := s2) rfl ?_
            refine fu_ite (fun h11 => fu_step (fu_ic_ne_t rfl h11) ?_) (fun h11 => fu_step (fu_ic_ne_f rfl h11) ?_)
            · refine fu_go 2 (pc' := 92) (ls' := [.ref 117, .int a1, .int a2]) (st' := [.int a1, .ref 117]) (s' := s2) rfl ?_
              refine fu_bind (fu_cVJ rfl rfl rfl rfl rfl (fu_recv fr_117 am_at_X12_comesUp rfl) (e_X12_comesUp d (by omega) s2 a1)) (fun r12 => ?_)
              show fu_J _ _ (fr_X d (some .int) k_X12_thing 95 [.ref 117, .int a1, .int a2] [.int r12] s2)
              exact fu_iret rfl rfl
            · refine fu_go 2 (pc' := 99) (ls' := [.ref 117, .int a1, .int a2]) (st' := [.int (9 : Int32), .int a2]) (s' := s2) rfl ?_
              refine fu_ite (fun h13 => fu_step (fu_ic_ne_t rfl h13) ?_) (fun h13 => fu_step (fu_ic_ne_f rfl h13) ?_)
              · refine fu_go 2 (pc' := 104) (ls' := [.ref 117, .int a1, .int a2]) (st' := [.int a1, .ref 117]) (s' := s2) rfl ?_
                refine fu_bind (fu_cVJ rfl rfl rfl rfl rfl (fu_recv fr_117 am_at_X12_whoCould rfl) (e_X12_whoCould d (by omega) s2 a1)) (fun r14 => ?_)
                show fu_J _ _ (fr_X d (some .int) k_X12_thing 107 [.ref 117, .int a1, .int a2] [.int r14] s2)
                exact fu_iret rfl rfl
              · refine fu_go 2 (pc' := 110) (ls' := [.ref 117, .int a1, .int a2]) (st' := [.int a1, .ref 117]) (s' := s2) rfl ?_
                refine fu_bind (fu_cVJ rfl rfl rfl rfl rfl (fu_recv fr_117 am_at_X12_isScratched rfl) (e_X12_isScratched d (by omega) s2 a1)) (fun r15 => ?_)
                show fu_J _ _ (fr_X d (some .int) k_X12_thing 113 [.ref 117, .int a1, .int a2] [.int (fu_b r15)] s2)
                refine fu_ite (fun h16 => fu_step (fu_ib_ne_t rfl h16) ?_) (fun h16 => fu_step (fu_ib_ne_f rfl h16) ?_)
                · refine fu_go 2 (pc' := 126) (ls' := [.ref 117, .int a1, .int a2]) (st' := [.int (7 : Int32), .int a2]) (s' := s2) rfl ?_
                  refine fu_bind (V := fun j17 : Int32 => fr_X d (some .int) k_X12_thing 152 [am_U, am_U, am_U] [.int j17] s2) ?_ (fun j17 => ?_)
                  · refine fu_ite (fun h18 => fu_step (fu_ic_ne_t rfl h18) ?_) (fun h18 => fu_step (fu_ic_ne_f rfl h18) ?_)
                    · refine fu_go 1 (pc' := 130) (ls' := [.ref 117, .int a1, .int a2]) (st' := [.ref 117]) (s' := s2) rfl ?_
                      refine fu_step (fu_getR rfl fr_117 rfl rfl) ?_
                      refine fu_go 3 (pc' := 137) (ls' := [.ref 117, .int a1, .int a2]) (st' := [.int ((67 : Int32) + a1), .ref 122]) (s' := s2) rfl ?_
                      refine fu_guard (fun h19 => fu_step (fu_ldI rfl fr_122 h19) ?_)
                      refine fu_go 3 (pc' := 152) (ls' := [.ref 117, .int a1, .int a2]) (st' := [.int ((s2.1 122 (Int32.toNatClampNeg ((67 : Int32) + a1))) - (1 : Int32))]) (s' := s2) rfl ?_
                      exact fu_leaf rfl ⟨.inl rfl, .inl rfl, .inl rfl, trivial⟩
                    · refine fu_go 1 (pc' := 144) (ls' := [.ref 117, .int a1, .int a2]) (st' := [.ref 117]) (s' := s2) rfl ?_
                      refine fu_step (fu_getR rfl fr_117 rfl rfl) ?_
                      refine fu_go 3 (pc' := 151) (ls' := [.ref 117, .int a1, .int a2]) (st' := [.int ((75 : Int32) + a1), .ref 122]) (s' := s2) rfl ?_
                      refine fu_guard (fun h20 => fu_step (fu_ldI rfl fr_122 h20) ?_)
                      exact fu_leaf rfl ⟨.inl rfl, .inl rfl, .inl rfl, trivial⟩
                  show fu_J _ _ (fr_X d (some .int) k_X12_thing 152 [am_U, am_U, am_U] [.int j17] s2)
                  exact fu_iret rfl rfl
                · refine fu_go 2 (pc' := 119) (ls' := [.ref 117, .int a1, .int a2]) (st' := [.int (8 : Int32), .ref 117]) (s' := s2) rfl ?_
                  refine fu_let (fu_cVJ rfl rfl rfl rfl rfl (fu_recv fr_117 am_at_X12_refuse rfl) (e_X12_refuse d (by omega) s2 (8 : Int32))) (fun r21 => ?_)
                  show fu_J _ _ (fr_X d (some .int) k_X12_thing 122 [.ref 117, .int a1, .int a2] [.int r21.1] r21.2)
                  exact fu_iret rfl rfl
    · refine fu_go 2 (pc' := 38) (ls' := [.ref 117, .int a1, .int a2]) (st' := [.int (5 : Int32), .ref 117]) (s' := s2) rfl ?_
      refine fu_let (fu_cVJ rfl rfl rfl rfl rfl (fu_recv fr_117 am_at_X12_refuse rfl) (e_X12_refuse d (by omega) s2 (5 : Int32))) (fun r22 => ?_)
      show fu_J _ _ (fr_X d (some .int) k_X12_thing 41 [.ref 117, .int a1, .int a2] [.int r22.1] r22.2)
      exact fu_iret rfl rfl
  · refine fu_go 2 (pc' := 20) (ls' := [.ref 117, .int a1, .int a2]) (st' := [.int (2 : Int32), .ref 117]) (s' := s2) rfl ?_
    refine fu_let (fu_cVJ rfl rfl rfl rfl rfl (fu_recv fr_117 am_at_X12_refuse rfl) (e_X12_refuse d (by omega) s2 (2 : Int32))) (fun r23 => ?_)
    show fu_J _ _ (fr_X d (some .int) k_X12_thing 23 [.ref 117, .int a1, .int a2] [.int r23.1] r23.2)
    exact fu_iret rfl rfl
/-! X12_far -/
set_option maxRecDepth 100000 in
theorem e_X12_far (d : Nat) (hd : 3 ≤ d) (s : fu_S) (a1 : Int32) (a2 : Int32) : fu_J (f_X12_far s a1 a2) (fun r => some (some (.int r.1), r.2)) (am_D (fu_ho fr_sh) am_m d 324 [.ref 117, .int a1, .int a2] s) := by
  obtain ⟨d, rfl⟩ : ∃ e, d = e + 1 := ⟨d - 1, by omega⟩
  refine fu_enter (ls := [.ref 117, .int a1, .int a2]) am_at_X12_far rfl rfl ?_
  show fu_J _ _ (fr_X d (some .int) k_X12_far 0 [.ref 117, .int a1, .int a2] [] s)
  unfold f_X12_far
  refine fu_go 2 (pc' := 2) (ls' := [.ref 117, .int a1, .int a2]) (st' := [.int (0 : Int32), .ref 117]) (s' := s) rfl ?_
  refine fu_lets (b := (fu_pi s 117 1 (0 : Int32))) (fu_putI rfl fr_117 rfl rfl) (fun s1 => ?_)
  refine fu_go 2 (pc' := 7) (ls' := [.ref 117, .int a1, .int a2]) (st' := [.int (0 : Int32), .ref 117]) (s' := s1) rfl ?_
  refine fu_lets (b := (fu_pi s1 117 0 (0 : Int32))) (fu_putI rfl fr_117 rfl rfl) (fun s2 => ?_)
  refine fu_go 3 (pc' := 13) (ls' := [.ref 117, .int a1, .int a2]) (st' := [.long (Int32.toInt64 a1), .ref 117]) (s' := s2) rfl ?_
  refine fu_step (fu_cV rfl rfl rfl rfl rfl (fu_recv fr_117 am_at_X12_isPersonAt rfl) (fu_eq (e_X12_isPersonAt d (by omega) s2 (Int32.toInt64 a1)) rfl)) ?_
  show fu_J _ _ (fr_X d (some .int) k_X12_far 16 [.ref 117, .int a1, .int a2] [.int (fu_b (f_X12_isPersonAt s2 (Int32.toInt64 a1)))] s2)
  refine fu_bind (V := fun j3 : Int32 × fu_S => fr_X d (some .int) k_X12_far 42 [am_U, am_U, am_U] [.int j3.1] j3.2) ?_ (fun j3 => ?_)
  · refine fu_ite (fun h4 => fu_step (fu_ib_eq_t rfl h4) ?_) (fun h4 => fu_step (fu_ib_eq_f rfl h4) ?_)
    · refine fu_go 3 (pc' := 22) (ls' := [.ref 117, .int a1, .int a2]) (st' := [.long (Int32.toInt64 a2), .ref 117]) (s' := s2) rfl ?_
      refine fu_step (fu_cV rfl rfl rfl rfl rfl (fu_recv fr_117 am_at_X12_isPersonAt rfl) (fu_eq (e_X12_isPersonAt d (by omega) s2 (Int32.toInt64 a2)) rfl)) ?_
      show fu_J _ _ (fr_X d (some .int) k_X12_far 25 [.ref 117, .int a1, .int a2] [.int (fu_b (f_X12_isPersonAt s2 (Int32.toInt64 a2)))] s2)
      refine fu_ite (fun h5 => fu_step (fu_ib_eq_t rfl h5) ?_) (fun h5 => fu_step (fu_ib_eq_f rfl h5) ?_)
      · refine fu_go 3 (pc' := 31) (ls' := [.ref 117, .int a1, .int a2]) (st' := [.int a2, .int a1, .ref 117]) (s' := s2) rfl ?_
        refine fu_bind (fu_cVJ rfl rfl rfl rfl rfl (fu_recv fr_117 am_at_X12_farBy rfl) (e_X12_farBy d (by omega) s2 a1 a2)) (fun r6 => ?_)
        show fu_J _ _ (fr_X d (some .int) k_X12_far 34 [.ref 117, .int a1, .int a2] [.int r6] s2)
        refine fu_go 1 (pc' := 42) (ls' := [.ref 117, .int a1, .int a2]) (st' := [.int r6]) (s' := s2) rfl ?_
        exact fu_leaf rfl ⟨.inl rfl, .inl rfl, .inl rfl, trivial⟩
      · refine fu_go 2 (pc' := 39) (ls' := [.ref 117, .int a1, .int a2]) (st' := [.int (2 : Int32), .ref 117]) (s' := s2) rfl ?_
        refine fu_let (fu_cVJ rfl rfl rfl rfl rfl (fu_recv fr_117 am_at_X12_refuse rfl) (e_X12_refuse d (by omega) s2 (2 : Int32))) (fun r7 => ?_)
        show fu_J _ _ (fr_X d (some .int) k_X12_far 42 [.ref 117, .int a1, .int a2] [.int r7.1] r7.2)
        exact fu_leaf rfl ⟨.inl rfl, .inl rfl, .inl rfl, trivial⟩
    · refine fu_go 2 (pc' := 39) (ls' := [.ref 117, .int a1, .int a2]) (st' := [.int (2 : Int32), .ref 117]) (s' := s2) rfl ?_
      refine fu_let (fu_cVJ rfl rfl rfl rfl rfl (fu_recv fr_117 am_at_X12_refuse rfl) (e_X12_refuse d (by omega) s2 (2 : Int32))) (fun r8 => ?_)
      show fu_J _ _ (fr_X d (some .int) k_X12_far 42 [.ref 117, .int a1, .int a2] [.int r8.1] r8.2)
      exact fu_leaf rfl ⟨.inl rfl, .inl rfl, .inl rfl, trivial⟩
  show fu_J _ _ (fr_X d (some .int) k_X12_far 42 [am_U, am_U, am_U] [.int j3.1] j3.2)
  exact fu_iret rfl rfl
/-! X12_copyHomes -/
theorem el_X12_copyHomes_62 (d : Nat) (hd : 3 ≤ d) : ∀ (n : Nat) (s : fu_S) (x1 : Int32) (x2 : Int32), fu_J (l_X12_copyHomes_62 n s x1 x2) (fun r => fr_X d (some .int) k_X12_copyHomes 95 [.ref 117, am_U, am_U] [] r) (fr_X d (some .int) k_X12_copyHomes 62 [.ref 117, .int x1, .int x2] [] s) := by
  intro n
  induction n with
  | zero => intros; exact fu_none
  | succ n ih =>
    intro s x1 x2
    rw [l_X12_copyHomes_62]
    refine fu_go 2 (pc' := 64) (ls' := [.ref 117, .int x1, .int x2]) (st' := [.ref 117, .int x2]) (s' := s) rfl ?_
    refine fu_step (fu_getR rfl fr_117 rfl rfl) ?_
    refine fu_go 1 (pc' := 68) (ls' := [.ref 117, .int x1, .int x2]) (st' := [.int (1 : Int32), .ref 122, .int x2]) (s' := s) rfl ?_
    refine fu_step (fu_ldIk (k := 1) rfl fr_122 (by decide) (by decide)) ?_
    refine fu_ite (fun h10 => fu_step (fu_ic_ge_t rfl h10) ?_) (fun h10 => fu_step (fu_ic_ge_f rfl h10) ?_)
    · refine fu_go 4 (pc' := 76) (ls' := [.ref 117, .int x1, .int x2]) (st' := [.ref 117, .int x2, .int x1, .ref 117]) (s' := s) rfl ?_
      refine fu_step (fu_getR rfl fr_117 rfl rfl) ?_
      refine fu_go 3 (pc' := 83) (ls' := [.ref 117, .int x1, .int x2]) (st' := [.int ((21 : Int32) + x2), .ref 122, .int x2, .int x1, .ref 117]) (s' := s) rfl ?_
      refine fu_guard (fun h11 => fu_step (fu_ldI rfl fr_122 h11) ?_)
      refine fu_go 1 (pc' := 85) (ls' := [.ref 117, .int x1, .int x2]) (st' := [.long (Int32.toInt64 (s.1 122 (Int32.toNatClampNeg ((21 : Int32) + x2)))), .int x2, .int x1, .ref 117]) (s' := s) rfl ?_
      refine fu_bind (fu_cVJ rfl rfl rfl rfl rfl (fu_recv fr_117 am_at_X12_write rfl) (e_X12_write d (by omega) s x1 x2 (Int32.toInt64 (s.1 122 (Int32.toNatClampNeg ((21 : Int32) + x2)))))) (fun r12 => ?_)
      show fu_J _ _ (fr_X d (some .int) k_X12_copyHomes 88 [.ref 117, .int x1, .int x2] [.int (fu_b r12.1)] r12.2)
      refine fu_go 3 (pc' := 62) (ls' := [.ref 117, .int x1, .int (x2 + (1 : Int32))]) (st' := []) (s' := r12.2) rfl ?_
      exact fu_drop (ls' := [.ref 117, .int x1, .int (x2 + (1 : Int32))]) ⟨.inr rfl, .inr rfl, .inr rfl, trivial⟩ (ih r12.2 x1 (x2 + (1 : Int32)))
    · exact fu_leaf rfl ⟨.inr rfl, .inl rfl, .inl rfl, trivial⟩
set_option maxRecDepth 100000 in
theorem e_X12_copyHomes (d : Nat) (hd : 4 ≤ d) (s : fu_S) (a1 : Int32) : fu_J (f_X12_copyHomes s a1) (fun r => some (some (.int r.1), r.2)) (am_D (fu_ho fr_sh) am_m d 325 [.ref 117, .int a1] s) := by
  obtain ⟨d, rfl⟩ : ∃ e, d = e + 1 := ⟨d - 1, by omega⟩
  refine fu_enter (ls := [.ref 117, .int a1, am_U]) am_at_X12_copyHomes rfl rfl ?_
  show fu_J _ _ (fr_X d (some .int) k_X12_copyHomes 0 [.ref 117, .int a1, am_U] [] s)
  unfold f_X12_copyHomes
  refine fu_go 2 (pc' := 2) (ls' := [.ref 117, .int a1, am_U]) (st' := [.int (0 : Int32), .ref 117]) (s' := s) rfl ?_
  refine fu_lets (b := (fu_pi s 117 1 (0 : Int32))) (fu_putI rfl fr_117 rfl rfl) (fun s1 => ?_)
  refine fu_go 2 (pc' := 7) (ls' := [.ref 117, .int a1, am_U]) (st' := [.int (0 : Int32), .ref 117]) (s' := s1) rfl ?_
  refine fu_lets (b := (fu_pi s1 117 0 (0 : Int32))) (fu_putI rfl fr_117 rfl rfl) (fun s2 => ?_)
  refine fu_go 2 (pc' := 12) (ls' := [.ref 117, .int a1, am_U]) (st' := [.int a1, .ref 117]) (s' := s2) rfl ?_
  refine fu_step (fu_cV rfl rfl rfl rfl rfl (fu_recv fr_117 am_at_X12_isTray rfl) (fu_eq (e_X12_isTray d (by omega) s2 a1) rfl)) ?_
  show fu_J _ _ (fr_X d (some .int) k_X12_copyHomes 15 [.ref 117, .int a1, am_U] [.int (fu_b (f_X12_isTray a1))] s2)
  refine fu_ite (fun h3 => fu_step (fu_ib_ne_t rfl h3) ?_) (fun h3 => fu_step (fu_ib_ne_f rfl h3) ?_)
  · refine fu_go 1 (pc' := 25) (ls' := [.ref 117, .int a1, am_U]) (st' := [.ref 117]) (s' := s2) rfl ?_
    refine fu_step (fu_getR rfl fr_117 rfl rfl) ?_
    refine fu_go 1 (pc' := 29) (ls' := [.ref 117, .int a1, am_U]) (st' := [.int a1, .ref 119]) (s' := s2) rfl ?_
    refine fu_guard (fun h4 => fu_step (fu_ldI rfl fr_119 h4) ?_)
    refine fu_ite (fun h5 => fu_step (fu_if_ge_t rfl h5) ?_) (fun h5 => fu_step (fu_if_ge_f rfl h5) ?_)
    · refine fu_go 2 (pc' := 35) (ls' := [.ref 117, .int a1, am_U]) (st' := [.int (3 : Int32), .ref 117]) (s' := s2) rfl ?_
      refine fu_let (fu_cVJ rfl rfl rfl rfl rfl (fu_recv fr_117 am_at_X12_refuse rfl) (e_X12_refuse d (by omega) s2 (3 : Int32))) (fun r6 => ?_)
      show fu_J _ _ (fr_X d (some .int) k_X12_copyHomes 38 [.ref 117, .int a1, am_U] [.int r6.1] r6.2)
      exact fu_iret rfl rfl
    · refine fu_go 1 (pc' := 40) (ls' := [.ref 117, .int a1, am_U]) (st' := [.ref 117]) (s' := s2) rfl ?_
      refine fu_step (fu_getR rfl fr_117 rfl rfl) ?_
      refine fu_go 1 (pc' := 44) (ls' := [.ref 117, .int a1, am_U]) (st' := [.int a1, .ref 119]) (s' := s2) rfl ?_
      refine fu_guard (fun h7 => fu_step (fu_ldI rfl fr_119 h7) ?_)
      refine fu_go 1 (pc' := 46) (ls' := [.ref 117, .int a1, am_U]) (st' := [.ref 117, .int (s2.1 119 (Int32.toNatClampNeg a1))]) (s' := s2) rfl ?_
      refine fu_step (fu_getR rfl fr_117 rfl rfl) ?_
      refine fu_go 1 (pc' := 50) (ls' := [.ref 117, .int a1, am_U]) (st' := [.int (1 : Int32), .ref 122, .int (s2.1 119 (Int32.toNatClampNeg a1))]) (s' := s2) rfl ?_
      refine fu_step (fu_ldIk (k := 1) rfl fr_122 (by decide) (by decide)) ?_
      refine fu_ite (fun h8 => fu_step (fu_ic_ge_t rfl h8) ?_) (fun h8 => fu_step (fu_ic_ge_f rfl h8) ?_)
      · refine fu_go 2 (pc' := 56) (ls' := [.ref 117, .int a1, am_U]) (st' := [.int (4 : Int32), .ref 117]) (s' := s2) rfl ?_
        refine fu_let (fu_cVJ rfl rfl rfl rfl rfl (fu_recv fr_117 am_at_X12_refuse rfl) (e_X12_refuse d (by omega) s2 (4 : Int32))) (fun r9 => ?_)
        show fu_J _ _ (fr_X d (some .int) k_X12_copyHomes 59 [.ref 117, .int a1, am_U] [.int r9.1] r9.2)
        exact fu_iret rfl rfl
      · refine fu_go 2 (pc' := 62) (ls' := [.ref 117, .int a1, .int (0 : Int32)]) (st' := []) (s' := s2) rfl ?_
        refine fu_drop (ls' := [.ref 117, .int a1, .int (0 : Int32)]) ⟨.inr rfl, .inr rfl, .inr rfl, trivial⟩ ?_
        refine fu_bind (el_X12_copyHomes_62 d (by omega) fu_N s2 a1 (0 : Int32)) (fun r13 => ?_)
        show fu_J _ _ (fr_X d (some .int) k_X12_copyHomes 95 [.ref 117, am_U, am_U] [] r13)
        refine fu_go 1 (pc' := 96) (ls' := [.ref 117, am_U, am_U]) (st' := [.ref 117]) (s' := r13) rfl ?_
        refine fu_step (fu_getR rfl fr_117 rfl rfl) ?_
        refine fu_go 1 (pc' := 100) (ls' := [.ref 117, am_U, am_U]) (st' := [.int (1 : Int32), .ref 122]) (s' := r13) rfl ?_
        refine fu_step (fu_ldIk (k := 1) rfl fr_122 (by decide) (by decide)) ?_
        exact fu_iret rfl rfl
  · refine fu_go 2 (pc' := 20) (ls' := [.ref 117, .int a1, am_U]) (st' := [.int (1 : Int32), .ref 117]) (s' := s2) rfl ?_
    refine fu_let (fu_cVJ rfl rfl rfl rfl rfl (fu_recv fr_117 am_at_X12_refuse rfl) (e_X12_refuse d (by omega) s2 (1 : Int32))) (fun r14 => ?_)
    show fu_J _ _ (fr_X d (some .int) k_X12_copyHomes 23 [.ref 117, .int a1, am_U] [.int r14.1] r14.2)
    exact fu_iret rfl rfl
/-! X12_lose -/
set_option maxRecDepth 100000 in
theorem e_X12_lose (d : Nat) (hd : 3 ≤ d) (s : fu_S) (a1 : Int32) (a2 : Int32) (a3 : Int32) : fu_J (f_X12_lose s a1 a2 a3) (fun r => some (some (.int r.1), r.2)) (am_D (fu_ho fr_sh) am_m d 326 [.ref 117, .int a1, .int a2, .int a3] s) := by
  obtain ⟨d, rfl⟩ : ∃ e, d = e + 1 := ⟨d - 1, by omega⟩
  refine fu_enter (ls := [.ref 117, .int a1, .int a2, .int a3]) am_at_X12_lose rfl rfl ?_
  show fu_J _ _ (fr_X d (some .int) k_X12_lose 0 [.ref 117, .int a1, .int a2, .int a3] [] s)
  unfold f_X12_lose
  refine fu_go 2 (pc' := 2) (ls' := [.ref 117, .int a1, .int a2, .int a3]) (st' := [.int (0 : Int32), .ref 117]) (s' := s) rfl ?_
  refine fu_lets (b := (fu_pi s 117 1 (0 : Int32))) (fu_putI rfl fr_117 rfl rfl) (fun s1 => ?_)
  refine fu_go 2 (pc' := 7) (ls' := [.ref 117, .int a1, .int a2, .int a3]) (st' := [.int (0 : Int32), .ref 117]) (s' := s1) rfl ?_
  refine fu_lets (b := (fu_pi s1 117 0 (0 : Int32))) (fu_putI rfl fr_117 rfl rfl) (fun s2 => ?_)
  refine fu_go 3 (pc' := 13) (ls' := [.ref 117, .int a1, .int a2, .int a3]) (st' := [.long (Int32.toInt64 a1), .ref 117]) (s' := s2) rfl ?_
  refine fu_step (fu_cV rfl rfl rfl rfl rfl (fu_recv fr_117 am_at_X12_isPersonAt rfl) (fu_eq (e_X12_isPersonAt d (by omega) s2 (Int32.toInt64 a1)) rfl)) ?_
  show fu_J _ _ (fr_X d (some .int) k_X12_lose 16 [.ref 117, .int a1, .int a2, .int a3] [.int (fu_b (f_X12_isPersonAt s2 (Int32.toInt64 a1)))] s2)
  refine fu_ite (fun h3 => fu_step (fu_ib_eq_t rfl h3) ?_) (fun h3 => fu_step (fu_ib_eq_f rfl h3) ?_)
  · refine fu_go 3 (pc' := 22) (ls' := [.ref 117, .int a1, .int a2, .int a3]) (st' := [.long (Int32.toInt64 a2), .ref 117]) (s' := s2) rfl ?_
    refine fu_step (fu_cV rfl rfl rfl rfl rfl (fu_recv fr_117 am_at_X12_isKindAt rfl) (fu_eq (e_X12_isKindAt d (by omega) s2 (Int32.toInt64 a2)) rfl)) ?_
    show fu_J _ _ (fr_X d (some .int) k_X12_lose 25 [.ref 117, .int a1, .int a2, .int a3] [.int (fu_b (f_X12_isKindAt s2 (Int32.toInt64 a2)))] s2)
    refine fu_ite (fun h4 => fu_step (fu_ib_ne_t rfl h4) ?_) (fun h4 => fu_step (fu_ib_ne_f rfl h4) ?_)
    · refine fu_go 4 (pc' := 40) (ls' := [.ref 117, .int a1, .int a2, .int a3]) (st' := [.long (9 : Int64), .long (1 : Int64), .long (Int32.toInt64 a3)]) (s' := s2) rfl ?_
      refine fu_step (fu_cS rfl rfl rfl rfl rfl rfl (fu_eq (e_X12_isIn d (by omega) s2 (Int32.toInt64 a3) (1 : Int64) (9 : Int64)) rfl)) ?_
      show fu_J _ _ (fr_X d (some .int) k_X12_lose 43 [.ref 117, .int a1, .int a2, .int a3] [.int (fu_b (f_X12_isIn (Int32.toInt64 a3) (1 : Int64) (9 : Int64)))] s2)
      refine fu_ite (fun h5 => fu_step (fu_ib_ne_t rfl h5) ?_) (fun h5 => fu_step (fu_ib_ne_f rfl h5) ?_)
      · refine fu_go 1 (pc' := 53) (ls' := [.ref 117, .int a1, .int a2, .int a3]) (st' := [.ref 117]) (s' := s2) rfl ?_
        refine fu_step (fu_getR rfl fr_117 rfl rfl) ?_
        refine fu_go 1 (pc' := 57) (ls' := [.ref 117, .int a1, .int a2, .int a3]) (st' := [.int (2 : Int32), .ref 122]) (s' := s2) rfl ?_
        refine fu_step (fu_ldIk (k := 2) rfl fr_122 (by decide) (by decide)) ?_
        refine fu_go 1 (pc' := 60) (ls' := [.ref 117, .int a1, .int a2, .int a3]) (st' := [.int (8 : Int32), .int (s2.1 122 2)]) (s' := s2) rfl ?_
        refine fu_ite (fun h6 => fu_step (fu_ic_ne_t rfl h6) ?_) (fun h6 => fu_step (fu_ic_ne_f rfl h6) ?_)
        · refine fu_go 2 (pc' := 66) (ls' := [.ref 117, .int a1, .int a2, .int a3]) (st' := [.int (7 : Int32), .ref 117]) (s' := s2) rfl ?_
          refine fu_let (fu_cVJ rfl rfl rfl rfl rfl (fu_recv fr_117 am_at_X12_refuse rfl) (e_X12_refuse d (by omega) s2 (7 : Int32))) (fun r7 => ?_)
          show fu_J _ _ (fr_X d (some .int) k_X12_lose 69 [.ref 117, .int a1, .int a2, .int a3] [.int r7.1] r7.2)
          exact fu_iret rfl rfl
        · refine fu_go 5 (pc' := 75) (ls' := [.ref 117, .int a1, .int a2, .int a3]) (st' := [.int a3, .int a2, .int a1, .int (0 : Int32), .ref 117]) (s' := s2) rfl ?_
          refine fu_bind (fu_cVJ rfl rfl rfl rfl rfl (fu_recv fr_117 am_at_X12_loses rfl) (e_X12_loses d (by omega) s2 (0 : Int32) a1 a2 a3)) (fun r8 => ?_)
          show fu_J _ _ (fr_X d (some .int) k_X12_lose 78 [.ref 117, .int a1, .int a2, .int a3] [] r8)
          refine fu_go 1 (pc' := 79) (ls' := [.ref 117, .int a1, .int a2, .int a3]) (st' := [.ref 117]) (s' := r8) rfl ?_
          refine fu_step (fu_getR rfl fr_117 rfl rfl) ?_
          refine fu_go 1 (pc' := 83) (ls' := [.ref 117, .int a1, .int a2, .int a3]) (st' := [.int (2 : Int32), .ref 122]) (s' := r8) rfl ?_
          refine fu_step (fu_ldIk (k := 2) rfl fr_122 (by decide) (by decide)) ?_
          refine fu_go 2 (pc' := 86) (ls' := [.ref 117, .int a1, .int a2, .int a3]) (st' := [.int ((r8.1 122 2) - (1 : Int32))]) (s' := r8) rfl ?_
          exact fu_iret rfl rfl
      · refine fu_go 2 (pc' := 48) (ls' := [.ref 117, .int a1, .int a2, .int a3]) (st' := [.int (5 : Int32), .ref 117]) (s' := s2) rfl ?_
        refine fu_let (fu_cVJ rfl rfl rfl rfl rfl (fu_recv fr_117 am_at_X12_refuse rfl) (e_X12_refuse d (by omega) s2 (5 : Int32))) (fun r9 => ?_)
        show fu_J _ _ (fr_X d (some .int) k_X12_lose 51 [.ref 117, .int a1, .int a2, .int a3] [.int r9.1] r9.2)
        exact fu_iret rfl rfl
    · refine fu_go 2 (pc' := 30) (ls' := [.ref 117, .int a1, .int a2, .int a3]) (st' := [.int (2 : Int32), .ref 117]) (s' := s2) rfl ?_
      refine fu_let (fu_cVJ rfl rfl rfl rfl rfl (fu_recv fr_117 am_at_X12_refuse rfl) (e_X12_refuse d (by omega) s2 (2 : Int32))) (fun r10 => ?_)
      show fu_J _ _ (fr_X d (some .int) k_X12_lose 33 [.ref 117, .int a1, .int a2, .int a3] [.int r10.1] r10.2)
      exact fu_iret rfl rfl
  · refine fu_go 2 (pc' := 30) (ls' := [.ref 117, .int a1, .int a2, .int a3]) (st' := [.int (2 : Int32), .ref 117]) (s' := s2) rfl ?_
    refine fu_let (fu_cVJ rfl rfl rfl rfl rfl (fu_recv fr_117 am_at_X12_refuse rfl) (e_X12_refuse d (by omega) s2 (2 : Int32))) (fun r11 => ?_)
    show fu_J _ _ (fr_X d (some .int) k_X12_lose 33 [.ref 117, .int a1, .int a2, .int a3] [.int r11.1] r11.2)
    exact fu_iret rfl rfl
/-! X12_pass -/
set_option maxRecDepth 100000 in
theorem e_X12_pass (d : Nat) (hd : 7 ≤ d) (s : fu_S) (a1 : Int32) : fu_J (f_X12_pass s a1) (fun r => some (some (.int r.1), r.2)) (am_D (fu_ho fr_sh) am_m d 327 [.ref 117, .int a1] s) := by
  obtain ⟨d, rfl⟩ : ∃ e, d = e + 1 := ⟨d - 1, by omega⟩
  refine fu_enter (ls := [.ref 117, .int a1]) am_at_X12_pass rfl rfl ?_
  show fu_J _ _ (fr_X d (some .int) k_X12_pass 0 [.ref 117, .int a1] [] s)
  unfold f_X12_pass
  refine fu_go 2 (pc' := 2) (ls' := [.ref 117, .int a1]) (st' := [.int (0 : Int32), .ref 117]) (s' := s) rfl ?_
  refine fu_lets (b := (fu_pi s 117 1 (0 : Int32))) (fu_putI rfl fr_117 rfl rfl) (fun s1 => ?_)
  refine fu_go 2 (pc' := 7) (ls' := [.ref 117, .int a1]) (st' := [.int (0 : Int32), .ref 117]) (s' := s1) rfl ?_
  refine fu_lets (b := (fu_pi s1 117 0 (0 : Int32))) (fu_putI rfl fr_117 rfl rfl) (fun s2 => ?_)
  refine fu_go 4 (pc' := 16) (ls' := [.ref 117, .int a1]) (st' := [.long (999 : Int64), .long (1 : Int64), .long (Int32.toInt64 a1)]) (s' := s2) rfl ?_
  refine fu_step (fu_cS rfl rfl rfl rfl rfl rfl (fu_eq (e_X12_isIn d (by omega) s2 (Int32.toInt64 a1) (1 : Int64) (999 : Int64)) rfl)) ?_
  show fu_J _ _ (fr_X d (some .int) k_X12_pass 19 [.ref 117, .int a1] [.int (fu_b (f_X12_isIn (Int32.toInt64 a1) (1 : Int64) (999 : Int64)))] s2)
  refine fu_ite (fun h3 => fu_step (fu_ib_ne_t rfl h3) ?_) (fun h3 => fu_step (fu_ib_ne_f rfl h3) ?_)
  · refine fu_go 1 (pc' := 29) (ls' := [.ref 117, .int a1]) (st' := [.ref 117]) (s' := s2) rfl ?_
    refine fu_step (fu_getR rfl fr_117 rfl rfl) ?_
    refine fu_go 1 (pc' := 33) (ls' := [.ref 117, .int a1]) (st' := [.int (5 : Int32), .ref 122]) (s' := s2) rfl ?_
    refine fu_step (fu_ldIk (k := 5) rfl fr_122 (by decide) (by decide)) ?_
    refine fu_go 3 (pc' := 39) (ls' := [.ref 117, .int a1]) (st' := [.int (9999 : Int32), .int ((s2.1 122 5) + a1)]) (s' := s2) rfl ?_
    refine fu_ite (fun h4 => fu_step (fu_ic_le_t rfl h4) ?_) (fun h4 => fu_step (fu_ic_le_f rfl h4) ?_)
    · refine fu_go 1 (pc' := 50) (ls' := [.ref 117, .int a1]) (st' := [.ref 117]) (s' := s2) rfl ?_
      refine fu_step (fu_getR rfl fr_117 rfl rfl) ?_
      refine fu_go 2 (pc' := 55) (ls' := [.ref 117, .int a1]) (st' := [.int (5 : Int32), .ref 122, .int (5 : Int32), .ref 122]) (s' := s2) rfl ?_
      refine fu_step (fu_ldIk (k := 5) rfl fr_122 (by decide) (by decide)) ?_
      refine fu_go 2 (pc' := 58) (ls' := [.ref 117, .int a1]) (st' := [.int ((s2.1 122 5) + a1), .int (5 : Int32), .ref 122]) (s' := s2) rfl ?_
      refine fu_lets (b := (fu_pi s2 122 5 ((s2.1 122 5) + a1))) (fu_stIk rfl fr_122 (by decide) (by decide)) (fun s5 => ?_)
      refine fu_go 2 (pc' := 61) (ls' := [.ref 117, .int a1]) (st' := [.int (0 : Int32), .ref 117]) (s' := s5) rfl ?_
      refine fu_bind (fu_cVJ rfl rfl rfl rfl rfl (fu_recv fr_117 am_at_X12_things rfl) (e_X12_things d (by omega) s5 (0 : Int32))) (fun r6 => ?_)
      show fu_J _ _ (fr_X d (some .int) k_X12_pass 64 [.ref 117, .int a1] [.int r6] s5)
      exact fu_iret rfl rfl
    · refine fu_go 2 (pc' := 45) (ls' := [.ref 117, .int a1]) (st' := [.int (7 : Int32), .ref 117]) (s' := s2) rfl ?_
      refine fu_let (fu_cVJ rfl rfl rfl rfl rfl (fu_recv fr_117 am_at_X12_refuse rfl) (e_X12_refuse d (by omega) s2 (7 : Int32))) (fun r7 => ?_)
      show fu_J _ _ (fr_X d (some .int) k_X12_pass 48 [.ref 117, .int a1] [.int r7.1] r7.2)
      exact fu_iret rfl rfl
  · refine fu_go 2 (pc' := 24) (ls' := [.ref 117, .int a1]) (st' := [.int (5 : Int32), .ref 117]) (s' := s2) rfl ?_
    refine fu_let (fu_cVJ rfl rfl rfl rfl rfl (fu_recv fr_117 am_at_X12_refuse rfl) (e_X12_refuse d (by omega) s2 (5 : Int32))) (fun r8 => ?_)
    show fu_J _ _ (fr_X d (some .int) k_X12_pass 27 [.ref 117, .int a1] [.int r8.1] r8.2)
    exact fu_iret rfl rfl
/-! X12_scratches -/
set_option maxRecDepth 100000 in
theorem e_X12_scratches (d : Nat) (hd : 6 ≤ d) (s : fu_S) (a1 : Int32) (a2 : Int32) : fu_J (f_X12_scratches s a1 a2) (fun r => some (some (.int (fu_b r.1)), r.2)) (am_D (fu_ho fr_sh) am_m d 328 [.ref 117, .int a1, .int a2] s) := by
  obtain ⟨d, rfl⟩ : ∃ e, d = e + 1 := ⟨d - 1, by omega⟩
  refine fu_enter (ls := [.ref 117, .int a1, .int a2]) am_at_X12_scratches rfl rfl ?_
  show fu_J _ _ (fr_X d (some .boolean) k_X12_scratches 0 [.ref 117, .int a1, .int a2] [] s)
  unfold f_X12_scratches
  refine fu_go 2 (pc' := 2) (ls' := [.ref 117, .int a1, .int a2]) (st' := [.int a2, .ref 117]) (s' := s) rfl ?_
  refine fu_step (fu_cV rfl rfl rfl rfl rfl (fu_recv fr_117 am_at_X12_isThingAt rfl) (fu_eq (e_X12_isThingAt d (by omega) s a2) rfl)) ?_
  show fu_J _ _ (fr_X d (some .boolean) k_X12_scratches 5 [.ref 117, .int a1, .int a2] [.int (fu_b (f_X12_isThingAt s a2))] s)
  refine fu_ite (fun h1 => fu_step (fu_ib_eq_t rfl h1) ?_) (fun h1 => fu_step (fu_ib_eq_f rfl h1) ?_)
  · refine fu_go 2 (pc' := 10) (ls' := [.ref 117, .int a1, .int a2]) (st' := [.int a2, .ref 117]) (s' := s) rfl ?_
    refine fu_bind (fu_cVJ rfl rfl rfl rfl rfl (fu_recv fr_117 am_at_X12_isUp rfl) (e_X12_isUp d (by omega) s a2)) (fun r2 => ?_)
    show fu_J _ _ (fr_X d (some .boolean) k_X12_scratches 13 [.ref 117, .int a1, .int a2] [.int (fu_b r2)] s)
    refine fu_ite (fun h3 => fu_step (fu_ib_eq_t rfl h3) ?_) (fun h3 => fu_step (fu_ib_eq_f rfl h3) ?_)
    · refine fu_go 3 (pc' := 19) (ls' := [.ref 117, .int a1, .int a2]) (st' := [.int a2, .int a1, .ref 117]) (s' := s) rfl ?_
      refine fu_bind (fu_cVJ rfl rfl rfl rfl rfl (fu_recv fr_117 am_at_X12_couldScratch rfl) (e_X12_couldScratch d (by omega) s a1 a2)) (fun r4 => ?_)
      show fu_J _ _ (fr_X d (some .boolean) k_X12_scratches 22 [.ref 117, .int a1, .int a2] [.int (fu_b r4)] s)
      refine fu_ite (fun h5 => fu_step (fu_ib_ne_t rfl h5) ?_) (fun h5 => fu_step (fu_ib_ne_f rfl h5) ?_)
      · refine fu_go 1 (pc' := 28) (ls' := [.ref 117, .int a1, .int a2]) (st' := [.ref 117]) (s' := s) rfl ?_
        refine fu_step (fu_getR rfl fr_117 rfl rfl) ?_
        refine fu_go 4 (pc' := 36) (ls' := [.ref 117, .int a1, .int a2]) (st' := [.ref 117, .int ((67 : Int32) + a2), .ref 122]) (s' := s) rfl ?_
        refine fu_step (fu_getR rfl fr_117 rfl rfl) ?_
        refine fu_go 1 (pc' := 40) (ls' := [.ref 117, .int a1, .int a2]) (st' := [.int (5 : Int32), .ref 122, .int ((67 : Int32) + a2), .ref 122]) (s' := s) rfl ?_
        refine fu_step (fu_ldIk (k := 5) rfl fr_122 (by decide) (by decide)) ?_
        refine fu_go 2 (pc' := 43) (ls' := [.ref 117, .int a1, .int a2]) (st' := [.int ((s.1 122 5) + (1 : Int32)), .int ((67 : Int32) + a2), .ref 122]) (s' := s) rfl ?_
        refine fu_guard (fun h7 => fu_lets (b := (fu_pi s 122 (Int32.toNatClampNeg ((67 : Int32) + a2)) ((s.1 122 5) + (1 : Int32)))) (fu_stI rfl fr_122 h7) (fun s6 => ?_))
        refine fu_go 1 (pc' := 45) (ls' := [.ref 117, .int a1, .int a2]) (st' := [.ref 117]) (s' := s6) rfl ?_
        refine fu_step (fu_getR rfl fr_117 rfl rfl) ?_
        refine fu_go 4 (pc' := 53) (ls' := [.ref 117, .int a1, .int a2]) (st' := [.ref 117, .int ((75 : Int32) + a2), .ref 122]) (s' := s6) rfl ?_
        refine fu_step (fu_getR rfl fr_117 rfl rfl) ?_
        refine fu_go 1 (pc' := 57) (ls' := [.ref 117, .int a1, .int a2]) (st' := [.int (5 : Int32), .ref 122, .int ((75 : Int32) + a2), .ref 122]) (s' := s6) rfl ?_
        refine fu_step (fu_ldIk (k := 5) rfl fr_122 (by decide) (by decide)) ?_
        refine fu_go 2 (pc' := 60) (ls' := [.ref 117, .int a1, .int a2]) (st' := [.int a2, .ref 117, .int (s6.1 122 5), .int ((75 : Int32) + a2), .ref 122]) (s' := s6) rfl ?_
        refine fu_bind (fu_cVJ rfl rfl rfl rfl rfl (fu_recv fr_117 am_at_X12_wayOf rfl) (e_X12_wayOf d (by omega) s6 a2)) (fun r8 => ?_)
        show fu_J _ _ (fr_X d (some .boolean) k_X12_scratches 63 [.ref 117, .int a1, .int a2] [.int r8, .int (s6.1 122 5), .int ((75 : Int32) + a2), .ref 122] s6)
        refine fu_go 1 (pc' := 64) (ls' := [.ref 117, .int a1, .int a2]) (st' := [.int ((s6.1 122 5) + r8), .int ((75 : Int32) + a2), .ref 122]) (s' := s6) rfl ?_
        refine fu_guard (fun h10 => fu_lets (b := (fu_pi s6 122 (Int32.toNatClampNeg ((75 : Int32) + a2)) ((s6.1 122 5) + r8))) (fu_stI rfl fr_122 h10) (fun s9 => ?_))
        refine fu_go 1 (pc' := 66) (ls' := [.ref 117, .int a1, .int a2]) (st' := [.int (1 : Int32)]) (s' := s9) rfl ?_
        exact fu_bret (b := true) rfl rfl
      · refine fu_go 1 (pc' := 26) (ls' := [.ref 117, .int a1, .int a2]) (st' := [.int (0 : Int32)]) (s' := s) rfl ?_
        exact fu_bret (b := false) rfl rfl
    · refine fu_go 1 (pc' := 26) (ls' := [.ref 117, .int a1, .int a2]) (st' := [.int (0 : Int32)]) (s' := s) rfl ?_
      exact fu_bret (b := false) rfl rfl
  · refine fu_go 1 (pc' := 26) (ls' := [.ref 117, .int a1, .int a2]) (st' := [.int (0 : Int32)]) (s' := s) rfl ?_
    exact fu_bret (b := false) rfl rfl
/-! X12_scratch -/
set_option maxRecDepth 100000 in
theorem e_X12_scratch (d : Nat) (hd : 7 ≤ d) (s : fu_S) (a1 : Int32) (a2 : Int32) : fu_J (f_X12_scratch s a1 a2) (fun r => some (some (.int r.1), r.2)) (am_D (fu_ho fr_sh) am_m d 329 [.ref 117, .int a1, .int a2] s) := by
  obtain ⟨d, rfl⟩ : ∃ e, d = e + 1 := ⟨d - 1, by omega⟩
  refine fu_enter (ls := [.ref 117, .int a1, .int a2]) am_at_X12_scratch rfl rfl ?_
  show fu_J _ _ (fr_X d (some .int) k_X12_scratch 0 [.ref 117, .int a1, .int a2] [] s)
  unfold f_X12_scratch
  refine fu_go 2 (pc' := 2) (ls' := [.ref 117, .int a1, .int a2]) (st' := [.int (0 : Int32), .ref 117]) (s' := s) rfl ?_
  refine fu_lets (b := (fu_pi s 117 1 (0 : Int32))) (fu_putI rfl fr_117 rfl rfl) (fun s1 => ?_)
  refine fu_go 2 (pc' := 7) (ls' := [.ref 117, .int a1, .int a2]) (st' := [.int (0 : Int32), .ref 117]) (s' := s1) rfl ?_
  refine fu_lets (b := (fu_pi s1 117 0 (0 : Int32))) (fu_putI rfl fr_117 rfl rfl) (fun s2 => ?_)
  refine fu_go 3 (pc' := 13) (ls' := [.ref 117, .int a1, .int a2]) (st' := [.long (Int32.toInt64 a1), .ref 117]) (s' := s2) rfl ?_
  refine fu_step (fu_cV rfl rfl rfl rfl rfl (fu_recv fr_117 am_at_X12_isPersonAt rfl) (fu_eq (e_X12_isPersonAt d (by omega) s2 (Int32.toInt64 a1)) rfl)) ?_
  show fu_J _ _ (fr_X d (some .int) k_X12_scratch 16 [.ref 117, .int a1, .int a2] [.int (fu_b (f_X12_isPersonAt s2 (Int32.toInt64 a1)))] s2)
  refine fu_ite (fun h3 => fu_step (fu_ib_eq_t rfl h3) ?_) (fun h3 => fu_step (fu_ib_eq_f rfl h3) ?_)
  · refine fu_go 2 (pc' := 21) (ls' := [.ref 117, .int a1, .int a2]) (st' := [.int a2, .ref 117]) (s' := s2) rfl ?_
    refine fu_step (fu_cV rfl rfl rfl rfl rfl (fu_recv fr_117 am_at_X12_isThingAt rfl) (fu_eq (e_X12_isThingAt d (by omega) s2 a2) rfl)) ?_
    show fu_J _ _ (fr_X d (some .int) k_X12_scratch 24 [.ref 117, .int a1, .int a2] [.int (fu_b (f_X12_isThingAt s2 a2))] s2)
    refine fu_ite (fun h4 => fu_step (fu_ib_ne_t rfl h4) ?_) (fun h4 => fu_step (fu_ib_ne_f rfl h4) ?_)
    · refine fu_go 3 (pc' := 36) (ls' := [.ref 117, .int a1, .int a2]) (st' := [.int a2, .int a1, .ref 117]) (s' := s2) rfl ?_
      refine fu_bind (fu_cVJ rfl rfl rfl rfl rfl (fu_recv fr_117 am_at_X12_scratches rfl) (e_X12_scratches d (by omega) s2 a1 a2)) (fun r5 => ?_)
      show fu_J _ _ (fr_X d (some .int) k_X12_scratch 39 [.ref 117, .int a1, .int a2] [.int (fu_b r5.1)] r5.2)
      refine fu_bind (V := fun j6 : Int32 × fu_S => fr_X d (some .int) k_X12_scratch 60 [am_U, am_U, am_U] [.int j6.1] j6.2) ?_ (fun j6 => ?_)
      · refine fu_ite (fun h7 => fu_step (fu_ib_eq_t rfl h7) ?_) (fun h7 => fu_step (fu_ib_eq_f rfl h7) ?_)
        · refine fu_go 1 (pc' := 43) (ls' := [.ref 117, .int a1, .int a2]) (st' := [.ref 117]) (s' := r5.2) rfl ?_
          refine fu_step (fu_getR rfl fr_117 rfl rfl) ?_
          refine fu_go 3 (pc' := 50) (ls' := [.ref 117, .int a1, .int a2]) (st' := [.int ((75 : Int32) + a2), .ref 122]) (s' := r5.2) rfl ?_
          refine fu_guard (fun h8 => fu_step (fu_ldI rfl fr_122 h8) ?_)
          refine fu_go 1 (pc' := 60) (ls' := [.ref 117, .int a1, .int a2]) (st' := [.int (r5.2.1 122 (Int32.toNatClampNeg ((75 : Int32) + a2)))]) (s' := r5.2) rfl ?_
          exact fu_leaf rfl ⟨.inl rfl, .inl rfl, .inl rfl, trivial⟩
        · refine fu_go 2 (pc' := 57) (ls' := [.ref 117, .int a1, .int a2]) (st' := [.int (9 : Int32), .ref 117]) (s' := r5.2) rfl ?_
          refine fu_let (fu_cVJ rfl rfl rfl rfl rfl (fu_recv fr_117 am_at_X12_refuse rfl) (e_X12_refuse d (by omega) r5.2 (9 : Int32))) (fun r9 => ?_)
          show fu_J _ _ (fr_X d (some .int) k_X12_scratch 60 [.ref 117, .int a1, .int a2] [.int r9.1] r9.2)
          exact fu_leaf rfl ⟨.inl rfl, .inl rfl, .inl rfl, trivial⟩
      show fu_J _ _ (fr_X d (some .int) k_X12_scratch 60 [am_U, am_U, am_U] [.int j6.1] j6.2)
      exact fu_iret rfl rfl
    · refine fu_go 2 (pc' := 29) (ls' := [.ref 117, .int a1, .int a2]) (st' := [.int (2 : Int32), .ref 117]) (s' := s2) rfl ?_
      refine fu_let (fu_cVJ rfl rfl rfl rfl rfl (fu_recv fr_117 am_at_X12_refuse rfl) (e_X12_refuse d (by omega) s2 (2 : Int32))) (fun r10 => ?_)
      show fu_J _ _ (fr_X d (some .int) k_X12_scratch 32 [.ref 117, .int a1, .int a2] [.int r10.1] r10.2)
      exact fu_iret rfl rfl
  · refine fu_go 2 (pc' := 29) (ls' := [.ref 117, .int a1, .int a2]) (st' := [.int (2 : Int32), .ref 117]) (s' := s2) rfl ?_
    refine fu_let (fu_cVJ rfl rfl rfl rfl rfl (fu_recv fr_117 am_at_X12_refuse rfl) (e_X12_refuse d (by omega) s2 (2 : Int32))) (fun r11 => ?_)
    show fu_J _ _ (fr_X d (some .int) k_X12_scratch 32 [.ref 117, .int a1, .int a2] [.int r11.1] r11.2)
    exact fu_iret rfl rfl
/-! X12_teach -/
set_option maxRecDepth 100000 in
theorem e_X12_teach (d : Nat) (hd : 3 ≤ d) (s : fu_S) (a1 : Int32) (a2 : Int32) (a3 : Bool) : fu_J (f_X12_teach s a1 a2 a3) (fun r => some (some (.int (fu_b r.1)), r.2)) (am_D (fu_ho fr_sh) am_m d 330 [.ref 117, .int a1, .int a2, .int (fu_b a3)] s) := by
  obtain ⟨d, rfl⟩ : ∃ e, d = e + 1 := ⟨d - 1, by omega⟩
  refine fu_enter (ls := [.ref 117, .int a1, .int a2, .int (fu_b a3)]) am_at_X12_teach rfl rfl ?_
  show fu_J _ _ (fr_X d (some .boolean) k_X12_teach 0 [.ref 117, .int a1, .int a2, .int (fu_b a3)] [] s)
  unfold f_X12_teach
  refine fu_go 2 (pc' := 2) (ls' := [.ref 117, .int a1, .int a2, .int (fu_b a3)]) (st' := [.int (0 : Int32), .ref 117]) (s' := s) rfl ?_
  refine fu_lets (b := (fu_pi s 117 1 (0 : Int32))) (fu_putI rfl fr_117 rfl rfl) (fun s1 => ?_)
  refine fu_go 2 (pc' := 7) (ls' := [.ref 117, .int a1, .int a2, .int (fu_b a3)]) (st' := [.int (0 : Int32), .ref 117]) (s' := s1) rfl ?_
  refine fu_lets (b := (fu_pi s1 117 0 (0 : Int32))) (fu_putI rfl fr_117 rfl rfl) (fun s2 => ?_)
  refine fu_go 3 (pc' := 13) (ls' := [.ref 117, .int a1, .int a2, .int (fu_b a3)]) (st' := [.long (Int32.toInt64 a1), .ref 117]) (s' := s2) rfl ?_
  refine fu_step (fu_cV rfl rfl rfl rfl rfl (fu_recv fr_117 am_at_X12_isPersonAt rfl) (fu_eq (e_X12_isPersonAt d (by omega) s2 (Int32.toInt64 a1)) rfl)) ?_
  show fu_J _ _ (fr_X d (some .boolean) k_X12_teach 16 [.ref 117, .int a1, .int a2, .int (fu_b a3)] [.int (fu_b (f_X12_isPersonAt s2 (Int32.toInt64 a1)))] s2)
  refine fu_ite (fun h3 => fu_step (fu_ib_eq_t rfl h3) ?_) (fun h3 => fu_step (fu_ib_eq_f rfl h3) ?_)
  · refine fu_go 1 (pc' := 20) (ls' := [.ref 117, .int a1, .int a2, .int (fu_b a3)]) (st' := [.int a2]) (s' := s2) rfl ?_
    refine fu_step (fu_cS rfl rfl rfl rfl rfl rfl (fu_eq (e_X12_isSpotAt d (by omega) s2 a2) rfl)) ?_
    show fu_J _ _ (fr_X d (some .boolean) k_X12_teach 23 [.ref 117, .int a1, .int a2, .int (fu_b a3)] [.int (fu_b (f_X12_isSpotAt a2))] s2)
    refine fu_ite (fun h4 => fu_step (fu_ib_ne_t rfl h4) ?_) (fun h4 => fu_step (fu_ib_ne_f rfl h4) ?_)
    · refine fu_go 1 (pc' := 33) (ls' := [.ref 117, .int a1, .int a2, .int (fu_b a3)]) (st' := [.ref 117]) (s' := s2) rfl ?_
      refine fu_step (fu_getR rfl fr_117 rfl rfl) ?_
      refine fu_go 3 (pc' := 40) (ls' := [.ref 117, .int a1, .int a2, .int (fu_b a3)]) (st' := [.int ((28 : Int32) + a1), .ref 122]) (s' := s2) rfl ?_
      refine fu_guard (fun h5 => fu_step (fu_ldI rfl fr_122 h5) ?_)
      refine fu_go 1 (pc' := 42) (ls' := [.ref 117, .int a1, .int a2, .int (fu_b a3)]) (st' := [.int a2, .int (s2.1 122 (Int32.toNatClampNeg ((28 : Int32) + a1)))]) (s' := s2) rfl ?_
      refine fu_step (fu_cS rfl rfl rfl rfl rfl rfl (fu_eq (e_X12_has d (by omega) s2 (s2.1 122 (Int32.toNatClampNeg ((28 : Int32) + a1))) a2) rfl)) ?_
      show fu_J _ _ (fr_X d (some .boolean) k_X12_teach 45 [.ref 117, .int a1, .int a2, .int (fu_b a3)] [.int (fu_b (f_X12_has (s2.1 122 (Int32.toNatClampNeg ((28 : Int32) + a1))) a2))] s2)
      refine fu_go 1 (pc' := 46) (ls' := [.ref 117, .int a1, .int a2, .int (fu_b a3)]) (st' := [.int (fu_b a3), .int (fu_b (f_X12_has (s2.1 122 (Int32.toNatClampNeg ((28 : Int32) + a1))) a2))]) (s' := s2) rfl ?_
      refine fu_ite (fun h6 => fu_step (fu_ic_ne_t rfl h6) ?_) (fun h6 => fu_step (fu_ic_ne_f rfl h6) ?_)
      · refine fu_go 2 (pc' := 52) (ls' := [.ref 117, .int a1, .int a2, .int (fu_b a3)]) (st' := [.int (9 : Int32), .ref 117]) (s' := s2) rfl ?_
        refine fu_let (fu_cVJ rfl rfl rfl rfl rfl (fu_recv fr_117 am_at_X12_no rfl) (e_X12_no d (by omega) s2 (9 : Int32))) (fun r7 => ?_)
        show fu_J _ _ (fr_X d (some .boolean) k_X12_teach 55 [.ref 117, .int a1, .int a2, .int (fu_b a3)] [.int (fu_b r7.1)] r7.2)
        exact fu_bret (b := r7.1) rfl rfl
      · refine fu_go 1 (pc' := 57) (ls' := [.ref 117, .int a1, .int a2, .int (fu_b a3)]) (st' := [.ref 117]) (s' := s2) rfl ?_
        refine fu_step (fu_getR rfl fr_117 rfl rfl) ?_
        refine fu_go 4 (pc' := 65) (ls' := [.ref 117, .int a1, .int a2, .int (fu_b a3)]) (st' := [.int ((28 : Int32) + a1), .ref 122, .int ((28 : Int32) + a1), .ref 122]) (s' := s2) rfl ?_
        refine fu_guard (fun h8 => fu_step (fu_ldI rfl fr_122 h8) ?_)
        refine fu_go 4 (pc' := 70) (ls' := [.ref 117, .int a1, .int a2, .int (fu_b a3)]) (st' := [.int ((s2.1 122 (Int32.toNatClampNeg ((28 : Int32) + a1))) ^^^ ((1 : Int32) <<< (a2 &&& 31))), .int ((28 : Int32) + a1), .ref 122]) (s' := s2) rfl ?_
        refine fu_guard (fun h10 => fu_lets (b := (fu_pi s2 122 (Int32.toNatClampNeg ((28 : Int32) + a1)) ((s2.1 122 (Int32.toNatClampNeg ((28 : Int32) + a1))) ^^^ ((1 : Int32) <<< (a2 &&& 31))))) (fu_stI rfl fr_122 h10) (fun s9 => ?_))
        refine fu_go 1 (pc' := 72) (ls' := [.ref 117, .int a1, .int a2, .int (fu_b a3)]) (st' := [.int (1 : Int32)]) (s' := s9) rfl ?_
        exact fu_bret (b := true) rfl rfl
    · refine fu_go 2 (pc' := 28) (ls' := [.ref 117, .int a1, .int a2, .int (fu_b a3)]) (st' := [.int (2 : Int32), .ref 117]) (s' := s2) rfl ?_
      refine fu_let (fu_cVJ rfl rfl rfl rfl rfl (fu_recv fr_117 am_at_X12_no rfl) (e_X12_no d (by omega) s2 (2 : Int32))) (fun r11 => ?_)
      show fu_J _ _ (fr_X d (some .boolean) k_X12_teach 31 [.ref 117, .int a1, .int a2, .int (fu_b a3)] [.int (fu_b r11.1)] r11.2)
      exact fu_bret (b := r11.1) rfl rfl
  · refine fu_go 2 (pc' := 28) (ls' := [.ref 117, .int a1, .int a2, .int (fu_b a3)]) (st' := [.int (2 : Int32), .ref 117]) (s' := s2) rfl ?_
    refine fu_let (fu_cVJ rfl rfl rfl rfl rfl (fu_recv fr_117 am_at_X12_no rfl) (e_X12_no d (by omega) s2 (2 : Int32))) (fun r12 => ?_)
    show fu_J _ _ (fr_X d (some .boolean) k_X12_teach 31 [.ref 117, .int a1, .int a2, .int (fu_b a3)] [.int (fu_b r12.1)] r12.2)
    exact fu_bret (b := r12.1) rfl rfl
/-! X12_move -/
set_option maxRecDepth 100000 in
theorem e_X12_move (d : Nat) (hd : 3 ≤ d) (s : fu_S) (a1 : Int32) (a2 : Int32) : fu_J (f_X12_move s a1 a2) (fun r => some (some (.int r.1), r.2)) (am_D (fu_ho fr_sh) am_m d 331 [.ref 117, .int a1, .int a2] s) := by
  obtain ⟨d, rfl⟩ : ∃ e, d = e + 1 := ⟨d - 1, by omega⟩
  refine fu_enter (ls := [.ref 117, .int a1, .int a2, am_U]) am_at_X12_move rfl rfl ?_
  show fu_J _ _ (fr_X d (some .int) k_X12_move 0 [.ref 117, .int a1, .int a2, am_U] [] s)
  unfold f_X12_move
  refine fu_go 2 (pc' := 2) (ls' := [.ref 117, .int a1, .int a2, am_U]) (st' := [.int (0 : Int32), .ref 117]) (s' := s) rfl ?_
  refine fu_lets (b := (fu_pi s 117 1 (0 : Int32))) (fu_putI rfl fr_117 rfl rfl) (fun s1 => ?_)
  refine fu_go 2 (pc' := 7) (ls' := [.ref 117, .int a1, .int a2, am_U]) (st' := [.int (0 : Int32), .ref 117]) (s' := s1) rfl ?_
  refine fu_lets (b := (fu_pi s1 117 0 (0 : Int32))) (fu_putI rfl fr_117 rfl rfl) (fun s2 => ?_)
  refine fu_go 3 (pc' := 13) (ls' := [.ref 117, .int a1, .int a2, am_U]) (st' := [.long (Int32.toInt64 a1), .ref 117]) (s' := s2) rfl ?_
  refine fu_step (fu_cV rfl rfl rfl rfl rfl (fu_recv fr_117 am_at_X12_isPersonAt rfl) (fu_eq (e_X12_isPersonAt d (by omega) s2 (Int32.toInt64 a1)) rfl)) ?_
  show fu_J _ _ (fr_X d (some .int) k_X12_move 16 [.ref 117, .int a1, .int a2, am_U] [.int (fu_b (f_X12_isPersonAt s2 (Int32.toInt64 a1)))] s2)
  refine fu_ite (fun h3 => fu_step (fu_ib_ne_t rfl h3) ?_) (fun h3 => fu_step (fu_ib_ne_f rfl h3) ?_)
  · refine fu_go 4 (pc' := 31) (ls' := [.ref 117, .int a1, .int a2, am_U]) (st' := [.long (59 : Int64), .long (0 : Int64), .long (Int32.toInt64 a2)]) (s' := s2) rfl ?_
    refine fu_step (fu_cS rfl rfl rfl rfl rfl rfl (fu_eq (e_X12_isIn d (by omega) s2 (Int32.toInt64 a2) (0 : Int64) (59 : Int64)) rfl)) ?_
    show fu_J _ _ (fr_X d (some .int) k_X12_move 34 [.ref 117, .int a1, .int a2, am_U] [.int (fu_b (f_X12_isIn (Int32.toInt64 a2) (0 : Int64) (59 : Int64)))] s2)
    refine fu_ite (fun h4 => fu_step (fu_ib_ne_t rfl h4) ?_) (fun h4 => fu_step (fu_ib_ne_f rfl h4) ?_)
    · refine fu_go 1 (pc' := 44) (ls' := [.ref 117, .int a1, .int a2, am_U]) (st' := [.ref 117]) (s' := s2) rfl ?_
      refine fu_step (fu_getR rfl fr_117 rfl rfl) ?_
      refine fu_go 3 (pc' := 51) (ls' := [.ref 117, .int a1, .int a2, am_U]) (st' := [.int ((21 : Int32) + a1), .ref 122]) (s' := s2) rfl ?_
      refine fu_guard (fun h5 => fu_step (fu_ldI rfl fr_122 h5) ?_)
      refine fu_go 2 (pc' := 54) (ls' := [.ref 117, .int a1, .int a2, .int (s2.1 122 (Int32.toNatClampNeg ((21 : Int32) + a1)))]) (st' := [.ref 117]) (s' := s2) rfl ?_
      refine fu_step (fu_getR rfl fr_117 rfl rfl) ?_
      refine fu_go 4 (pc' := 62) (ls' := [.ref 117, .int a1, .int a2, .int (s2.1 122 (Int32.toNatClampNeg ((21 : Int32) + a1)))]) (st' := [.int a2, .int ((21 : Int32) + a1), .ref 122]) (s' := s2) rfl ?_
      refine fu_guard (fun h7 => fu_lets (b := (fu_pi s2 122 (Int32.toNatClampNeg ((21 : Int32) + a1)) a2)) (fu_stI rfl fr_122 h7) (fun s6 => ?_))
      refine fu_go 1 (pc' := 64) (ls' := [.ref 117, .int a1, .int a2, .int (s2.1 122 (Int32.toNatClampNeg ((21 : Int32) + a1)))]) (st' := [.int (s2.1 122 (Int32.toNatClampNeg ((21 : Int32) + a1)))]) (s' := s6) rfl ?_
      exact fu_iret rfl rfl
    · refine fu_go 2 (pc' := 39) (ls' := [.ref 117, .int a1, .int a2, am_U]) (st' := [.int (5 : Int32), .ref 117]) (s' := s2) rfl ?_
      refine fu_let (fu_cVJ rfl rfl rfl rfl rfl (fu_recv fr_117 am_at_X12_refuse rfl) (e_X12_refuse d (by omega) s2 (5 : Int32))) (fun r8 => ?_)
      show fu_J _ _ (fr_X d (some .int) k_X12_move 42 [.ref 117, .int a1, .int a2, am_U] [.int r8.1] r8.2)
      exact fu_iret rfl rfl
  · refine fu_go 2 (pc' := 21) (ls' := [.ref 117, .int a1, .int a2, am_U]) (st' := [.int (2 : Int32), .ref 117]) (s' := s2) rfl ?_
    refine fu_let (fu_cVJ rfl rfl rfl rfl rfl (fu_recv fr_117 am_at_X12_refuse rfl) (e_X12_refuse d (by omega) s2 (2 : Int32))) (fun r9 => ?_)
    show fu_J _ _ (fr_X d (some .int) k_X12_move 24 [.ref 117, .int a1, .int a2, am_U] [.int r9.1] r9.2)
    exact fu_iret rfl rfl
/-! X12_come -/
set_option maxRecDepth 100000 in
theorem e_X12_come (d : Nat) (hd : 2 ≤ d) (s : fu_S) (a1 : Int32) : fu_J (f_X12_come s a1) (fun r => some (some (.int r.1), r.2)) (am_D (fu_ho fr_sh) am_m d 332 [.ref 117, .int a1] s) := by
  obtain ⟨d, rfl⟩ : ∃ e, d = e + 1 := ⟨d - 1, by omega⟩
  refine fu_enter (ls := [.ref 117, .int a1, am_U]) am_at_X12_come rfl rfl ?_
  show fu_J _ _ (fr_X d (some .int) k_X12_come 0 [.ref 117, .int a1, am_U] [] s)
  unfold f_X12_come
  refine fu_go 2 (pc' := 2) (ls' := [.ref 117, .int a1, am_U]) (st' := [.int (0 : Int32), .ref 117]) (s' := s) rfl ?_
  refine fu_lets (b := (fu_pi s 117 1 (0 : Int32))) (fu_putI rfl fr_117 rfl rfl) (fun s1 => ?_)
  refine fu_go 2 (pc' := 7) (ls' := [.ref 117, .int a1, am_U]) (st' := [.int (0 : Int32), .ref 117]) (s' := s1) rfl ?_
  refine fu_lets (b := (fu_pi s1 117 0 (0 : Int32))) (fu_putI rfl fr_117 rfl rfl) (fun s2 => ?_)
  refine fu_go 4 (pc' := 16) (ls' := [.ref 117, .int a1, am_U]) (st' := [.long (59 : Int64), .long (0 : Int64), .long (Int32.toInt64 a1)]) (s' := s2) rfl ?_
  refine fu_step (fu_cS rfl rfl rfl rfl rfl rfl (fu_eq (e_X12_isIn d (by omega) s2 (Int32.toInt64 a1) (0 : Int64) (59 : Int64)) rfl)) ?_
  show fu_J _ _ (fr_X d (some .int) k_X12_come 19 [.ref 117, .int a1, am_U] [.int (fu_b (f_X12_isIn (Int32.toInt64 a1) (0 : Int64) (59 : Int64)))] s2)
  refine fu_ite (fun h3 => fu_step (fu_ib_ne_t rfl h3) ?_) (fun h3 => fu_step (fu_ib_ne_f rfl h3) ?_)
  · refine fu_go 1 (pc' := 29) (ls' := [.ref 117, .int a1, am_U]) (st' := [.ref 117]) (s' := s2) rfl ?_
    refine fu_step (fu_getR rfl fr_117 rfl rfl) ?_
    refine fu_go 1 (pc' := 33) (ls' := [.ref 117, .int a1, am_U]) (st' := [.int (1 : Int32), .ref 122]) (s' := s2) rfl ?_
    refine fu_step (fu_ldIk (k := 1) rfl fr_122 (by decide) (by decide)) ?_
    refine fu_go 3 (pc' := 38) (ls' := [.ref 117, .int a1, .int (s2.1 122 1)]) (st' := [.int (7 : Int32), .int (s2.1 122 1)]) (s' := s2) rfl ?_
    refine fu_ite (fun h4 => fu_step (fu_ic_ne_t rfl h4) ?_) (fun h4 => fu_step (fu_ic_ne_f rfl h4) ?_)
    · refine fu_go 2 (pc' := 44) (ls' := [.ref 117, .int a1, .int (s2.1 122 1)]) (st' := [.int (7 : Int32), .ref 117]) (s' := s2) rfl ?_
      refine fu_let (fu_cVJ rfl rfl rfl rfl rfl (fu_recv fr_117 am_at_X12_refuse rfl) (e_X12_refuse d (by omega) s2 (7 : Int32))) (fun r5 => ?_)
      show fu_J _ _ (fr_X d (some .int) k_X12_come 47 [.ref 117, .int a1, .int (s2.1 122 1)] [.int r5.1] r5.2)
      exact fu_iret rfl rfl
    · refine fu_go 1 (pc' := 49) (ls' := [.ref 117, .int a1, .int (s2.1 122 1)]) (st' := [.ref 117]) (s' := s2) rfl ?_
      refine fu_step (fu_getR rfl fr_117 rfl rfl) ?_
      refine fu_go 2 (pc' := 54) (ls' := [.ref 117, .int a1, .int (s2.1 122 1)]) (st' := [.long (0 : Int64), .int (s2.1 122 1), .ref 124]) (s' := s2) rfl ?_
      refine fu_guard (fun h7 => fu_lets (b := (fu_pl s2 124 (Int32.toNatClampNeg (s2.1 122 1)) (0 : Int64))) (fu_stL rfl fr_124 h7) (fun s6 => ?_))
      refine fu_go 1 (pc' := 56) (ls' := [.ref 117, .int a1, .int (s2.1 122 1)]) (st' := [.ref 117]) (s' := s6) rfl ?_
      refine fu_step (fu_getR rfl fr_117 rfl rfl) ?_
      refine fu_go 4 (pc' := 64) (ls' := [.ref 117, .int a1, .int (s2.1 122 1)]) (st' := [.int a1, .int ((21 : Int32) + (s2.1 122 1)), .ref 122]) (s' := s6) rfl ?_
      refine fu_guard (fun h9 => fu_lets (b := (fu_pi s6 122 (Int32.toNatClampNeg ((21 : Int32) + (s2.1 122 1))) a1)) (fu_stI rfl fr_122 h9) (fun s8 => ?_))
      refine fu_go 1 (pc' := 66) (ls' := [.ref 117, .int a1, .int (s2.1 122 1)]) (st' := [.ref 117]) (s' := s8) rfl ?_
      refine fu_step (fu_getR rfl fr_117 rfl rfl) ?_
      refine fu_go 4 (pc' := 74) (ls' := [.ref 117, .int a1, .int (s2.1 122 1)]) (st' := [.int (0 : Int32), .int ((28 : Int32) + (s2.1 122 1)), .ref 122]) (s' := s8) rfl ?_
      refine fu_guard (fun h11 => fu_lets (b := (fu_pi s8 122 (Int32.toNatClampNeg ((28 : Int32) + (s2.1 122 1))) (0 : Int32))) (fu_stI rfl fr_122 h11) (fun s10 => ?_))
      refine fu_go 1 (pc' := 76) (ls' := [.ref 117, .int a1, .int (s2.1 122 1)]) (st' := [.ref 117]) (s' := s10) rfl ?_
      refine fu_step (fu_getR rfl fr_117 rfl rfl) ?_
      refine fu_go 2 (pc' := 81) (ls' := [.ref 117, .int a1, .int (s2.1 122 1)]) (st' := [.int (1 : Int32), .ref 122, .int (1 : Int32), .ref 122]) (s' := s10) rfl ?_
      refine fu_step (fu_ldIk (k := 1) rfl fr_122 (by decide) (by decide)) ?_
      refine fu_go 2 (pc' := 84) (ls' := [.ref 117, .int a1, .int (s2.1 122 1)]) (st' := [.int ((s10.1 122 1) + (1 : Int32)), .int (1 : Int32), .ref 122]) (s' := s10) rfl ?_
      refine fu_lets (b := (fu_pi s10 122 1 ((s10.1 122 1) + (1 : Int32)))) (fu_stIk rfl fr_122 (by decide) (by decide)) (fun s12 => ?_)
      refine fu_go 1 (pc' := 86) (ls' := [.ref 117, .int a1, .int (s2.1 122 1)]) (st' := [.int (s2.1 122 1)]) (s' := s12) rfl ?_
      exact fu_iret rfl rfl
  · refine fu_go 2 (pc' := 24) (ls' := [.ref 117, .int a1, am_U]) (st' := [.int (5 : Int32), .ref 117]) (s' := s2) rfl ?_
    refine fu_let (fu_cVJ rfl rfl rfl rfl rfl (fu_recv fr_117 am_at_X12_refuse rfl) (e_X12_refuse d (by omega) s2 (5 : Int32))) (fun r13 => ?_)
    show fu_J _ _ (fr_X d (some .int) k_X12_come 27 [.ref 117, .int a1, am_U] [.int r13.1] r13.2)
    exact fu_iret rfl rfl
/-! X12_rewrite -/
set_option maxRecDepth 100000 in
theorem e_X12_rewrite (d : Nat) (hd : 3 ≤ d) (s : fu_S) (a1 : Int32) (a2 : Int32) (a3 : Int32) : fu_J (f_X12_rewrite s a1 a2 a3) (fun r => some (some (.int r.1), r.2)) (am_D (fu_ho fr_sh) am_m d 333 [.ref 117, .int a1, .int a2, .int a3] s) := by
  obtain ⟨d, rfl⟩ : ∃ e, d = e + 1 := ⟨d - 1, by omega⟩
  refine fu_enter (ls := [.ref 117, .int a1, .int a2, .int a3, am_U, am_U]) am_at_X12_rewrite rfl rfl ?_
  show fu_J _ _ (fr_X d (some .int) k_X12_rewrite 0 [.ref 117, .int a1, .int a2, .int a3, am_U, am_U] [] s)
  unfold f_X12_rewrite
  refine fu_go 2 (pc' := 2) (ls' := [.ref 117, .int a1, .int a2, .int a3, am_U, am_U]) (st' := [.int (0 : Int32), .ref 117]) (s' := s) rfl ?_
  refine fu_lets (b := (fu_pi s 117 1 (0 : Int32))) (fu_putI rfl fr_117 rfl rfl) (fun s1 => ?_)
  refine fu_go 2 (pc' := 7) (ls' := [.ref 117, .int a1, .int a2, .int a3, am_U, am_U]) (st' := [.int (0 : Int32), .ref 117]) (s' := s1) rfl ?_
  refine fu_lets (b := (fu_pi s1 117 0 (0 : Int32))) (fu_putI rfl fr_117 rfl rfl) (fun s2 => ?_)
  refine fu_go 3 (pc' := 13) (ls' := [.ref 117, .int a1, .int a2, .int a3, am_U, am_U]) (st' := [.long (Int32.toInt64 a1), .ref 117]) (s' := s2) rfl ?_
  refine fu_step (fu_cV rfl rfl rfl rfl rfl (fu_recv fr_117 am_at_X12_isKindAt rfl) (fu_eq (e_X12_isKindAt d (by omega) s2 (Int32.toInt64 a1)) rfl)) ?_
  show fu_J _ _ (fr_X d (some .int) k_X12_rewrite 16 [.ref 117, .int a1, .int a2, .int a3, am_U, am_U] [.int (fu_b (f_X12_isKindAt s2 (Int32.toInt64 a1)))] s2)
  refine fu_ite (fun h3 => fu_step (fu_ib_ne_t rfl h3) ?_) (fun h3 => fu_step (fu_ib_ne_f rfl h3) ?_)
  · refine fu_go 4 (pc' := 31) (ls' := [.ref 117, .int a1, .int a2, .int a3, am_U, am_U]) (st' := [.long (2 : Int64), .long (0 : Int64), .long (Int32.toInt64 a2)]) (s' := s2) rfl ?_
    refine fu_step (fu_cS rfl rfl rfl rfl rfl rfl (fu_eq (e_X12_isIn d (by omega) s2 (Int32.toInt64 a2) (0 : Int64) (2 : Int64)) rfl)) ?_
    show fu_J _ _ (fr_X d (some .int) k_X12_rewrite 34 [.ref 117, .int a1, .int a2, .int a3, am_U, am_U] [.int (fu_b (f_X12_isIn (Int32.toInt64 a2) (0 : Int64) (2 : Int64)))] s2)
    refine fu_ite (fun h4 => fu_step (fu_ib_eq_t rfl h4) ?_) (fun h4 => fu_step (fu_ib_eq_f rfl h4) ?_)
    · refine fu_go 4 (pc' := 41) (ls' := [.ref 117, .int a1, .int a2, .int a3, am_U, am_U]) (st' := [.int (1 : Int32), .int a2, .long (Int32.toInt64 a3)]) (s' := s2) rfl ?_
      refine fu_bind (V := fun j5 : Int64 => fr_X d (some .int) k_X12_rewrite 49 [.ref 117, .int a1, .int a2, .int a3, am_U, am_U] [.long j5, .long (Int32.toInt64 a3)] s2) ?_ (fun j5 => ?_)
      · refine fu_ite (fun h6 => fu_step (fu_ic_ne_t rfl h6) ?_) (fun h6 => fu_step (fu_ic_ne_f rfl h6) ?_)
        · refine fu_go 2 (pc' := 49) (ls' := [.ref 117, .int a1, .int a2, .int a3, am_U, am_U]) (st' := [.long (0 : Int64), .long (Int32.toInt64 a3)]) (s' := s2) rfl ?_
          exact fu_leaf rfl ⟨.inr rfl, .inr rfl, .inr rfl, .inr rfl, .inl rfl, .inl rfl, trivial⟩
        · refine fu_go 1 (pc' := 49) (ls' := [.ref 117, .int a1, .int a2, .int a3, am_U, am_U]) (st' := [.long (1 : Int64), .long (Int32.toInt64 a3)]) (s' := s2) rfl ?_
          exact fu_leaf rfl ⟨.inr rfl, .inr rfl, .inr rfl, .inr rfl, .inl rfl, .inl rfl, trivial⟩
      show fu_J _ _ (fr_X d (some .int) k_X12_rewrite 49 [.ref 117, .int a1, .int a2, .int a3, am_U, am_U] [.long j5, .long (Int32.toInt64 a3)] s2)
      refine fu_go 1 (pc' := 52) (ls' := [.ref 117, .int a1, .int a2, .int a3, am_U, am_U]) (st' := [.long (9 : Int64), .long j5, .long (Int32.toInt64 a3)]) (s' := s2) rfl ?_
      refine fu_step (fu_cS rfl rfl rfl rfl rfl rfl (fu_eq (e_X12_isIn d (by omega) s2 (Int32.toInt64 a3) j5 (9 : Int64)) rfl)) ?_
      show fu_J _ _ (fr_X d (some .int) k_X12_rewrite 55 [.ref 117, .int a1, .int a2, .int a3, am_U, am_U] [.int (fu_b (f_X12_isIn (Int32.toInt64 a3) j5 (9 : Int64)))] s2)
      refine fu_ite (fun h7 => fu_step (fu_ib_ne_t rfl h7) ?_) (fun h7 => fu_step (fu_ib_ne_f rfl h7) ?_)
      · refine fu_go 9 (pc' := 75) (ls' := [.ref 117, .int a1, .int a2, .int a3, .int (((6 : Int32) + ((5 : Int32) * a2)) + a1), am_U]) (st' := [.ref 117]) (s' := s2) rfl ?_
        refine fu_step (fu_getR rfl fr_117 rfl rfl) ?_
        refine fu_go 1 (pc' := 80) (ls' := [.ref 117, .int a1, .int a2, .int a3, .int (((6 : Int32) + ((5 : Int32) * a2)) + a1), am_U]) (st' := [.int (((6 : Int32) + ((5 : Int32) * a2)) + a1), .ref 122]) (s' := s2) rfl ?_
        refine fu_guard (fun h8 => fu_step (fu_ldI rfl fr_122 h8) ?_)
        refine fu_go 2 (pc' := 84) (ls' := [.ref 117, .int a1, .int a2, .int a3, .int (((6 : Int32) + ((5 : Int32) * a2)) + a1), .int (s2.1 122 (Int32.toNatClampNeg (((6 : Int32) + ((5 : Int32) * a2)) + a1)))]) (st' := [.ref 117]) (s' := s2) rfl ?_
        refine fu_step (fu_getR rfl fr_117 rfl rfl) ?_
        refine fu_go 2 (pc' := 90) (ls' := [.ref 117, .int a1, .int a2, .int a3, .int (((6 : Int32) + ((5 : Int32) * a2)) + a1), .int (s2.1 122 (Int32.toNatClampNeg (((6 : Int32) + ((5 : Int32) * a2)) + a1)))]) (st' := [.int a3, .int (((6 : Int32) + ((5 : Int32) * a2)) + a1), .ref 122]) (s' := s2) rfl ?_
        refine fu_guard (fun h10 => fu_lets (b := (fu_pi s2 122 (Int32.toNatClampNeg (((6 : Int32) + ((5 : Int32) * a2)) + a1)) a3)) (fu_stI rfl fr_122 h10) (fun s9 => ?_))
        refine fu_go 1 (pc' := 93) (ls' := [.ref 117, .int a1, .int a2, .int a3, .int (((6 : Int32) + ((5 : Int32) * a2)) + a1), .int (s2.1 122 (Int32.toNatClampNeg (((6 : Int32) + ((5 : Int32) * a2)) + a1)))]) (st' := [.int (s2.1 122 (Int32.toNatClampNeg (((6 : Int32) + ((5 : Int32) * a2)) + a1)))]) (s' := s9) rfl ?_
        exact fu_iret rfl rfl
      · refine fu_go 2 (pc' := 60) (ls' := [.ref 117, .int a1, .int a2, .int a3, am_U, am_U]) (st' := [.int (5 : Int32), .ref 117]) (s' := s2) rfl ?_
        refine fu_let (fu_cVJ rfl rfl rfl rfl rfl (fu_recv fr_117 am_at_X12_refuse rfl) (e_X12_refuse d (by omega) s2 (5 : Int32))) (fun r11 => ?_)
        show fu_J _ _ (fr_X d (some .int) k_X12_rewrite 63 [.ref 117, .int a1, .int a2, .int a3, am_U, am_U] [.int r11.1] r11.2)
        exact fu_iret rfl rfl
    · refine fu_go 2 (pc' := 60) (ls' := [.ref 117, .int a1, .int a2, .int a3, am_U, am_U]) (st' := [.int (5 : Int32), .ref 117]) (s' := s2) rfl ?_
      refine fu_let (fu_cVJ rfl rfl rfl rfl rfl (fu_recv fr_117 am_at_X12_refuse rfl) (e_X12_refuse d (by omega) s2 (5 : Int32))) (fun r12 => ?_)
      show fu_J _ _ (fr_X d (some .int) k_X12_rewrite 63 [.ref 117, .int a1, .int a2, .int a3, am_U, am_U] [.int r12.1] r12.2)
      exact fu_iret rfl rfl
  · refine fu_go 2 (pc' := 21) (ls' := [.ref 117, .int a1, .int a2, .int a3, am_U, am_U]) (st' := [.int (2 : Int32), .ref 117]) (s' := s2) rfl ?_
    refine fu_let (fu_cVJ rfl rfl rfl rfl rfl (fu_recv fr_117 am_at_X12_refuse rfl) (e_X12_refuse d (by omega) s2 (2 : Int32))) (fun r13 => ?_)
    show fu_J _ _ (fr_X d (some .int) k_X12_rewrite 24 [.ref 117, .int a1, .int a2, .int a3, am_U, am_U] [.int r13.1] r13.2)
    exact fu_iret rfl rfl
/-! X12_rule -/
set_option maxRecDepth 100000 in
theorem e_X12_rule (d : Nat) (hd : 2 ≤ d) (s : fu_S) (a1 : Int32) (a2 : Int32) : fu_J (f_X12_rule s a1 a2) (fun r => some (some (.int (fu_b r.1)), r.2)) (am_D (fu_ho fr_sh) am_m d 334 [.ref 117, .int a1, .int a2] s) := by
  obtain ⟨d, rfl⟩ : ∃ e, d = e + 1 := ⟨d - 1, by omega⟩
  refine fu_enter (ls := [.ref 117, .int a1, .int a2]) am_at_X12_rule rfl rfl ?_
  show fu_J _ _ (fr_X d (some .boolean) k_X12_rule 0 [.ref 117, .int a1, .int a2] [] s)
  unfold f_X12_rule
  refine fu_go 2 (pc' := 2) (ls' := [.ref 117, .int a1, .int a2]) (st' := [.int (0 : Int32), .ref 117]) (s' := s) rfl ?_
  refine fu_lets (b := (fu_pi s 117 1 (0 : Int32))) (fu_putI rfl fr_117 rfl rfl) (fun s1 => ?_)
  refine fu_go 2 (pc' := 7) (ls' := [.ref 117, .int a1, .int a2]) (st' := [.int (0 : Int32), .ref 117]) (s' := s1) rfl ?_
  refine fu_lets (b := (fu_pi s1 117 0 (0 : Int32))) (fu_putI rfl fr_117 rfl rfl) (fun s2 => ?_)
  refine fu_go 2 (pc' := 12) (ls' := [.ref 117, .int a1, .int a2]) (st' := [.int (3 : Int32), .int a1]) (s' := s2) rfl ?_
  refine fu_ite (fun h3 => fu_step (fu_ic_eq_t rfl h3) ?_) (fun h3 => fu_step (fu_ic_eq_f rfl h3) ?_)
  · refine fu_go 5 (pc' := 25) (ls' := [.ref 117, .int a1, .int a2]) (st' := [.int (3 : Int32), .int a1, .long (0 : Int64), .long (Int32.toInt64 a2)]) (s' := s2) rfl ?_
    refine fu_bind (V := fun j4 : Int64 => fr_X d (some .boolean) k_X12_rule 37 [.ref 117, .int a1, .int a2] [.long j4, .long (0 : Int64), .long (Int32.toInt64 a2)] s2) ?_ (fun j4 => ?_)
    · refine fu_ite (fun h5 => fu_step (fu_ic_ne_t rfl h5) ?_) (fun h5 => fu_step (fu_ic_ne_f rfl h5) ?_)
      · refine fu_go 2 (pc' := 37) (ls' := [.ref 117, .int a1, .int a2]) (st' := [.long (16 : Int64), .long (0 : Int64), .long (Int32.toInt64 a2)]) (s' := s2) rfl ?_
        exact fu_leaf rfl ⟨.inr rfl, .inr rfl, .inr rfl, trivial⟩
      · refine fu_go 1 (pc' := 37) (ls' := [.ref 117, .int a1, .int a2]) (st' := [.long (59 : Int64), .long (0 : Int64), .long (Int32.toInt64 a2)]) (s' := s2) rfl ?_
        exact fu_leaf rfl ⟨.inr rfl, .inr rfl, .inr rfl, trivial⟩
    show fu_J _ _ (fr_X d (some .boolean) k_X12_rule 37 [.ref 117, .int a1, .int a2] [.long j4, .long (0 : Int64), .long (Int32.toInt64 a2)] s2)
    refine fu_step (fu_cS rfl rfl rfl rfl rfl rfl (fu_eq (e_X12_isIn d (by omega) s2 (Int32.toInt64 a2) (0 : Int64) j4) rfl)) ?_
    show fu_J _ _ (fr_X d (some .boolean) k_X12_rule 40 [.ref 117, .int a1, .int a2] [.int (fu_b (f_X12_isIn (Int32.toInt64 a2) (0 : Int64) j4))] s2)
    refine fu_ite (fun h6 => fu_step (fu_ib_ne_t rfl h6) ?_) (fun h6 => fu_step (fu_ib_ne_f rfl h6) ?_)
    · refine fu_go 1 (pc' := 50) (ls' := [.ref 117, .int a1, .int a2]) (st' := [.ref 117]) (s' := s2) rfl ?_
      refine fu_step (fu_getR rfl fr_117 rfl rfl) ?_
      refine fu_go 2 (pc' := 55) (ls' := [.ref 117, .int a1, .int a2]) (st' := [.int a2, .int a1, .ref 122]) (s' := s2) rfl ?_
      refine fu_guard (fun h8 => fu_lets (b := (fu_pi s2 122 (Int32.toNatClampNeg a1) a2)) (fu_stI rfl fr_122 h8) (fun s7 => ?_))
      refine fu_go 1 (pc' := 57) (ls' := [.ref 117, .int a1, .int a2]) (st' := [.int (1 : Int32)]) (s' := s7) rfl ?_
      exact fu_bret (b := true) rfl rfl
    · refine fu_go 2 (pc' := 45) (ls' := [.ref 117, .int a1, .int a2]) (st' := [.int (5 : Int32), .ref 117]) (s' := s2) rfl ?_
      refine fu_let (fu_cVJ rfl rfl rfl rfl rfl (fu_recv fr_117 am_at_X12_no rfl) (e_X12_no d (by omega) s2 (5 : Int32))) (fun r9 => ?_)
      show fu_J _ _ (fr_X d (some .boolean) k_X12_rule 48 [.ref 117, .int a1, .int a2] [.int (fu_b r9.1)] r9.2)
      exact fu_bret (b := r9.1) rfl rfl
  · refine fu_go 2 (pc' := 17) (ls' := [.ref 117, .int a1, .int a2]) (st' := [.int (4 : Int32), .int a1]) (s' := s2) rfl ?_
    refine fu_ite (fun h10 => fu_step (fu_ic_ne_t rfl h10) ?_) (fun h10 => fu_step (fu_ic_ne_f rfl h10) ?_)
    · refine fu_go 5 (pc' := 25) (ls' := [.ref 117, .int a1, .int a2]) (st' := [.int (3 : Int32), .int a1, .long (0 : Int64), .long (Int32.toInt64 a2)]) (s' := s2) rfl ?_
      refine fu_bind (V := fun j11 : Int64 => fr_X d (some .boolean) k_X12_rule 37 [.ref 117, .int a1, .int a2] [.long j11, .long (0 : Int64), .long (Int32.toInt64 a2)] s2) ?_ (fun j11 => ?_)
      · refine fu_ite (fun h12 => fu_step (fu_ic_ne_t rfl h12) ?_) (fun h12 => fu_step (fu_ic_ne_f rfl h12) ?_)
        · refine fu_go 2 (pc' := 37) (ls' := [.ref 117, .int a1, .int a2]) (st' := [.long (16 : Int64), .long (0 : Int64), .long (Int32.toInt64 a2)]) (s' := s2) rfl ?_
          exact fu_leaf rfl ⟨.inr rfl, .inr rfl, .inr rfl, trivial⟩
        · refine fu_go 1 (pc' := 37) (ls' := [.ref 117, .int a1, .int a2]) (st' := [.long (59 : Int64), .long (0 : Int64), .long (Int32.toInt64 a2)]) (s' := s2) rfl ?_
          exact fu_leaf rfl ⟨.inr rfl, .inr rfl, .inr rfl, trivial⟩
      show fu_J _ _ (fr_X d (some .boolean) k_X12_rule 37 [.ref 117, .int a1, .int a2] [.long j11, .long (0 : Int64), .long (Int32.toInt64 a2)] s2)
      refine fu_step (fu_cS rfl rfl rfl rfl rfl rfl (fu_eq (e_X12_isIn d (by omega) s2 (Int32.toInt64 a2) (0 : Int64) j11) rfl)) ?_
      show fu_J _ _ (fr_X d (some .boolean) k_X12_rule 40 [.ref 117, .int a1, .int a2] [.int (fu_b (f_X12_isIn (Int32.toInt64 a2) (0 : Int64) j11))] s2)
      refine fu_ite (fun h13 => fu_step (fu_ib_ne_t rfl h13) ?_) (fun h13 => fu_step (fu_ib_ne_f rfl h13) ?_)
      · refine fu_go 1 (pc' := 50) (ls' := [.ref 117, .int a1, .int a2]) (st' := [.ref 117]) (s' := s2) rfl ?_
        refine fu_step (fu_getR rfl fr_117 rfl rfl) ?_
        refine fu_go 2 (pc' := 55) (ls' := [.ref 117, .int a1, .int a2]) (st' := [.int a2, .int a1, .ref 122]) (s' := s2) rfl ?_
        refine fu_guard (fun h15 => fu_lets (b := (fu_pi s2 122 (Int32.toNatClampNeg a1) a2)) (fu_stI rfl fr_122 h15) (fun s14 => ?_))
        refine fu_go 1 (pc' := 57) (ls' := [.ref 117, .int a1, .int a2]) (st' := [.int (1 : Int32)]) (s' := s14) rfl ?_
        exact fu_bret (b := true) rfl rfl
      · refine fu_go 2 (pc' := 45) (ls' := [.ref 117, .int a1, .int a2]) (st' := [.int (5 : Int32), .ref 117]) (s' := s2) rfl ?_
        refine fu_let (fu_cVJ rfl rfl rfl rfl rfl (fu_recv fr_117 am_at_X12_no rfl) (e_X12_no d (by omega) s2 (5 : Int32))) (fun r16 => ?_)
        show fu_J _ _ (fr_X d (some .boolean) k_X12_rule 48 [.ref 117, .int a1, .int a2] [.int (fu_b r16.1)] r16.2)
        exact fu_bret (b := r16.1) rfl rfl
    · refine fu_go 2 (pc' := 45) (ls' := [.ref 117, .int a1, .int a2]) (st' := [.int (5 : Int32), .ref 117]) (s' := s2) rfl ?_
      refine fu_let (fu_cVJ rfl rfl rfl rfl rfl (fu_recv fr_117 am_at_X12_no rfl) (e_X12_no d (by omega) s2 (5 : Int32))) (fun r17 => ?_)
      show fu_J _ _ (fr_X d (some .boolean) k_X12_rule 48 [.ref 117, .int a1, .int a2] [.int (fu_b r17.1)] r17.2)
      exact fu_bret (b := r17.1) rfl rfl
/-! X12_soonest -/
set_option maxRecDepth 100000 in
theorem e_X12_soonest (d : Nat) (hd : 5 ≤ d) (s : fu_S) (a1 : Int32) : fu_J (f_X12_soonest s a1) (fun r => some (some (.int r.1), r.2)) (am_D (fu_ho fr_sh) am_m d 335 [.ref 117, .int a1] s) := by
  obtain ⟨d, rfl⟩ : ∃ e, d = e + 1 := ⟨d - 1, by omega⟩
  refine fu_enter (ls := [.ref 117, .int a1]) am_at_X12_soonest rfl rfl ?_
  show fu_J _ _ (fr_X d (some .int) k_X12_soonest 0 [.ref 117, .int a1] [] s)
  unfold f_X12_soonest
  refine fu_go 2 (pc' := 2) (ls' := [.ref 117, .int a1]) (st' := [.int (0 : Int32), .ref 117]) (s' := s) rfl ?_
  refine fu_lets (b := (fu_pi s 117 1 (0 : Int32))) (fu_putI rfl fr_117 rfl rfl) (fun s1 => ?_)
  refine fu_go 2 (pc' := 7) (ls' := [.ref 117, .int a1]) (st' := [.int (0 : Int32), .ref 117]) (s' := s1) rfl ?_
  refine fu_lets (b := (fu_pi s1 117 0 (0 : Int32))) (fu_putI rfl fr_117 rfl rfl) (fun s2 => ?_)
  refine fu_go 2 (pc' := 12) (ls' := [.ref 117, .int a1]) (st' := [.int a1, .ref 117]) (s' := s2) rfl ?_
  refine fu_step (fu_cV rfl rfl rfl rfl rfl (fu_recv fr_117 am_at_X12_isThingAt rfl) (fu_eq (e_X12_isThingAt d (by omega) s2 a1) rfl)) ?_
  show fu_J _ _ (fr_X d (some .int) k_X12_soonest 15 [.ref 117, .int a1] [.int (fu_b (f_X12_isThingAt s2 a1))] s2)
  refine fu_ite (fun h3 => fu_step (fu_ib_ne_t rfl h3) ?_) (fun h3 => fu_step (fu_ib_ne_f rfl h3) ?_)
  · refine fu_go 2 (pc' := 26) (ls' := [.ref 117, .int a1]) (st' := [.int a1, .ref 117]) (s' := s2) rfl ?_
    refine fu_bind (fu_cVJ rfl rfl rfl rfl rfl (fu_recv fr_117 am_at_X12_isScratched rfl) (e_X12_isScratched d (by omega) s2 a1)) (fun r4 => ?_)
    show fu_J _ _ (fr_X d (some .int) k_X12_soonest 29 [.ref 117, .int a1] [.int (fu_b r4)] s2)
    refine fu_ite (fun h5 => fu_step (fu_ib_eq_t rfl h5) ?_) (fun h5 => fu_step (fu_ib_eq_f rfl h5) ?_)
    · refine fu_go 1 (pc' := 33) (ls' := [.ref 117, .int a1]) (st' := [.ref 117]) (s' := s2) rfl ?_
      refine fu_step (fu_getR rfl fr_117 rfl rfl) ?_
      refine fu_go 3 (pc' := 40) (ls' := [.ref 117, .int a1]) (st' := [.int ((75 : Int32) + a1), .ref 122]) (s' := s2) rfl ?_
      refine fu_guard (fun h6 => fu_step (fu_ldI rfl fr_122 h6) ?_)
      exact fu_iret rfl rfl
    · refine fu_go 2 (pc' := 44) (ls' := [.ref 117, .int a1]) (st' := [.int a1, .ref 117]) (s' := s2) rfl ?_
      refine fu_bind (fu_cVJ rfl rfl rfl rfl rfl (fu_recv fr_117 am_at_X12_whoCould rfl) (e_X12_whoCould d (by omega) s2 a1)) (fun r7 => ?_)
      show fu_J _ _ (fr_X d (some .int) k_X12_soonest 47 [.ref 117, .int a1] [.int r7] s2)
      refine fu_bind (V := fun j8 : Int32 × fu_S => fr_X d (some .int) k_X12_soonest 79 [am_U, am_U] [.int j8.1] j8.2) ?_ (fun j8 => ?_)
      · refine fu_ite (fun h9 => fu_step (fu_if_ne_t rfl h9) ?_) (fun h9 => fu_step (fu_if_ne_f rfl h9) ?_)
        · refine fu_go 2 (pc' := 53) (ls' := [.ref 117, .int a1]) (st' := [.int (8 : Int32), .ref 117]) (s' := s2) rfl ?_
          refine fu_let (fu_cVJ rfl rfl rfl rfl rfl (fu_recv fr_117 am_at_X12_refuse rfl) (e_X12_refuse d (by omega) s2 (8 : Int32))) (fun r10 => ?_)
          show fu_J _ _ (fr_X d (some .int) k_X12_soonest 56 [.ref 117, .int a1] [.int r10.1] r10.2)
          refine fu_go 1 (pc' := 79) (ls' := [.ref 117, .int a1]) (st' := [.int r10.1]) (s' := r10.2) rfl ?_
          exact fu_leaf rfl ⟨.inl rfl, .inl rfl, trivial⟩
        · refine fu_go 1 (pc' := 60) (ls' := [.ref 117, .int a1]) (st' := [.ref 117]) (s' := s2) rfl ?_
          refine fu_step (fu_getR rfl fr_117 rfl rfl) ?_
          refine fu_go 1 (pc' := 64) (ls' := [.ref 117, .int a1]) (st' := [.int (5 : Int32), .ref 122]) (s' := s2) rfl ?_
          refine fu_step (fu_ldIk (k := 5) rfl fr_122 (by decide) (by decide)) ?_
          refine fu_go 2 (pc' := 67) (ls' := [.ref 117, .int a1]) (st' := [.int a1, .ref 117, .int (s2.1 122 5)]) (s' := s2) rfl ?_
          refine fu_bind (fu_cVJ rfl rfl rfl rfl rfl (fu_recv fr_117 am_at_X12_comesUp rfl) (e_X12_comesUp d (by omega) s2 a1)) (fun r11 => ?_)
          show fu_J _ _ (fr_X d (some .int) k_X12_soonest 70 [.ref 117, .int a1] [.int r11, .int (s2.1 122 5)] s2)
          refine fu_step (fu_prim rfl rfl rfl rfl) ?_
          refine fu_go 2 (pc' := 75) (ls' := [.ref 117, .int a1]) (st' := [.int a1, .ref 117, .int (fu_mx (s2.1 122 5) r11)]) (s' := s2) rfl ?_
          refine fu_bind (fu_cVJ rfl rfl rfl rfl rfl (fu_recv fr_117 am_at_X12_wayOf rfl) (e_X12_wayOf d (by omega) s2 a1)) (fun r12 => ?_)
          show fu_J _ _ (fr_X d (some .int) k_X12_soonest 78 [.ref 117, .int a1] [.int r12, .int (fu_mx (s2.1 122 5) r11)] s2)
          refine fu_go 1 (pc' := 79) (ls' := [.ref 117, .int a1]) (st' := [.int ((fu_mx (s2.1 122 5) r11) + r12)]) (s' := s2) rfl ?_
          exact fu_leaf rfl ⟨.inl rfl, .inl rfl, trivial⟩
      show fu_J _ _ (fr_X d (some .int) k_X12_soonest 79 [am_U, am_U] [.int j8.1] j8.2)
      exact fu_iret rfl rfl
  · refine fu_go 2 (pc' := 20) (ls' := [.ref 117, .int a1]) (st' := [.int (2 : Int32), .ref 117]) (s' := s2) rfl ?_
    refine fu_let (fu_cVJ rfl rfl rfl rfl rfl (fu_recv fr_117 am_at_X12_refuse rfl) (e_X12_refuse d (by omega) s2 (2 : Int32))) (fun r13 => ?_)
    show fu_J _ _ (fr_X d (some .int) k_X12_soonest 23 [.ref 117, .int a1] [.int r13.1] r13.2)
    exact fu_iret rfl rfl
/-! X12_works2 -/
theorem el_X12_works2_45 (K : fu_S → Int32 → Int32 → Option Int32) (D0 : Nat) (hK : ∀ d, D0 ≤ d → ∀ (s : fu_S) (a1 : Int32) (a2 : Int32), fu_J (K s a1 a2) (fun r => some (some (.int r), s)) (am_D (fu_ho fr_sh) am_m d 336 [.ref 117, .int a1, .int a2] s)) (d : Nat) (hd0 : D0 + 0 ≤ d) (hd : 1 ≤ d) : ∀ (n : Nat) (s : fu_S) (x1 : Int32) (x2 : Int32) (x3 : Int32) (x4 : Int32) (x5 : Int32), fu_J (l_X12_works2_45 K n s x1 x2 x3 x4 x5) (fun r => fr_X d (some .int) k_X12_works2 106 [am_U, am_U, am_U, .int r, am_U, am_U] [] s) (fr_X d (some .int) k_X12_works2 45 [.ref 117, .int x1, .int x2, .int x3, .int x4, .int x5] [] s) := by
  intro n
  induction n with
  | zero => intros; exact fu_none
  | succ n ih =>
    intro s x1 x2 x3 x4 x5
    rw [l_X12_works2_45]
    refine fu_go 2 (pc' := 48) (ls' := [.ref 117, .int x1, .int x2, .int x3, .int x4, .int x5]) (st' := [.ref 117, .int x5]) (s' := s) rfl ?_
    refine fu_step (fu_getR rfl fr_117 rfl rfl) ?_
    refine fu_go 1 (pc' := 52) (ls' := [.ref 117, .int x1, .int x2, .int x3, .int x4, .int x5]) (st' := [.int (1 : Int32), .ref 122, .int x5]) (s' := s) rfl ?_
    refine fu_step (fu_ldIk (k := 1) rfl fr_122 (by decide) (by decide)) ?_
    refine fu_ite (fun h7 => fu_step (fu_ic_ge_t rfl h7) ?_) (fun h7 => fu_step (fu_ic_ge_f rfl h7) ?_)
    · refine fu_go 2 (pc' := 58) (ls' := [.ref 117, .int x1, .int x2, .int x3, .int x4, .int x5]) (st' := [.ref 117, .int x3]) (s' := s) rfl ?_
      refine fu_step (fu_getR rfl fr_117 rfl rfl) ?_
      refine fu_go 1 (pc' := 62) (ls' := [.ref 117, .int x1, .int x2, .int x3, .int x4, .int x5]) (st' := [.int (2 : Int32), .ref 122, .int x3]) (s' := s) rfl ?_
      refine fu_step (fu_ldIk (k := 2) rfl fr_122 (by decide) (by decide)) ?_
      refine fu_go 2 (pc' := 65) (ls' := [.ref 117, .int x1, .int x2, .int x3, .int x4, .int x5]) (st' := [.int ((s.1 122 2) - x1), .int x3]) (s' := s) rfl ?_
      refine fu_ite (fun h8 => fu_step (fu_ic_ge_t rfl h8) ?_) (fun h8 => fu_step (fu_ic_ge_f rfl h8) ?_)
      · refine fu_go 2 (pc' := 72) (ls' := [.ref 117, .int x1, .int x2, .int x3, .int x4, .int x5]) (st' := [.int x5, .int x4]) (s' := s) rfl ?_
        refine fu_step (fu_cS rfl rfl rfl rfl rfl rfl (fu_eq (e_X12_has d (by omega) s x4 x5) rfl)) ?_
        show fu_J _ _ (fr_X d (some .int) k_X12_works2 75 [.ref 117, .int x1, .int x2, .int x3, .int x4, .int x5] [.int (fu_b (f_X12_has x4 x5))] s)
        refine fu_bind (V := fun j9 : Int32 => fr_X d (some .int) k_X12_works2 100 [.ref 117, .int x1, .int x2, .int j9, .int x4, .int x5] [] s) ?_ (fun j9 => ?_)
        · refine fu_ite (fun h10 => fu_step (fu_ib_eq_t rfl h10) ?_) (fun h10 => fu_step (fu_ib_eq_f rfl h10) ?_)
          · refine fu_go 13 (pc' := 92) (ls' := [.ref 117, .int x1, .int x2, .int x3, .int x4, .int x5]) (st' := [.int (x2 &&& (((1 : Int32) <<< (x5 &&& 31)) ^^^ (-1 : Int32))), .int (x1 + (1 : Int32)), .ref 117, .int (1 : Int32), .int x3]) (s' := s) rfl ?_
            refine fu_bind (fu_cVJ rfl rfl rfl rfl rfl (fu_recv fr_117 am_at_X12_works2 rfl) (hK d (by omega) s (x1 + (1 : Int32)) (x2 &&& (((1 : Int32) <<< (x5 &&& 31)) ^^^ (-1 : Int32))))) (fun r11 => ?_)
            show fu_J _ _ (fr_X d (some .int) k_X12_works2 95 [.ref 117, .int x1, .int x2, .int x3, .int x4, .int x5] [.int r11, .int (1 : Int32), .int x3] s)
            refine fu_go 1 (pc' := 96) (ls' := [.ref 117, .int x1, .int x2, .int x3, .int x4, .int x5]) (st' := [.int ((1 : Int32) + r11), .int x3]) (s' := s) rfl ?_
            refine fu_step (fu_prim rfl rfl rfl rfl) ?_
            refine fu_go 1 (pc' := 100) (ls' := [.ref 117, .int x1, .int x2, .int (fu_mx x3 ((1 : Int32) + r11)), .int x4, .int x5]) (st' := []) (s' := s) rfl ?_
            exact fu_leaf rfl ⟨.inr rfl, .inr rfl, .inr rfl, .inr rfl, .inr rfl, .inr rfl, trivial⟩
          · exact fu_leaf rfl ⟨.inr rfl, .inr rfl, .inr rfl, .inr rfl, .inr rfl, .inr rfl, trivial⟩
        show fu_J _ _ (fr_X d (some .int) k_X12_works2 100 [.ref 117, .int x1, .int x2, .int j9, .int x4, .int x5] [] s)
        refine fu_go 2 (pc' := 45) (ls' := [.ref 117, .int x1, .int x2, .int j9, .int x4, .int (x5 + (1 : Int32))]) (st' := []) (s' := s) rfl ?_
        exact fu_drop (ls' := [.ref 117, .int x1, .int x2, .int j9, .int x4, .int (x5 + (1 : Int32))]) ⟨.inr rfl, .inr rfl, .inr rfl, .inr rfl, .inr rfl, .inr rfl, trivial⟩ (ih s x1 x2 j9 x4 (x5 + (1 : Int32)))
      · exact fu_leaf rfl ⟨.inl rfl, .inl rfl, .inl rfl, .inr rfl, .inl rfl, .inl rfl, trivial⟩
    · exact fu_leaf rfl ⟨.inl rfl, .inl rfl, .inl rfl, .inr rfl, .inl rfl, .inl rfl, trivial⟩
set_option maxRecDepth 100000 in
theorem eb_X12_works2 (K : fu_S → Int32 → Int32 → Option Int32) (D0 : Nat) (hK : ∀ d, D0 ≤ d → ∀ (s : fu_S) (a1 : Int32) (a2 : Int32), fu_J (K s a1 a2) (fun r => some (some (.int r), s)) (am_D (fu_ho fr_sh) am_m d 336 [.ref 117, .int a1, .int a2] s)) (d : Nat) (hd0 : D0 + 1 ≤ d) (hd : 6 ≤ d) (s : fu_S) (a1 : Int32) (a2 : Int32) : fu_J (fb_X12_works2 K s a1 a2) (fun r => some (some (.int r), s)) (am_D (fu_ho fr_sh) am_m d 336 [.ref 117, .int a1, .int a2] s) := by
  obtain ⟨d, rfl⟩ : ∃ e, d = e + 1 := ⟨d - 1, by omega⟩
  refine fu_enter (ls := [.ref 117, .int a1, .int a2, am_U, am_U, am_U]) am_at_X12_works2 rfl rfl ?_
  show fu_J _ _ (fr_X d (some .int) k_X12_works2 0 [.ref 117, .int a1, .int a2, am_U, am_U, am_U] [] s)
  unfold fb_X12_works2
  refine fu_go 2 (pc' := 2) (ls' := [.ref 117, .int a1, .int a2, am_U, am_U, am_U]) (st' := [.ref 117, .int a1]) (s' := s) rfl ?_
  refine fu_step (fu_getR rfl fr_117 rfl rfl) ?_
  refine fu_go 1 (pc' := 6) (ls' := [.ref 117, .int a1, .int a2, am_U, am_U, am_U]) (st' := [.int (2 : Int32), .ref 122, .int a1]) (s' := s) rfl ?_
  refine fu_step (fu_ldIk (k := 2) rfl fr_122 (by decide) (by decide)) ?_
  refine fu_ite (fun h1 => fu_step (fu_ic_ne_t rfl h1) ?_) (fun h1 => fu_step (fu_ic_ne_f rfl h1) ?_)
  · refine fu_go 1 (pc' := 11) (ls' := [.ref 117, .int a1, .int a2, am_U, am_U, am_U]) (st' := [.int (0 : Int32)]) (s' := s) rfl ?_
    exact fu_iret rfl rfl
  · refine fu_go 5 (pc' := 17) (ls' := [.ref 117, .int a1, .int a2, am_U, am_U, am_U]) (st' := [.int a2, .int (a1 + (1 : Int32)), .ref 117]) (s' := s) rfl ?_
    refine fu_bind (fu_cVJ rfl rfl rfl rfl rfl (fu_recv fr_117 am_at_X12_works2 rfl) (hK d (by omega) s (a1 + (1 : Int32)) a2)) (fun r2 => ?_)
    show fu_J _ _ (fr_X d (some .int) k_X12_works2 20 [.ref 117, .int a1, .int a2, am_U, am_U, am_U] [.int r2] s)
    refine fu_go 3 (pc' := 23) (ls' := [.ref 117, .int a1, .int a2, .int r2, am_U, am_U]) (st' := [.int a1, .ref 117]) (s' := s) rfl ?_
    refine fu_bind (fu_cVJ rfl rfl rfl rfl rfl (fu_recv fr_117 am_at_X12_isUp rfl) (e_X12_isUp d (by omega) s a1)) (fun r3 => ?_)
    show fu_J _ _ (fr_X d (some .int) k_X12_works2 26 [.ref 117, .int a1, .int a2, .int r2, am_U, am_U] [.int (fu_b r3)] s)
    refine fu_bind (V := fun j4 : Int32 => fr_X d (some .int) k_X12_works2 40 [.ref 117, .int a1, .int a2, .int r2, am_U, am_U] [.int j4] s) ?_ (fun j4 => ?_)
    · refine fu_ite (fun h5 => fu_step (fu_ib_eq_t rfl h5) ?_) (fun h5 => fu_step (fu_ib_eq_f rfl h5) ?_)
      · refine fu_go 2 (pc' := 31) (ls' := [.ref 117, .int a1, .int a2, .int r2, am_U, am_U]) (st' := [.int a1, .ref 117]) (s' := s) rfl ?_
        refine fu_bind (fu_cVJ rfl rfl rfl rfl rfl (fu_recv fr_117 am_at_X12_whoCould rfl) (e_X12_whoCould d (by omega) s a1)) (fun r6 => ?_)
        show fu_J _ _ (fr_X d (some .int) k_X12_works2 34 [.ref 117, .int a1, .int a2, .int r2, am_U, am_U] [.int r6] s)
        refine fu_go 3 (pc' := 40) (ls' := [.ref 117, .int a1, .int a2, .int r2, am_U, am_U]) (st' := [.int (r6 &&& a2)]) (s' := s) rfl ?_
        exact fu_leaf rfl ⟨.inr rfl, .inr rfl, .inr rfl, .inr rfl, .inl rfl, .inl rfl, trivial⟩
      · refine fu_go 1 (pc' := 40) (ls' := [.ref 117, .int a1, .int a2, .int r2, am_U, am_U]) (st' := [.int (0 : Int32)]) (s' := s) rfl ?_
        exact fu_leaf rfl ⟨.inr rfl, .inr rfl, .inr rfl, .inr rfl, .inl rfl, .inl rfl, trivial⟩
    show fu_J _ _ (fr_X d (some .int) k_X12_works2 40 [.ref 117, .int a1, .int a2, .int r2, am_U, am_U] [.int j4] s)
    refine fu_go 3 (pc' := 45) (ls' := [.ref 117, .int a1, .int a2, .int r2, .int j4, .int (0 : Int32)]) (st' := []) (s' := s) rfl ?_
    refine fu_drop (ls' := [.ref 117, .int a1, .int a2, .int r2, .int j4, .int (0 : Int32)]) ⟨.inr rfl, .inr rfl, .inr rfl, .inr rfl, .inr rfl, .inr rfl, trivial⟩ ?_
    refine fu_bind (el_X12_works2_45 K D0 hK d (by omega) (by omega) fu_N s a1 a2 r2 j4 (0 : Int32)) (fun r12 => ?_)
    show fu_J _ _ (fr_X d (some .int) k_X12_works2 106 [am_U, am_U, am_U, .int r12, am_U, am_U] [] s)
    refine fu_go 1 (pc' := 107) (ls' := [am_U, am_U, am_U, .int r12, am_U, am_U]) (st' := [.int r12]) (s' := s) rfl ?_
    exact fu_iret rfl rfl
theorem e_X12_works2 : ∀ (n d : Nat) (_ : 6 + 1 * n ≤ d) (s : fu_S) (a1 : Int32) (a2 : Int32), fu_J (f_X12_works2 n s a1 a2) (fun r => some (some (.int r), s)) (am_D (fu_ho fr_sh) am_m d 336 [.ref 117, .int a1, .int a2] s)
  | 0 => fun d _ _ _ _ => fu_none
  | n + 1 => fun d hd s a1 a2 => eb_X12_works2 (f_X12_works2 n) (6 + 1 * n) (fun d hd => e_X12_works2 n d hd) d (by omega) (by omega) s a1 a2
/-! X12_everybody -/
set_option maxRecDepth 100000 in
theorem e_X12_everybody (d : Nat) (hd : 1 ≤ d) (s : fu_S) : fu_J (some (f_X12_everybody s)) (fun r => some (some (.int r), s)) (am_D (fu_ho fr_sh) am_m d 337 [.ref 117] s) := by
  obtain ⟨d, rfl⟩ : ∃ e, d = e + 1 := ⟨d - 1, by omega⟩
  refine fu_enter (ls := [.ref 117]) am_at_X12_everybody rfl rfl ?_
  show fu_J _ _ (fr_X d (some .int) k_X12_everybody 0 [.ref 117] [] s)
  unfold f_X12_everybody
  refine fu_go 2 (pc' := 2) (ls' := [.ref 117]) (st' := [.ref 117, .int (1 : Int32)]) (s' := s) rfl ?_
  refine fu_step (fu_getR rfl fr_117 rfl rfl) ?_
  refine fu_go 1 (pc' := 6) (ls' := [.ref 117]) (st' := [.int (1 : Int32), .ref 122, .int (1 : Int32)]) (s' := s) rfl ?_
  refine fu_step (fu_ldIk (k := 1) rfl fr_122 (by decide) (by decide)) ?_
  refine fu_go 3 (pc' := 10) (ls' := [.ref 117]) (st' := [.int (((1 : Int32) <<< ((s.1 122 1) &&& 31)) - (1 : Int32))]) (s' := s) rfl ?_
  exact fu_iret rfl rfl
/-! X12_round -/
set_option maxRecDepth 100000 in
theorem e_X12_round (d : Nat) (hd : 23 ≤ d) (s : fu_S) : fu_J (f_X12_round s) (fun r => some (some (.int r.1), r.2)) (am_D (fu_ho fr_sh) am_m d 338 [.ref 117] s) := by
  obtain ⟨d, rfl⟩ : ∃ e, d = e + 1 := ⟨d - 1, by omega⟩
  refine fu_enter (ls := [.ref 117]) am_at_X12_round rfl rfl ?_
  show fu_J _ _ (fr_X d (some .int) k_X12_round 0 [.ref 117] [] s)
  unfold f_X12_round
  refine fu_go 2 (pc' := 2) (ls' := [.ref 117]) (st' := [.int (0 : Int32), .ref 117]) (s' := s) rfl ?_
  refine fu_lets (b := (fu_pi s 117 1 (0 : Int32))) (fu_putI rfl fr_117 rfl rfl) (fun s1 => ?_)
  refine fu_go 2 (pc' := 7) (ls' := [.ref 117]) (st' := [.int (0 : Int32), .ref 117]) (s' := s1) rfl ?_
  refine fu_lets (b := (fu_pi s1 117 0 (0 : Int32))) (fu_putI rfl fr_117 rfl rfl) (fun s2 => ?_)
  refine fu_go 3 (pc' := 13) (ls' := [.ref 117]) (st' := [.ref 117, .int (0 : Int32), .ref 117]) (s' := s2) rfl ?_
  refine fu_step (fu_cV rfl rfl rfl rfl rfl (fu_recv fr_117 am_at_X12_everybody rfl) (fu_eq (e_X12_everybody d (by omega) s2) rfl)) ?_
  show fu_J _ _ (fr_X d (some .int) k_X12_round 16 [.ref 117] [.int (f_X12_everybody s2), .int (0 : Int32), .ref 117] s2)
  refine fu_bind (fu_cVJ rfl rfl rfl rfl rfl (fu_recv fr_117 am_at_X12_works2 rfl) (e_X12_works2 16 d (by omega) s2 (0 : Int32) (f_X12_everybody s2))) (fun r3 => ?_)
  show fu_J _ _ (fr_X d (some .int) k_X12_round 19 [.ref 117] [.int r3] s2)
  exact fu_iret rfl rfl
/-! X12_works -/
theorem el_X12_works_84 (d : Nat) (hd : 22 ≤ d) : ∀ (n : Nat) (s : fu_S) (x1 : Int32) (x2 : Int32) (x3 : Int32) (x4 : Int32) (x5 : Int32) (x6 : Int32) (x7 : Int32), fu_J (l_X12_works_84 n s x1 x2 x3 x4 x5 x6 x7) (fun r => fr_X d (some .int) k_X12_works 131 [.ref 117, .int x1, .int x2, .int r, .int x4, am_U, am_U, am_U] [] s) (fr_X d (some .int) k_X12_works 84 [.ref 117, .int x1, .int x2, .int x3, .int x4, .int x5, .int x6, .int x7] [] s) := by
  intro n
  induction n with
  | zero => intros; exact fu_none
  | succ n ih =>
    intro s x1 x2 x3 x4 x5 x6 x7
    rw [l_X12_works_84]
    refine fu_go 1 (pc' := 86) (ls' := [.ref 117, .int x1, .int x2, .int x3, .int x4, .int x5, .int x6, .int x7]) (st' := [.int x7]) (s' := s) rfl ?_
    refine fu_ite (fun h10 => fu_step (fu_if_lt_t rfl h10) ?_) (fun h10 => fu_step (fu_if_lt_f rfl h10) ?_)
    · exact fu_leaf rfl ⟨.inr rfl, .inr rfl, .inr rfl, .inr rfl, .inr rfl, .inl rfl, .inl rfl, .inl rfl, trivial⟩
    · refine fu_go 2 (pc' := 93) (ls' := [.ref 117, .int x1, .int x2, .int x3, .int x4, .int x5, .int x6, .int x7]) (st' := [.int x7, .int x6]) (s' := s) rfl ?_
      refine fu_step (fu_cS rfl rfl rfl rfl rfl rfl (fu_eq (e_X12_has d (by omega) s x6 x7) rfl)) ?_
      show fu_J _ _ (fr_X d (some .int) k_X12_works 96 [.ref 117, .int x1, .int x2, .int x3, .int x4, .int x5, .int x6, .int x7] [.int (fu_b (f_X12_has x6 x7))] s)
      refine fu_bind (V := fun j11 : Int32 => fr_X d (some .int) k_X12_works 125 [.ref 117, .int x1, .int x2, .int j11, .int x4, .int x5, .int x6, .int x7] [] s) ?_ (fun j11 => ?_)
      · refine fu_ite (fun h12 => fu_step (fu_ib_eq_t rfl h12) ?_) (fun h12 => fu_step (fu_ib_eq_f rfl h12) ?_)
        · refine fu_go 12 (pc' := 113) (ls' := [.ref 117, .int x1, .int x2, .int x3, .int x4, .int x5, .int x6, .int x7]) (st' := [.int (x2 &&& (((1 : Int32) <<< (x7 &&& 31)) ^^^ (-1 : Int32))), .int (x4 + (1 : Int32)), .ref 117, .int (1 : Int32)]) (s' := s) rfl ?_
          refine fu_bind (fu_cVJ rfl rfl rfl rfl rfl (fu_recv fr_117 am_at_X12_works2 rfl) (e_X12_works2 16 d (by omega) s (x4 + (1 : Int32)) (x2 &&& (((1 : Int32) <<< (x7 &&& 31)) ^^^ (-1 : Int32))))) (fun r13 => ?_)
          show fu_J _ _ (fr_X d (some .int) k_X12_works 116 [.ref 117, .int x1, .int x2, .int x3, .int x4, .int x5, .int x6, .int x7] [.int r13, .int (1 : Int32)] s)
          refine fu_go 2 (pc' := 119) (ls' := [.ref 117, .int x1, .int x2, .int x3, .int x4, .int x5, .int x6, .int x7]) (st' := [.int x5, .int ((1 : Int32) + r13)]) (s' := s) rfl ?_
          refine fu_ite (fun h14 => fu_step (fu_ic_ne_t rfl h14) ?_) (fun h14 => fu_step (fu_ic_ne_f rfl h14) ?_)
          · refine fu_go 2 (pc' := 125) (ls' := [.ref 117, .int x1, .int x2, .int x7, .int x4, .int x5, .int x6, .int x7]) (st' := []) (s' := s) rfl ?_
            exact fu_leaf rfl ⟨.inr rfl, .inr rfl, .inr rfl, .inr rfl, .inr rfl, .inr rfl, .inr rfl, .inr rfl, trivial⟩
          · exact fu_leaf rfl ⟨.inr rfl, .inr rfl, .inr rfl, .inr rfl, .inr rfl, .inr rfl, .inr rfl, .inr rfl, trivial⟩
        · exact fu_leaf rfl ⟨.inr rfl, .inr rfl, .inr rfl, .inr rfl, .inr rfl, .inr rfl, .inr rfl, .inr rfl, trivial⟩
      show fu_J _ _ (fr_X d (some .int) k_X12_works 125 [.ref 117, .int x1, .int x2, .int j11, .int x4, .int x5, .int x6, .int x7] [] s)
      refine fu_go 2 (pc' := 84) (ls' := [.ref 117, .int x1, .int x2, .int j11, .int x4, .int x5, .int x6, .int (x7 + (-1 : Int32))]) (st' := []) (s' := s) rfl ?_
      exact fu_drop (ls' := [.ref 117, .int x1, .int x2, .int j11, .int x4, .int x5, .int x6, .int (x7 + (-1 : Int32))]) ⟨.inr rfl, .inr rfl, .inr rfl, .inr rfl, .inr rfl, .inr rfl, .inr rfl, .inr rfl, trivial⟩ (ih s x1 x2 j11 x4 x5 x6 (x7 + (-1 : Int32)))
theorem el_X12_works_34 (d : Nat) (hd : 22 ≤ d) : ∀ (n : Nat) (s : fu_S) (x1 : Int32) (x2 : Int32) (x3 : Int32) (x4 : Int32), fu_J (l_X12_works_34 n s x1 x2 x3 x4) (fun r => fr_X d (some .int) k_X12_works 149 [.ref 117, am_U, am_U, .int r, am_U, am_U, am_U, am_U] [] s) (fr_X d (some .int) k_X12_works 34 [.ref 117, .int x1, .int x2, .int x3, .int x4, am_U, am_U, am_U] [] s) := by
  intro n
  induction n with
  | zero => intros; exact fu_none
  | succ n ih =>
    intro s x1 x2 x3 x4
    rw [l_X12_works_34]
    refine fu_go 2 (pc' := 37) (ls' := [.ref 117, .int x1, .int x2, .int x3, .int x4, am_U, am_U, am_U]) (st' := [.int x1, .int x4]) (s' := s) rfl ?_
    refine fu_ite (fun h4 => fu_step (fu_ic_gt_t rfl h4) ?_) (fun h4 => fu_step (fu_ic_gt_f rfl h4) ?_)
    · refine fu_go 3 (pc' := 44) (ls' := [.ref 117, .int x1, .int x2, .int x3, .int x4, am_U, am_U, am_U]) (st' := [.int x2, .int x4, .ref 117]) (s' := s) rfl ?_
      refine fu_bind (fu_cVJ rfl rfl rfl rfl rfl (fu_recv fr_117 am_at_X12_works2 rfl) (e_X12_works2 16 d (by omega) s x4 x2)) (fun r5 => ?_)
      show fu_J _ _ (fr_X d (some .int) k_X12_works 47 [.ref 117, .int x1, .int x2, .int x3, .int x4, am_U, am_U, am_U] [.int r5] s)
      refine fu_go 3 (pc' := 52) (ls' := [.ref 117, .int x1, .int x2, .int x3, .int x4, .int r5, am_U, am_U]) (st' := [.int x4, .ref 117]) (s' := s) rfl ?_
      refine fu_bind (fu_cVJ rfl rfl rfl rfl rfl (fu_recv fr_117 am_at_X12_isUp rfl) (e_X12_isUp d (by omega) s x4)) (fun r6 => ?_)
      show fu_J _ _ (fr_X d (some .int) k_X12_works 55 [.ref 117, .int x1, .int x2, .int x3, .int x4, .int r5, am_U, am_U] [.int (fu_b r6)] s)
      refine fu_bind (V := fun j7 : Int32 => fr_X d (some .int) k_X12_works 70 [.ref 117, .int x1, .int x2, am_U, .int x4, .int r5, am_U, am_U] [.int j7] s) ?_ (fun j7 => ?_)
      · refine fu_ite (fun h8 => fu_step (fu_ib_eq_t rfl h8) ?_) (fun h8 => fu_step (fu_ib_eq_f rfl h8) ?_)
        · refine fu_go 2 (pc' := 61) (ls' := [.ref 117, .int x1, .int x2, .int x3, .int x4, .int r5, am_U, am_U]) (st' := [.int x4, .ref 117]) (s' := s) rfl ?_
          refine fu_bind (fu_cVJ rfl rfl rfl rfl rfl (fu_recv fr_117 am_at_X12_whoCould rfl) (e_X12_whoCould d (by omega) s x4)) (fun r9 => ?_)
          show fu_J _ _ (fr_X d (some .int) k_X12_works 64 [.ref 117, .int x1, .int x2, .int x3, .int x4, .int r5, am_U, am_U] [.int r9] s)
          refine fu_go 3 (pc' := 70) (ls' := [.ref 117, .int x1, .int x2, .int x3, .int x4, .int r5, am_U, am_U]) (st' := [.int (r9 &&& x2)]) (s' := s) rfl ?_
          exact fu_leaf rfl ⟨.inr rfl, .inr rfl, .inr rfl, .inl rfl, .inr rfl, .inr rfl, .inl rfl, .inl rfl, trivial⟩
        · refine fu_go 1 (pc' := 70) (ls' := [.ref 117, .int x1, .int x2, .int x3, .int x4, .int r5, am_U, am_U]) (st' := [.int (0 : Int32)]) (s' := s) rfl ?_
          exact fu_leaf rfl ⟨.inr rfl, .inr rfl, .inr rfl, .inl rfl, .inr rfl, .inr rfl, .inl rfl, .inl rfl, trivial⟩
      show fu_J _ _ (fr_X d (some .int) k_X12_works 70 [.ref 117, .int x1, .int x2, am_U, .int x4, .int r5, am_U, am_U] [.int j7] s)
      refine fu_go 4 (pc' := 75) (ls' := [.ref 117, .int x1, .int x2, .int (-1 : Int32), .int x4, .int r5, .int j7, am_U]) (st' := [.ref 117]) (s' := s) rfl ?_
      refine fu_step (fu_getR rfl fr_117 rfl rfl) ?_
      refine fu_go 1 (pc' := 79) (ls' := [.ref 117, .int x1, .int x2, .int (-1 : Int32), .int x4, .int r5, .int j7, am_U]) (st' := [.int (1 : Int32), .ref 122]) (s' := s) rfl ?_
      refine fu_step (fu_ldIk (k := 1) rfl fr_122 (by decide) (by decide)) ?_
      refine fu_go 3 (pc' := 84) (ls' := [.ref 117, .int x1, .int x2, .int (-1 : Int32), .int x4, .int r5, .int j7, .int ((s.1 122 1) - (1 : Int32))]) (st' := []) (s' := s) rfl ?_
      refine fu_drop (ls' := [.ref 117, .int x1, .int x2, .int (-1 : Int32), .int x4, .int r5, .int j7, .int ((s.1 122 1) - (1 : Int32))]) ⟨.inr rfl, .inr rfl, .inr rfl, .inr rfl, .inr rfl, .inr rfl, .inr rfl, .inr rfl, trivial⟩ ?_
      refine fu_bind (el_X12_works_84 d (by omega) fu_N s x1 x2 (-1 : Int32) x4 r5 j7 ((s.1 122 1) - (1 : Int32))) (fun r15 => ?_)
      show fu_J _ _ (fr_X d (some .int) k_X12_works 131 [.ref 117, .int x1, .int x2, .int r15, .int x4, am_U, am_U, am_U] [] s)
      refine fu_go 1 (pc' := 132) (ls' := [.ref 117, .int x1, .int x2, .int r15, .int x4, am_U, am_U, am_U]) (st' := [.int r15]) (s' := s) rfl ?_
      refine fu_bind (V := fun j16 : Int32 => fr_X d (some .int) k_X12_works 143 [.ref 117, .int x1, .int j16, .int r15, .int x4, am_U, am_U, am_U] [] s) ?_ (fun j16 => ?_)
      · refine fu_ite (fun h17 => fu_step (fu_if_lt_t rfl h17) ?_) (fun h17 => fu_step (fu_if_lt_f rfl h17) ?_)
        · exact fu_leaf rfl ⟨.inr rfl, .inr rfl, .inr rfl, .inr rfl, .inr rfl, .inl rfl, .inl rfl, .inl rfl, trivial⟩
        · refine fu_go 8 (pc' := 143) (ls' := [.ref 117, .int x1, .int (x2 &&& (((1 : Int32) <<< (r15 &&& 31)) ^^^ (-1 : Int32))), .int r15, .int x4, am_U, am_U, am_U]) (st' := []) (s' := s) rfl ?_
          exact fu_leaf rfl ⟨.inr rfl, .inr rfl, .inr rfl, .inr rfl, .inr rfl, .inl rfl, .inl rfl, .inl rfl, trivial⟩
      show fu_J _ _ (fr_X d (some .int) k_X12_works 143 [.ref 117, .int x1, .int j16, .int r15, .int x4, am_U, am_U, am_U] [] s)
      refine fu_go 2 (pc' := 34) (ls' := [.ref 117, .int x1, .int j16, .int r15, .int (x4 + (1 : Int32)), am_U, am_U, am_U]) (st' := []) (s' := s) rfl ?_
      exact fu_drop (ls' := [.ref 117, .int x1, .int j16, .int r15, .int (x4 + (1 : Int32)), am_U, am_U, am_U]) ⟨.inr rfl, .inr rfl, .inr rfl, .inr rfl, .inr rfl, .inl rfl, .inl rfl, .inl rfl, trivial⟩ (ih s x1 j16 r15 (x4 + (1 : Int32)))
    · exact fu_leaf rfl ⟨.inr rfl, .inl rfl, .inl rfl, .inr rfl, .inl rfl, .inl rfl, .inl rfl, .inl rfl, trivial⟩
set_option maxRecDepth 100000 in
theorem e_X12_works (d : Nat) (hd : 23 ≤ d) (s : fu_S) (a1 : Int32) : fu_J (f_X12_works s a1) (fun r => some (some (.int r.1), r.2)) (am_D (fu_ho fr_sh) am_m d 339 [.ref 117, .int a1] s) := by
  obtain ⟨d, rfl⟩ : ∃ e, d = e + 1 := ⟨d - 1, by omega⟩
  refine fu_enter (ls := [.ref 117, .int a1, am_U, am_U, am_U, am_U, am_U, am_U]) am_at_X12_works rfl rfl ?_
  show fu_J _ _ (fr_X d (some .int) k_X12_works 0 [.ref 117, .int a1, am_U, am_U, am_U, am_U, am_U, am_U] [] s)
  unfold f_X12_works
  refine fu_go 2 (pc' := 2) (ls' := [.ref 117, .int a1, am_U, am_U, am_U, am_U, am_U, am_U]) (st' := [.int (0 : Int32), .ref 117]) (s' := s) rfl ?_
  refine fu_lets (b := (fu_pi s 117 1 (0 : Int32))) (fu_putI rfl fr_117 rfl rfl) (fun s1 => ?_)
  refine fu_go 2 (pc' := 7) (ls' := [.ref 117, .int a1, am_U, am_U, am_U, am_U, am_U, am_U]) (st' := [.int (0 : Int32), .ref 117]) (s' := s1) rfl ?_
  refine fu_lets (b := (fu_pi s1 117 0 (0 : Int32))) (fu_putI rfl fr_117 rfl rfl) (fun s2 => ?_)
  refine fu_go 2 (pc' := 12) (ls' := [.ref 117, .int a1, am_U, am_U, am_U, am_U, am_U, am_U]) (st' := [.int a1, .ref 117]) (s' := s2) rfl ?_
  refine fu_step (fu_cV rfl rfl rfl rfl rfl (fu_recv fr_117 am_at_X12_isThingAt rfl) (fu_eq (e_X12_isThingAt d (by omega) s2 a1) rfl)) ?_
  show fu_J _ _ (fr_X d (some .int) k_X12_works 15 [.ref 117, .int a1, am_U, am_U, am_U, am_U, am_U, am_U] [.int (fu_b (f_X12_isThingAt s2 a1))] s2)
  refine fu_ite (fun h3 => fu_step (fu_ib_ne_t rfl h3) ?_) (fun h3 => fu_step (fu_ib_ne_f rfl h3) ?_)
  · refine fu_go 1 (pc' := 25) (ls' := [.ref 117, .int a1, am_U, am_U, am_U, am_U, am_U, am_U]) (st' := [.ref 117]) (s' := s2) rfl ?_
    refine fu_step (fu_cV rfl rfl rfl rfl rfl (fu_recv fr_117 am_at_X12_everybody rfl) (fu_eq (e_X12_everybody d (by omega) s2) rfl)) ?_
    show fu_J _ _ (fr_X d (some .int) k_X12_works 28 [.ref 117, .int a1, am_U, am_U, am_U, am_U, am_U, am_U] [.int (f_X12_everybody s2)] s2)
    refine fu_go 5 (pc' := 34) (ls' := [.ref 117, .int a1, .int (f_X12_everybody s2), .int (-1 : Int32), .int (0 : Int32), am_U, am_U, am_U]) (st' := []) (s' := s2) rfl ?_
    refine fu_drop (ls' := [.ref 117, .int a1, .int (f_X12_everybody s2), .int (-1 : Int32), .int (0 : Int32), am_U, am_U, am_U]) ⟨.inr rfl, .inr rfl, .inr rfl, .inr rfl, .inr rfl, .inl rfl, .inl rfl, .inl rfl, trivial⟩ ?_
    refine fu_bind (el_X12_works_34 d (by omega) fu_N s2 a1 (f_X12_everybody s2) (-1 : Int32) (0 : Int32)) (fun r18 => ?_)
    show fu_J _ _ (fr_X d (some .int) k_X12_works 149 [.ref 117, am_U, am_U, .int r18, am_U, am_U, am_U, am_U] [] s2)
    refine fu_go 1 (pc' := 150) (ls' := [.ref 117, am_U, am_U, .int r18, am_U, am_U, am_U, am_U]) (st' := [.int r18]) (s' := s2) rfl ?_
    refine fu_bind (V := fun j19 : Int32 × fu_S => fr_X d (some .int) k_X12_works 163 [am_U, am_U, am_U, am_U, am_U, am_U, am_U, am_U] [.int j19.1] j19.2) ?_ (fun j19 => ?_)
    · refine fu_ite (fun h20 => fu_step (fu_if_ge_t rfl h20) ?_) (fun h20 => fu_step (fu_if_ge_f rfl h20) ?_)
      · refine fu_go 2 (pc' := 156) (ls' := [.ref 117, am_U, am_U, .int r18, am_U, am_U, am_U, am_U]) (st' := [.int (8 : Int32), .ref 117]) (s' := s2) rfl ?_
        refine fu_let (fu_cVJ rfl rfl rfl rfl rfl (fu_recv fr_117 am_at_X12_refuse rfl) (e_X12_refuse d (by omega) s2 (8 : Int32))) (fun r21 => ?_)
        show fu_J _ _ (fr_X d (some .int) k_X12_works 159 [.ref 117, am_U, am_U, .int r18, am_U, am_U, am_U, am_U] [.int r21.1] r21.2)
        refine fu_go 1 (pc' := 163) (ls' := [.ref 117, am_U, am_U, .int r18, am_U, am_U, am_U, am_U]) (st' := [.int r21.1]) (s' := r21.2) rfl ?_
        exact fu_leaf rfl ⟨.inl rfl, .inl rfl, .inl rfl, .inl rfl, .inl rfl, .inl rfl, .inl rfl, .inl rfl, trivial⟩
      · refine fu_go 1 (pc' := 163) (ls' := [.ref 117, am_U, am_U, .int r18, am_U, am_U, am_U, am_U]) (st' := [.int r18]) (s' := s2) rfl ?_
        exact fu_leaf rfl ⟨.inl rfl, .inl rfl, .inl rfl, .inl rfl, .inl rfl, .inl rfl, .inl rfl, .inl rfl, trivial⟩
    show fu_J _ _ (fr_X d (some .int) k_X12_works 163 [am_U, am_U, am_U, am_U, am_U, am_U, am_U, am_U] [.int j19.1] j19.2)
    exact fu_iret rfl rfl
  · refine fu_go 2 (pc' := 20) (ls' := [.ref 117, .int a1, am_U, am_U, am_U, am_U, am_U, am_U]) (st' := [.int (2 : Int32), .ref 117]) (s' := s2) rfl ?_
    refine fu_let (fu_cVJ rfl rfl rfl rfl rfl (fu_recv fr_117 am_at_X12_refuse rfl) (e_X12_refuse d (by omega) s2 (2 : Int32))) (fun r22 => ?_)
    show fu_J _ _ (fr_X d (some .int) k_X12_works 23 [.ref 117, .int a1, am_U, am_U, am_U, am_U, am_U, am_U] [.int r22.1] r22.2)
    exact fu_iret rfl rfl
/-! X12_laysNeeds -/
theorem el_X12_laysNeeds_2 (d : Nat) (hd : 0 ≤ d) : ∀ (n : Nat) (s : fu_S) (x1 : Int32) (x2 : Int32), fu_J (l_X12_laysNeeds_2 n s x1 x2) (fun r => fr_X d none k_X12_laysNeeds 21 [.ref 117, .int x1, am_U] [] r) (fr_X d none k_X12_laysNeeds 2 [.ref 117, .int x1, .int x2] [] s) := by
  intro n
  induction n with
  | zero => intros; exact fu_none
  | succ n ih =>
    intro s x1 x2
    rw [l_X12_laysNeeds_2]
    refine fu_go 2 (pc' := 5) (ls' := [.ref 117, .int x1, .int x2]) (st' := [.int (7 : Int32), .int x2]) (s' := s) rfl ?_
    refine fu_ite (fun h1 => fu_step (fu_ic_ge_t rfl h1) ?_) (fun h1 => fu_step (fu_ic_ge_f rfl h1) ?_)
    · refine fu_go 1 (pc' := 9) (ls' := [.ref 117, .int x1, .int x2]) (st' := [.ref 117]) (s' := s) rfl ?_
      refine fu_step (fu_getR rfl fr_117 rfl rfl) ?_
      refine fu_go 2 (pc' := 14) (ls' := [.ref 117, .int x1, .int x2]) (st' := [.int (0 : Int32), .int x2, .ref 125]) (s' := s) rfl ?_
      refine fu_guard (fun h3 => fu_lets (b := (fu_pi s 125 (Int32.toNatClampNeg x2) (0 : Int32))) (fu_stI rfl fr_125 h3) (fun s2 => ?_))
      refine fu_go 2 (pc' := 2) (ls' := [.ref 117, .int x1, .int (x2 + (1 : Int32))]) (st' := []) (s' := s2) rfl ?_
      exact fu_drop (ls' := [.ref 117, .int x1, .int (x2 + (1 : Int32))]) ⟨.inr rfl, .inr rfl, .inr rfl, trivial⟩ (ih s2 x1 (x2 + (1 : Int32)))
    · exact fu_leaf rfl ⟨.inr rfl, .inr rfl, .inl rfl, trivial⟩
theorem el_X12_laysNeeds_23 (d : Nat) (hd : 2 ≤ d) : ∀ (n : Nat) (s : fu_S) (x1 : Int32) (x2 : Int32), fu_J (l_X12_laysNeeds_23 n s x1 x2) (fun r => fr_X d none k_X12_laysNeeds 79 [am_U, am_U, am_U] [] r) (fr_X d none k_X12_laysNeeds 23 [.ref 117, .int x1, .int x2] [] s) := by
  intro n
  induction n with
  | zero => intros; exact fu_none
  | succ n ih =>
    intro s x1 x2
    rw [l_X12_laysNeeds_23]
    refine fu_go 2 (pc' := 25) (ls' := [.ref 117, .int x1, .int x2]) (st' := [.ref 117, .int x2]) (s' := s) rfl ?_
    refine fu_step (fu_getR rfl fr_117 rfl rfl) ?_
    refine fu_go 1 (pc' := 29) (ls' := [.ref 117, .int x1, .int x2]) (st' := [.int (2 : Int32), .ref 122, .int x2]) (s' := s) rfl ?_
    refine fu_step (fu_ldIk (k := 2) rfl fr_122 (by decide) (by decide)) ?_
    refine fu_ite (fun h5 => fu_step (fu_ic_ge_t rfl h5) ?_) (fun h5 => fu_step (fu_ic_ge_f rfl h5) ?_)
    · refine fu_go 2 (pc' := 35) (ls' := [.ref 117, .int x1, .int x2]) (st' := [.int x2, .ref 117]) (s' := s) rfl ?_
      refine fu_bind (fu_cVJ rfl rfl rfl rfl rfl (fu_recv fr_117 am_at_X12_isScratched rfl) (e_X12_isScratched d (by omega) s x2)) (fun r6 => ?_)
      show fu_J _ _ (fr_X d none k_X12_laysNeeds 38 [.ref 117, .int x1, .int x2] [.int (fu_b r6)] s)
      refine fu_bind (V := fun j7 : fu_S => fr_X d none k_X12_laysNeeds 73 [.ref 117, .int x1, .int x2] [] j7) ?_ (fun j7 => ?_)
      · refine fu_ite (fun h8 => fu_step (fu_ib_ne_t rfl h8) ?_) (fun h8 => fu_step (fu_ib_ne_f rfl h8) ?_)
        · exact fu_leaf rfl ⟨.inr rfl, .inr rfl, .inr rfl, trivial⟩
        · refine fu_go 2 (pc' := 43) (ls' := [.ref 117, .int x1, .int x2]) (st' := [.int x2, .int x1]) (s' := s) rfl ?_
          refine fu_step (fu_cS rfl rfl rfl rfl rfl rfl (fu_eq (e_X12_has d (by omega) s x1 x2) rfl)) ?_
          show fu_J _ _ (fr_X d none k_X12_laysNeeds 46 [.ref 117, .int x1, .int x2] [.int (fu_b (f_X12_has x1 x2))] s)
          refine fu_ite (fun h9 => fu_step (fu_ib_ne_t rfl h9) ?_) (fun h9 => fu_step (fu_ib_ne_f rfl h9) ?_)
          · exact fu_leaf rfl ⟨.inr rfl, .inr rfl, .inr rfl, trivial⟩
          · refine fu_go 1 (pc' := 50) (ls' := [.ref 117, .int x1, .int x2]) (st' := [.ref 117]) (s' := s) rfl ?_
            refine fu_step (fu_getR rfl fr_117 rfl rfl) ?_
            refine fu_go 1 (pc' := 54) (ls' := [.ref 117, .int x1, .int x2]) (st' := [.ref 117, .ref 125]) (s' := s) rfl ?_
            refine fu_step (fu_getR rfl fr_117 rfl rfl) ?_
            refine fu_go 3 (pc' := 61) (ls' := [.ref 117, .int x1, .int x2]) (st' := [.int ((35 : Int32) + x2), .ref 122, .ref 125]) (s' := s) rfl ?_
            refine fu_guard (fun h10 => fu_step (fu_ldI rfl fr_122 h10) ?_)
            refine fu_go 1 (pc' := 63) (ls' := [.ref 117, .int x1, .int x2]) (st' := [.int (s.1 122 (Int32.toNatClampNeg ((35 : Int32) + x2))), .ref 125, .int (s.1 122 (Int32.toNatClampNeg ((35 : Int32) + x2))), .ref 125]) (s' := s) rfl ?_
            refine fu_guard (fun h11 => fu_step (fu_ldI rfl fr_125 h11) ?_)
            refine fu_go 3 (pc' := 67) (ls' := [.ref 117, .int x1, .int x2]) (st' := [.int x2, .ref 117, .int (1 : Int32), .int (s.1 125 (Int32.toNatClampNeg (s.1 122 (Int32.toNatClampNeg ((35 : Int32) + x2))))), .int (s.1 122 (Int32.toNatClampNeg ((35 : Int32) + x2))), .ref 125]) (s' := s) rfl ?_
            refine fu_bind (fu_cVJ rfl rfl rfl rfl rfl (fu_recv fr_117 am_at_X12_bearerOf rfl) (e_X12_bearerOf d (by omega) s x2)) (fun r12 => ?_)
            show fu_J _ _ (fr_X d none k_X12_laysNeeds 70 [.ref 117, .int x1, .int x2] [.int r12, .int (1 : Int32), .int (s.1 125 (Int32.toNatClampNeg (s.1 122 (Int32.toNatClampNeg ((35 : Int32) + x2))))), .int (s.1 122 (Int32.toNatClampNeg ((35 : Int32) + x2))), .ref 125] s)
            refine fu_go 2 (pc' := 72) (ls' := [.ref 117, .int x1, .int x2]) (st' := [.int ((s.1 125 (Int32.toNatClampNeg (s.1 122 (Int32.toNatClampNeg ((35 : Int32) + x2))))) ||| ((1 : Int32) <<< (r12 &&& 31))), .int (s.1 122 (Int32.toNatClampNeg ((35 : Int32) + x2))), .ref 125]) (s' := s) rfl ?_
            refine fu_guard (fun h14 => fu_lets (b := (fu_pi s 125 (Int32.toNatClampNeg (s.1 122 (Int32.toNatClampNeg ((35 : Int32) + x2)))) ((s.1 125 (Int32.toNatClampNeg (s.1 122 (Int32.toNatClampNeg ((35 : Int32) + x2))))) ||| ((1 : Int32) <<< (r12 &&& 31))))) (fu_stI rfl fr_125 h14) (fun s13 => ?_))
            exact fu_leaf rfl ⟨.inr rfl, .inr rfl, .inr rfl, trivial⟩
      show fu_J _ _ (fr_X d none k_X12_laysNeeds 73 [.ref 117, .int x1, .int x2] [] j7)
      refine fu_go 2 (pc' := 23) (ls' := [.ref 117, .int x1, .int (x2 + (1 : Int32))]) (st' := []) (s' := j7) rfl ?_
      exact fu_drop (ls' := [.ref 117, .int x1, .int (x2 + (1 : Int32))]) ⟨.inr rfl, .inr rfl, .inr rfl, trivial⟩ (ih j7 x1 (x2 + (1 : Int32)))
    · exact fu_leaf rfl ⟨.inl rfl, .inl rfl, .inl rfl, trivial⟩
set_option maxRecDepth 100000 in
theorem e_X12_laysNeeds (d : Nat) (hd : 3 ≤ d) (s : fu_S) (a1 : Int32) : fu_J (f_X12_laysNeeds s a1) (fun r => some (none, r)) (am_D (fu_ho fr_sh) am_m d 340 [.ref 117, .int a1] s) := by
  obtain ⟨d, rfl⟩ : ∃ e, d = e + 1 := ⟨d - 1, by omega⟩
  refine fu_enter (ls := [.ref 117, .int a1, am_U]) am_at_X12_laysNeeds rfl rfl ?_
  show fu_J _ _ (fr_X d none k_X12_laysNeeds 0 [.ref 117, .int a1, am_U] [] s)
  unfold f_X12_laysNeeds
  refine fu_go 2 (pc' := 2) (ls' := [.ref 117, .int a1, .int (0 : Int32)]) (st' := []) (s' := s) rfl ?_
  refine fu_drop (ls' := [.ref 117, .int a1, .int (0 : Int32)]) ⟨.inr rfl, .inr rfl, .inr rfl, trivial⟩ ?_
  refine fu_bind (el_X12_laysNeeds_2 d (by omega) fu_N s a1 (0 : Int32)) (fun r4 => ?_)
  show fu_J _ _ (fr_X d none k_X12_laysNeeds 21 [.ref 117, .int a1, am_U] [] r4)
  refine fu_go 2 (pc' := 23) (ls' := [.ref 117, .int a1, .int (0 : Int32)]) (st' := []) (s' := r4) rfl ?_
  refine fu_drop (ls' := [.ref 117, .int a1, .int (0 : Int32)]) ⟨.inr rfl, .inr rfl, .inr rfl, trivial⟩ ?_
  refine fu_bind (el_X12_laysNeeds_23 d (by omega) fu_N r4 a1 (0 : Int32)) (fun r15 => ?_)
  show fu_J _ _ (fr_X d none k_X12_laysNeeds 79 [am_U, am_U, am_U] [] r15)
  exact fu_vret rfl rfl
