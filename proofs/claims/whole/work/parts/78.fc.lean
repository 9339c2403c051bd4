/-! printed by wip/whole/lift/lift.py: the small machine comes to what the functions answer -/
/-! X8_takePersonOf -/
set_option maxRecDepth 100000 in
theorem e_X8_takePersonOf (d : Nat) (hd : 3 ≤ d) (s : fu_S) (P1 : Nat) (hP1 : fc_is3 P1) : fu_J (f_X8_takePersonOf s P1) (fun r => some (some (.int r.1), r.2)) (am_D (fu_ho fc_sh) am_m d 161 [.ref 5, .ref P1] s) := by
  obtain ⟨d, rfl⟩ : ∃ e, d = e + 1 := ⟨d - 1, by omega⟩
  refine fu_enter (ls := [.ref 5, .ref P1, am_U, am_U, am_U]) am_at_X8_takePersonOf rfl rfl ?_
  show fu_J _ _ (fc_X d (some .int) k_X8_takePersonOf 0 [.ref 5, .ref P1, am_U, am_U, am_U] [] s)
  unfold f_X8_takePersonOf
  refine fu_go 1 (pc' := 1) (ls' := [.ref 5, .ref P1, am_U, am_U, am_U]) (st' := [.ref 5]) (s' := s) rfl ?_
  refine fu_bind (fu_cVJ rfl rfl rfl rfl rfl (fu_recv fc_5 am_at_X8_nameHere rfl) (e_X8_nameHere d (by omega) s)) (fun r1 => ?_)
  show fu_J _ _ (fc_X d (some .int) k_X8_takePersonOf 4 [.ref 5, .ref P1, am_U, am_U, am_U] [.long r1] s)
  refine fu_go 3 (pc' := 9) (ls' := [.ref 5, .ref P1, .long r1, am_U, am_U]) (st' := [.long (-1 : Int64), .long r1]) (s' := s) rfl ?_
  refine fu_bind (V := fun j2 : Int32 => fc_X d (some .int) k_X8_takePersonOf 26 [.ref 5, am_U, .long r1, am_U, am_U] [.int j2] s) ?_ (fun j2 => ?_)
  · refine fu_ite (fun h3 => fu_step (fu_lc_eq_t rfl rfl h3) ?_) (fun h3 => fu_step (fu_lc_eq_f rfl rfl h3) ?_)
    · refine fu_go 2 (pc' := 26) (ls' := [.ref 5, .ref P1, .long r1, am_U, am_U]) (st' := [.int (-1 : Int32)]) (s' := s) rfl ?_
      exact fu_leaf rfl ⟨.inr rfl, .inl rfl, .inr rfl, .inl rfl, .inl rfl, trivial⟩
    · refine fu_go 4 (pc' := 23) (ls' := [.ref 5, .ref P1, .long r1, am_U, am_U]) (st' := [.long r1, .ref P1]) (s' := s) rfl ?_
      refine fu_bind (fu_cVJ rfl rfl rfl rfl rfl (fu_recv hP1.1 am_at_X4_personNamed rfl) (e_X4_personNamed d (by omega) s P1 hP1 r1)) (fun r4 => ?_)
      show fu_J _ _ (fc_X d (some .int) k_X8_takePersonOf 26 [.ref 5, .ref P1, .long r1, am_U, am_U] [.int r4] s)
      exact fu_leaf rfl ⟨.inr rfl, .inl rfl, .inr rfl, .inl rfl, .inl rfl, trivial⟩
  show fu_J _ _ (fc_X d (some .int) k_X8_takePersonOf 26 [.ref 5, am_U, .long r1, am_U, am_U] [.int j2] s)
  refine fu_go 3 (pc' := 31) (ls' := [.ref 5, am_U, .long r1, am_U, .int j2]) (st' := [.int (-1 : Int32), .int j2]) (s' := s) rfl ?_
  refine fu_ite (fun h5 => fu_step (fu_ic_ne_t rfl h5) ?_) (fun h5 => fu_step (fu_ic_ne_f rfl h5) ?_)
  · refine fu_go 3 (pc' := 39) (ls' := [.ref 5, am_U, .long r1, am_U, .int j2]) (st' := [.long (-1 : Int64), .long r1, .ref 5]) (s' := s) rfl ?_
    refine fu_bind (V := fun j6 : Int32 => fc_X d (some .int) k_X8_takePersonOf 48 [am_U, am_U, am_U, am_U, am_U] [.int j6, .ref 5] s) ?_ (fun j6 => ?_)
    · refine fu_ite (fun h7 => fu_step (fu_lc_ne_t rfl rfl h7) ?_) (fun h7 => fu_step (fu_lc_ne_f rfl rfl h7) ?_)
      · refine fu_go 2 (pc' := 48) (ls' := [.ref 5, am_U, .long r1, am_U, .int j2]) (st' := [.int (2 : Int32), .ref 5]) (s' := s) rfl ?_
        exact fu_leaf rfl ⟨.inl rfl, .inl rfl, .inl rfl, .inl rfl, .inl rfl, trivial⟩
      · refine fu_go 1 (pc' := 48) (ls' := [.ref 5, am_U, .long r1, am_U, .int j2]) (st' := [.int (3 : Int32), .ref 5]) (s' := s) rfl ?_
        exact fu_leaf rfl ⟨.inl rfl, .inl rfl, .inl rfl, .inl rfl, .inl rfl, trivial⟩
    show fu_J _ _ (fc_X d (some .int) k_X8_takePersonOf 48 [am_U, am_U, am_U, am_U, am_U] [.int j6, .ref 5] s)
    refine fu_bind (fu_cVJ rfl rfl rfl rfl rfl (fu_recv fc_5 am_at_X8_refuse rfl) (e_X8_refuse d (by omega) s j6)) (fun r8 => ?_)
    show fu_J _ _ (fc_X d (some .int) k_X8_takePersonOf 51 [am_U, am_U, am_U, am_U, am_U] [.int (fu_b r8.1)] r8.2)
    refine fu_go 2 (pc' := 53) (ls' := [am_U, am_U, am_U, am_U, am_U]) (st' := [.int (-1 : Int32)]) (s' := r8.2) rfl ?_
    exact fu_iret rfl rfl
  · refine fu_go 1 (pc' := 55) (ls' := [.ref 5, am_U, .long r1, am_U, .int j2]) (st' := [.ref 5]) (s' := s) rfl ?_
    refine fu_let (fu_cVJ rfl rfl rfl rfl rfl (fu_recv fc_5 am_at_X8_next rfl) (e_X8_next d (by omega) s)) (fun r9 => ?_)
    show fu_J _ _ (fc_X d (some .int) k_X8_takePersonOf 58 [.ref 5, am_U, .long r1, am_U, .int j2] [] r9)
    refine fu_go 1 (pc' := 60) (ls' := [.ref 5, am_U, .long r1, am_U, .int j2]) (st' := [.int j2]) (s' := r9) rfl ?_
    exact fu_iret rfl rfl
/-! X4_addThing -/
set_option maxRecDepth 100000 in
theorem e_X4_addThing (d : Nat) (hd : 1 ≤ d) (s : fu_S) (P0 : Nat) (hP0 : fc_is3 P0) (a1 : Int32) (a2 : Int32) (a3 : Int32) : fu_J (f_X4_addThing s P0 a1 a2 a3) (fun r => some (some (.int r.1), r.2)) (am_D (fu_ho fc_sh) am_m d 75 [.ref P0, .int a1, .int a2, .int a3] s) := by
  obtain ⟨d, rfl⟩ : ∃ e, d = e + 1 := ⟨d - 1, by omega⟩
  refine fu_enter (ls := [.ref P0, .int a1, .int a2, .int a3]) am_at_X4_addThing rfl rfl ?_
  show fu_J _ _ (fc_X d (some .int) k_X4_addThing 0 [.ref P0, .int a1, .int a2, .int a3] [] s)
  unfold f_X4_addThing
  refine fu_go 1 (pc' := 1) (ls' := [.ref P0, .int a1, .int a2, .int a3]) (st' := [.ref P0]) (s' := s) rfl ?_
  refine fu_step (fu_getI rfl hP0.1 rfl rfl) ?_
  refine fu_go 1 (pc' := 6) (ls' := [.ref P0, .int a1, .int a2, .int a3]) (st' := [.int (8 : Int32), .int (s.1 P0 5)]) (s' := s) rfl ?_
  refine fu_ite (fun h1 => fu_step (fu_ic_lt_t rfl h1) ?_) (fun h1 => fu_step (fu_ic_lt_f rfl h1) ?_)
  · refine fu_go 1 (pc' := 12) (ls' := [.ref P0, .int a1, .int a2, .int a3]) (st' := [.ref P0]) (s' := s) rfl ?_
    refine fu_step (fu_getR rfl hP0.1 rfl rfl) ?_
    refine fu_go 1 (pc' := 16) (ls' := [.ref P0, .int a1, .int a2, .int a3]) (st' := [.ref P0, .ref (P0 + 7)]) (s' := s) rfl ?_
    refine fu_step (fu_getI rfl hP0.1 rfl rfl) ?_
    refine fu_go 1 (pc' := 20) (ls' := [.ref P0, .int a1, .int a2, .int a3]) (st' := [.int a1, .int (s.1 P0 5), .ref (P0 + 7)]) (s' := s) rfl ?_
    refine fu_guard (fun h3 => fu_lets (b := (fu_pi s (P0 + 7) (Int32.toNatClampNeg (s.1 P0 5)) a1)) (fu_stI rfl hP0.2.2.2.2.2.2.2.1 h3) (fun s2 => ?_))
    refine fu_go 1 (pc' := 22) (ls' := [.ref P0, .int a1, .int a2, .int a3]) (st' := [.ref P0]) (s' := s2) rfl ?_
    refine fu_step (fu_getR rfl hP0.1 rfl rfl) ?_
    refine fu_go 1 (pc' := 26) (ls' := [.ref P0, .int a1, .int a2, .int a3]) (st' := [.ref P0, .ref (P0 + 8)]) (s' := s2) rfl ?_
    refine fu_step (fu_getI rfl hP0.1 rfl rfl) ?_
    refine fu_go 1 (pc' := 30) (ls' := [.ref P0, .int a1, .int a2, .int a3]) (st' := [.int a2, .int (s2.1 P0 5), .ref (P0 + 8)]) (s' := s2) rfl ?_
    refine fu_guard (fun h5 => fu_lets (b := (fu_pi s2 (P0 + 8) (Int32.toNatClampNeg (s2.1 P0 5)) a2)) (fu_stI rfl hP0.2.2.2.2.2.2.2.2.1 h5) (fun s4 => ?_))
    refine fu_go 1 (pc' := 32) (ls' := [.ref P0, .int a1, .int a2, .int a3]) (st' := [.ref P0]) (s' := s4) rfl ?_
    refine fu_step (fu_getR rfl hP0.1 rfl rfl) ?_
    refine fu_go 1 (pc' := 36) (ls' := [.ref P0, .int a1, .int a2, .int a3]) (st' := [.ref P0, .ref (P0 + 9)]) (s' := s4) rfl ?_
    refine fu_step (fu_getI rfl hP0.1 rfl rfl) ?_
    refine fu_go 1 (pc' := 40) (ls' := [.ref P0, .int a1, .int a2, .int a3]) (st' := [.int a3, .int (s4.1 P0 5), .ref (P0 + 9)]) (s' := s4) rfl ?_
    refine fu_guard (fun h7 => fu_lets (b := (fu_pi s4 (P0 + 9) (Int32.toNatClampNeg (s4.1 P0 5)) a3)) (fu_stI rfl hP0.2.2.2.2.2.2.2.2.2.1 h7) (fun s6 => ?_))
    refine fu_go 1 (pc' := 42) (ls' := [.ref P0, .int a1, .int a2, .int a3]) (st' := [.ref P0]) (s' := s6) rfl ?_
    refine fu_step (fu_getR rfl hP0.1 rfl rfl) ?_
    refine fu_go 1 (pc' := 46) (ls' := [.ref P0, .int a1, .int a2, .int a3]) (st' := [.ref P0, .ref (P0 + 10)]) (s' := s6) rfl ?_
    refine fu_step (fu_getI rfl hP0.1 rfl rfl) ?_
    refine fu_go 1 (pc' := 50) (ls' := [.ref P0, .int a1, .int a2, .int a3]) (st' := [.ref P0, .int (s6.1 P0 5), .ref (P0 + 10)]) (s' := s6) rfl ?_
    refine fu_step (fu_getI rfl hP0.1 rfl rfl) ?_
    refine fu_guard (fun h9 => fu_lets (b := (fu_pi s6 (P0 + 10) (Int32.toNatClampNeg (s6.1 P0 5)) (s6.1 P0 2))) (fu_stI rfl hP0.2.2.2.2.2.2.2.2.2.2.1 h9) (fun s8 => ?_))
    refine fu_go 1 (pc' := 55) (ls' := [.ref P0, .int a1, .int a2, .int a3]) (st' := [.ref P0]) (s' := s8) rfl ?_
    refine fu_step (fu_getR rfl hP0.1 rfl rfl) ?_
    refine fu_go 1 (pc' := 59) (ls' := [.ref P0, .int a1, .int a2, .int a3]) (st' := [.ref P0, .ref (P0 + 11)]) (s' := s8) rfl ?_
    refine fu_step (fu_getI rfl hP0.1 rfl rfl) ?_
    refine fu_go 1 (pc' := 63) (ls' := [.ref P0, .int a1, .int a2, .int a3]) (st' := [.int (-1 : Int32), .int (s8.1 P0 5), .ref (P0 + 11)]) (s' := s8) rfl ?_
    refine fu_guard (fun h11 => fu_lets (b := (fu_pi s8 (P0 + 11) (Int32.toNatClampNeg (s8.1 P0 5)) (-1 : Int32))) (fu_stI rfl hP0.2.2.2.2.2.2.2.2.2.2.2.1 h11) (fun s10 => ?_))
    refine fu_go 1 (pc' := 65) (ls' := [.ref P0, .int a1, .int a2, .int a3]) (st' := [.ref P0]) (s' := s10) rfl ?_
    refine fu_step (fu_getR rfl hP0.1 rfl rfl) ?_
    refine fu_go 1 (pc' := 69) (ls' := [.ref P0, .int a1, .int a2, .int a3]) (st' := [.ref P0, .ref (P0 + 12)]) (s' := s10) rfl ?_
    refine fu_step (fu_getI rfl hP0.1 rfl rfl) ?_
    refine fu_go 1 (pc' := 73) (ls' := [.ref P0, .int a1, .int a2, .int a3]) (st' := [.int (-1 : Int32), .int (s10.1 P0 5), .ref (P0 + 12)]) (s' := s10) rfl ?_
    refine fu_guard (fun h13 => fu_lets (b := (fu_pi s10 (P0 + 12) (Int32.toNatClampNeg (s10.1 P0 5)) (-1 : Int32))) (fu_stI rfl hP0.2.2.2.2.2.2.2.2.2.2.2.2 h13) (fun s12 => ?_))
    refine fu_go 2 (pc' := 76) (ls' := [.ref P0, .int a1, .int a2, .int a3]) (st' := [.ref P0, .ref P0]) (s' := s12) rfl ?_
    refine fu_step (fu_getI rfl hP0.1 rfl rfl) ?_
    refine fu_go 2 (pc' := 81) (ls' := [.ref P0, .int a1, .int a2, .int a3]) (st' := [.int ((s12.1 P0 5) + (1 : Int32)), .ref P0]) (s' := s12) rfl ?_
    refine fu_lets (b := (fu_pi s12 P0 5 ((s12.1 P0 5) + (1 : Int32)))) (fu_putI rfl hP0.1 rfl rfl) (fun s14 => ?_)
    refine fu_go 1 (pc' := 85) (ls' := [.ref P0, .int a1, .int a2, .int a3]) (st' := [.ref P0]) (s' := s14) rfl ?_
    refine fu_step (fu_getI rfl hP0.1 rfl rfl) ?_
    refine fu_go 2 (pc' := 90) (ls' := [.ref P0, .int a1, .int a2, .int a3]) (st' := [.int ((s14.1 P0 5) - (1 : Int32))]) (s' := s14) rfl ?_
    exact fu_iret rfl rfl
  · refine fu_go 1 (pc' := 10) (ls' := [.ref P0, .int a1, .int a2, .int a3]) (st' := [.int (-1 : Int32)]) (s' := s) rfl ?_
    exact fu_iret rfl rfl
/-! X2_takeThing -/
set_option maxRecDepth 100000 in
theorem e_X2_takeThing (d : Nat) (hd : 5 ≤ d) (s : fu_S) : fu_J (f_X2_takeThing s) (fun r => some (some (.int (fu_b r.1)), r.2)) (am_D (fu_ho fc_sh) am_m d 29 [.ref 47] s) := by
  obtain ⟨d, rfl⟩ : ∃ e, d = e + 1 := ⟨d - 1, by omega⟩
  refine fu_enter (ls := [.ref 47, am_U, am_U, am_U]) am_at_X2_takeThing rfl rfl ?_
  show fu_J _ _ (fc_X d (some .boolean) k_X2_takeThing 0 [.ref 47, am_U, am_U, am_U] [] s)
  unfold f_X2_takeThing
  refine fu_go 1 (pc' := 1) (ls' := [.ref 47, am_U, am_U, am_U]) (st' := [.ref 47]) (s' := s) rfl ?_
  refine fu_step (fu_getR rfl fc_47 rfl rfl) ?_
  refine fu_step (fu_cV rfl rfl rfl rfl rfl (fu_recv fc_29 am_at_X4_things rfl) (fu_eq (e_X4_things d (by omega) s 29 fc_is3_29) rfl)) ?_
  show fu_J _ _ (fc_X d (some .boolean) k_X2_takeThing 7 [.ref 47, am_U, am_U, am_U] [.int (f_X4_things s 29)] s)
  refine fu_go 1 (pc' := 9) (ls' := [.ref 47, am_U, am_U, am_U]) (st' := [.int (8 : Int32), .int (f_X4_things s 29)]) (s' := s) rfl ?_
  refine fu_ite (fun h1 => fu_step (fu_ic_lt_t rfl h1) ?_) (fun h1 => fu_step (fu_ic_lt_f rfl h1) ?_)
  · refine fu_go 1 (pc' := 23) (ls' := [.ref 47, am_U, am_U, am_U]) (st' := [.ref 47]) (s' := s) rfl ?_
    refine fu_step (fu_getR rfl fc_47 rfl rfl) ?_
    refine fu_let (fu_cVJ rfl rfl rfl rfl rfl (fu_recv fc_5 am_at_X8_next rfl) (e_X8_next d (by omega) s)) (fun r2 => ?_)
    show fu_J _ _ (fc_X d (some .boolean) k_X2_takeThing 29 [.ref 47, am_U, am_U, am_U] [] r2)
    refine fu_go 1 (pc' := 30) (ls' := [.ref 47, am_U, am_U, am_U]) (st' := [.ref 47]) (s' := r2) rfl ?_
    refine fu_step (fu_getR rfl fc_47 rfl rfl) ?_
    refine fu_go 1 (pc' := 34) (ls' := [.ref 47, am_U, am_U, am_U]) (st' := [.ref 47, .ref 5]) (s' := r2) rfl ?_
    refine fu_step (fu_getR rfl fc_47 rfl rfl) ?_
    refine fu_bind (fu_cVJ rfl rfl rfl rfl rfl (fu_recv fc_5 am_at_X8_takePersonOf rfl) (e_X8_takePersonOf d (by omega) r2 29 fc_is3_29)) (fun r3 => ?_)
    show fu_J _ _ (fc_X d (some .boolean) k_X2_takeThing 40 [.ref 47, am_U, am_U, am_U] [.int r3.1] r3.2)
    refine fu_go 3 (pc' := 43) (ls' := [.ref 47, .int r3.1, am_U, am_U]) (st' := [.int (-1 : Int32), .int r3.1]) (s' := r3.2) rfl ?_
    refine fu_ite (fun h4 => fu_step (fu_ic_ne_t rfl h4) ?_) (fun h4 => fu_step (fu_ic_ne_f rfl h4) ?_)
    · refine fu_go 1 (pc' := 47) (ls' := [.ref 47, .int r3.1, am_U, am_U]) (st' := [.int (0 : Int32)]) (s' := r3.2) rfl ?_
      exact fu_bret (b := false) rfl rfl
    · refine fu_go 1 (pc' := 49) (ls' := [.ref 47, .int r3.1, am_U, am_U]) (st' := [.ref 47]) (s' := r3.2) rfl ?_
      refine fu_step (fu_getR rfl fc_47 rfl rfl) ?_
      refine fu_go 2 (pc' := 54) (ls' := [.ref 47, .int r3.1, am_U, am_U]) (st' := [.ref 47, .int (0 : Int32), .ref 5]) (s' := r3.2) rfl ?_
      refine fu_step (fu_getR rfl fc_47 rfl rfl) ?_
      refine fu_step (fu_cV rfl rfl rfl rfl rfl (fu_recv fc_29 am_at_X4_kinds rfl) (fu_eq (e_X4_kinds d (by omega) r3.2 29 fc_is3_29) rfl)) ?_
      show fu_J _ _ (fc_X d (some .boolean) k_X2_takeThing 60 [.ref 47, .int r3.1, am_U, am_U] [.int (f_X4_kinds r3.2 29), .int (0 : Int32), .ref 5] r3.2)
      refine fu_go 2 (pc' := 62) (ls' := [.ref 47, .int r3.1, am_U, am_U]) (st' := [.int ((f_X4_kinds r3.2 29) - (1 : Int32)), .int (0 : Int32), .ref 5]) (s' := r3.2) rfl ?_
      refine fu_bind (fu_cVJ rfl rfl rfl rfl rfl (fu_recv fc_5 am_at_X8_takeNumber rfl) (e_X8_takeNumber d (by omega) r3.2 (0 : Int32) ((f_X4_kinds r3.2 29) - (1 : Int32)))) (fun r5 => ?_)
      show fu_J _ _ (fc_X d (some .boolean) k_X2_takeThing 65 [.ref 47, .int r3.1, am_U, am_U] [.int r5.1] r5.2)
      refine fu_go 3 (pc' := 68) (ls' := [.ref 47, .int r3.1, .int r5.1, am_U]) (st' := [.int (-1 : Int32), .int r5.1]) (s' := r5.2) rfl ?_
      refine fu_ite (fun h6 => fu_step (fu_ic_ne_t rfl h6) ?_) (fun h6 => fu_step (fu_ic_ne_f rfl h6) ?_)
      · refine fu_go 1 (pc' := 72) (ls' := [.ref 47, .int r3.1, .int r5.1, am_U]) (st' := [.int (0 : Int32)]) (s' := r5.2) rfl ?_
        exact fu_bret (b := false) rfl rfl
      · refine fu_go 3 (pc' := 78) (ls' := [.ref 47, .int r3.1, .int r5.1, am_U]) (st' := [.int (9 : Int32), .int (110 : Int32), .ref 47]) (s' := r5.2) rfl ?_
        refine fu_bind (fu_cVJ rfl rfl rfl rfl rfl (fu_recv fc_47 am_at_X2_takePerhaps rfl) (e_X2_takePerhaps d (by omega) r5.2 (110 : Int32) (9 : Int32))) (fun r7 => ?_)
        show fu_J _ _ (fc_X d (some .boolean) k_X2_takeThing 81 [.ref 47, .int r3.1, .int r5.1, am_U] [.int r7.1] r7.2)
        refine fu_go 3 (pc' := 84) (ls' := [.ref 47, .int r3.1, .int r5.1, .int r7.1]) (st' := [.int (-1 : Int32), .int r7.1]) (s' := r7.2) rfl ?_
        refine fu_ite (fun h8 => fu_step (fu_ic_ne_t rfl h8) ?_) (fun h8 => fu_step (fu_ic_ne_f rfl h8) ?_)
        · refine fu_go 1 (pc' := 88) (ls' := [.ref 47, .int r3.1, .int r5.1, .int r7.1]) (st' := [.int (0 : Int32)]) (s' := r7.2) rfl ?_
          exact fu_bret (b := false) rfl rfl
        · refine fu_go 1 (pc' := 90) (ls' := [.ref 47, .int r3.1, .int r5.1, .int r7.1]) (st' := [.ref 47]) (s' := r7.2) rfl ?_
          refine fu_step (fu_getR rfl fc_47 rfl rfl) ?_
          refine fu_go 3 (pc' := 96) (ls' := [.ref 47, .int r3.1, .int r5.1, .int r7.1]) (st' := [.int r7.1, .int r5.1, .int r3.1, .ref 29]) (s' := r7.2) rfl ?_
          refine fu_bind (fu_cVJ rfl rfl rfl rfl rfl (fu_recv fc_29 am_at_X4_addThing rfl) (e_X4_addThing d (by omega) r7.2 29 fc_is3_29 r3.1 r5.1 r7.1)) (fun r9 => ?_)
          show fu_J _ _ (fc_X d (some .boolean) k_X2_takeThing 99 [.ref 47, .int r3.1, .int r5.1, .int r7.1] [.int r9.1] r9.2)
          refine fu_go 2 (pc' := 101) (ls' := [.ref 47, .int r3.1, .int r5.1, .int r7.1]) (st' := [.int (1 : Int32)]) (s' := r9.2) rfl ?_
          exact fu_bret (b := true) rfl rfl
  · refine fu_go 1 (pc' := 13) (ls' := [.ref 47, am_U, am_U, am_U]) (st' := [.ref 47]) (s' := s) rfl ?_
    refine fu_step (fu_getR rfl fc_47 rfl rfl) ?_
    refine fu_go 1 (pc' := 18) (ls' := [.ref 47, am_U, am_U, am_U]) (st' := [.int (6 : Int32), .ref 5]) (s' := s) rfl ?_
    refine fu_bind (fu_cVJ rfl rfl rfl rfl rfl (fu_recv fc_5 am_at_X8_refuse rfl) (e_X8_refuse d (by omega) s (6 : Int32))) (fun r10 => ?_)
    show fu_J _ _ (fc_X d (some .boolean) k_X2_takeThing 21 [.ref 47, am_U, am_U, am_U] [.int (fu_b r10.1)] r10.2)
    exact fu_bret (b := r10.1) rfl rfl
/-! X2_takePart -/
set_option maxRecDepth 100000 in
theorem e_X2_takePart (d : Nat) (hd : 6 ≤ d) (s : fu_S) : fu_J (f_X2_takePart s) (fun r => some (some (.int (fu_b r.1)), r.2)) (am_D (fu_ho fc_sh) am_m d 23 [.ref 47] s) := by
  obtain ⟨d, rfl⟩ : ∃ e, d = e + 1 := ⟨d - 1, by omega⟩
  refine fu_enter (ls := [.ref 47]) am_at_X2_takePart rfl rfl ?_
  show fu_J _ _ (fc_X d (some .boolean) k_X2_takePart 0 [.ref 47] [] s)
  unfold f_X2_takePart
  refine fu_go 1 (pc' := 1) (ls' := [.ref 47]) (st' := [.ref 47]) (s' := s) rfl ?_
  refine fu_step (fu_getR rfl fc_47 rfl rfl) ?_
  refine fu_bind (fu_cVJ rfl rfl rfl rfl rfl (fu_recv fc_5 am_at_X8_sortHere rfl) (e_X8_sortHere d (by omega) s)) (fun r1 => ?_)
  show fu_J _ _ (fc_X d (some .boolean) k_X2_takePart 7 [.ref 47] [.int r1] s)
  refine fu_ite (fun h2 => fu_step (fu_tsw_at (t := 60) rfl h2 (by decide)) ?_) (fun h2 => ?_)
  · refine fu_go 3 (pc' := 65) (ls' := [.ref 47]) (st' := [.int (16 : Int32), .int (100 : Int32), .ref 47]) (s' := s) rfl ?_
    refine fu_bind (fu_cVJ rfl rfl rfl rfl rfl (fu_recv fc_47 am_at_X2_takeRule rfl) (e_X2_takeRule d (by omega) s (100 : Int32) (16 : Int32))) (fun r3 => ?_)
    show fu_J _ _ (fc_X d (some .boolean) k_X2_takePart 68 [.ref 47] [.int (fu_b r3.1)] r3.2)
    exact fu_bret (b := r3.1) rfl rfl
  refine fu_ite (fun h4 => fu_step (fu_tsw_at (t := 69) rfl h4 (by decide)) ?_) (fun h4 => ?_)
  · refine fu_go 3 (pc' := 74) (ls' := [.ref 47]) (st' := [.int (59 : Int32), .int (101 : Int32), .ref 47]) (s' := s) rfl ?_
    refine fu_bind (fu_cVJ rfl rfl rfl rfl rfl (fu_recv fc_47 am_at_X2_takeRule rfl) (e_X2_takeRule d (by omega) s (101 : Int32) (59 : Int32))) (fun r5 => ?_)
    show fu_J _ _ (fc_X d (some .boolean) k_X2_takePart 77 [.ref 47] [.int (fu_b r5.1)] r5.2)
    exact fu_bret (b := r5.1) rfl rfl
  refine fu_ite (fun h6 => fu_step (fu_tsw_at (t := 78) rfl h6 (by decide)) ?_) (fun h6 => ?_)
  · refine fu_go 1 (pc' := 79) (ls' := [.ref 47]) (st' := [.ref 47]) (s' := s) rfl ?_
    refine fu_bind (fu_cVJ rfl rfl rfl rfl rfl (fu_recv fc_47 am_at_X2_takeKind rfl) (e_X2_takeKind d (by omega) s)) (fun r7 => ?_)
    show fu_J _ _ (fc_X d (some .boolean) k_X2_takePart 82 [.ref 47] [.int (fu_b r7.1)] r7.2)
    exact fu_bret (b := r7.1) rfl rfl
  refine fu_ite (fun h8 => fu_step (fu_tsw_at (t := 83) rfl h8 (by decide)) ?_) (fun h8 => ?_)
  · refine fu_go 1 (pc' := 84) (ls' := [.ref 47]) (st' := [.ref 47]) (s' := s) rfl ?_
    refine fu_bind (fu_cVJ rfl rfl rfl rfl rfl (fu_recv fc_47 am_at_X2_takePerson rfl) (e_X2_takePerson d (by omega) s)) (fun r9 => ?_)
    show fu_J _ _ (fc_X d (some .boolean) k_X2_takePart 87 [.ref 47] [.int (fu_b r9.1)] r9.2)
    exact fu_bret (b := r9.1) rfl rfl
  refine fu_ite (fun h10 => fu_step (fu_tsw_at (t := 88) rfl h10 (by decide)) ?_) (fun h10 => ?_)
  · refine fu_go 1 (pc' := 89) (ls' := [.ref 47]) (st' := [.ref 47]) (s' := s) rfl ?_
    refine fu_bind (fu_cVJ rfl rfl rfl rfl rfl (fu_recv fc_47 am_at_X2_takeThing rfl) (e_X2_takeThing d (by omega) s)) (fun r11 => ?_)
    show fu_J _ _ (fc_X d (some .boolean) k_X2_takePart 92 [.ref 47] [.int (fu_b r11.1)] r11.2)
    exact fu_bret (b := r11.1) rfl rfl
  refine fu_step (fu_tsw_d (t := 93) [100, 101, 102, 106, 109] rfl (by decide) (fu_allc (fu_ne h2 (by decide)) (fu_allc (fu_ne h4 (by decide)) (fu_allc (fu_ne h6 (by decide)) (fu_allc (fu_ne h8 (by decide)) (fu_allc (fu_ne h10 (by decide)) fu_all))))) (by decide)) ?_
  refine fu_go 1 (pc' := 94) (ls' := [.ref 47]) (st' := [.ref 47]) (s' := s) rfl ?_
  refine fu_step (fu_getR rfl fc_47 rfl rfl) ?_
  refine fu_go 1 (pc' := 98) (ls' := [.ref 47]) (st' := [.int (2 : Int32), .ref 5]) (s' := s) rfl ?_
  refine fu_bind (fu_cVJ rfl rfl rfl rfl rfl (fu_recv fc_5 am_at_X8_refuse rfl) (e_X8_refuse d (by omega) s (2 : Int32))) (fun r12 => ?_)
  show fu_J _ _ (fc_X d (some .boolean) k_X2_takePart 101 [.ref 47] [.int (fu_b r12.1)] r12.2)
  exact fu_bret (b := r12.1) rfl rfl
/-! X2_takeAll -/
theorem el_X2_takeAll_14 (d : Nat) (hd : 6 ≤ d) : ∀ (n : Nat) (s : fu_S) (x1 : Int32), fu_J (l_X2_takeAll_14 n s x1) (fun u => Sum.elim (fun r => some (some (.int (fu_b r.1)), r.2)) (fun r => fc_X d (some .boolean) k_X2_takeAll 58 [am_U, am_U] [] r) u) (fc_X d (some .boolean) k_X2_takeAll 14 [.ref 47, .int x1] [] s) := by
  intro n
  induction n with
  | zero => intros; exact fu_none
  | succ n ih =>
    intro s x1
    rw [l_X2_takeAll_14]
    refine fu_go 2 (pc' := 18) (ls' := [.ref 47, .int x1]) (st' := [.int (900 : Int32), .int x1]) (s' := s) rfl ?_
    refine fu_ite (fun h3 => fu_step (fu_ic_ge_t rfl h3) ?_) (fun h3 => fu_step (fu_ic_ge_f rfl h3) ?_)
    · refine fu_go 1 (pc' := 22) (ls' := [.ref 47, .int x1]) (st' := [.ref 47]) (s' := s) rfl ?_
      refine fu_step (fu_getR rfl fc_47 rfl rfl) ?_
      refine fu_bind (fu_cVJ rfl rfl rfl rfl rfl (fu_recv fc_5 am_at_X8_isAtEnd rfl) (e_X8_isAtEnd d (by omega) s)) (fun r4 => ?_)
      show fu_J _ _ (fc_X d (some .boolean) k_X2_takeAll 28 [.ref 47, .int x1] [.int (fu_b r4)] s)
      refine fu_ite (fun h5 => fu_step (fu_ib_ne_t rfl h5) ?_) (fun h5 => fu_step (fu_ib_ne_f rfl h5) ?_)
      · exact fu_leaf rfl ⟨.inl rfl, .inl rfl, trivial⟩
      · refine fu_go 1 (pc' := 32) (ls' := [.ref 47, .int x1]) (st' := [.ref 47]) (s' := s) rfl ?_
        refine fu_bind (fu_cVJ rfl rfl rfl rfl rfl (fu_recv fc_47 am_at_X2_takePart rfl) (e_X2_takePart d (by omega) s)) (fun r6 => ?_)
        show fu_J _ _ (fc_X d (some .boolean) k_X2_takeAll 35 [.ref 47, .int x1] [.int (fu_b r6.1)] r6.2)
        refine fu_ite (fun h7 => fu_step (fu_ib_eq_t rfl h7) ?_) (fun h7 => fu_step (fu_ib_eq_f rfl h7) ?_)
        · refine fu_go 1 (pc' := 39) (ls' := [.ref 47, .int x1]) (st' := [.ref 47]) (s' := r6.2) rfl ?_
          refine fu_step (fu_getR rfl fc_47 rfl rfl) ?_
          refine fu_go 1 (pc' := 44) (ls' := [.ref 47, .int x1]) (st' := [.int (59 : Int32), .ref 5]) (s' := r6.2) rfl ?_
          refine fu_bind (fu_cVJ rfl rfl rfl rfl rfl (fu_recv fc_5 am_at_X8_take rfl) (e_X8_take d (by omega) r6.2 (59 : Int32))) (fun r8 => ?_)
          show fu_J _ _ (fc_X d (some .boolean) k_X2_takeAll 47 [.ref 47, .int x1] [.int (fu_b r8.1)] r8.2)
          refine fu_ite (fun h9 => fu_step (fu_ib_ne_t rfl h9) ?_) (fun h9 => fu_step (fu_ib_ne_f rfl h9) ?_)
          · refine fu_go 2 (pc' := 14) (ls' := [.ref 47, .int (x1 + (1 : Int32))]) (st' := []) (s' := r8.2) rfl ?_
            exact fu_drop (ls' := [.ref 47, .int (x1 + (1 : Int32))]) ⟨.inr rfl, .inr rfl, trivial⟩ (ih r8.2 (x1 + (1 : Int32)))
          · refine fu_go 1 (pc' := 51) (ls' := [.ref 47, .int x1]) (st' := [.int (0 : Int32)]) (s' := r8.2) rfl ?_
            exact fu_bret (b := false) rfl rfl
        · refine fu_go 1 (pc' := 51) (ls' := [.ref 47, .int x1]) (st' := [.int (0 : Int32)]) (s' := r6.2) rfl ?_
          exact fu_bret (b := false) rfl rfl
    · exact fu_leaf rfl ⟨.inl rfl, .inl rfl, trivial⟩
set_option maxRecDepth 100000 in
theorem e_X2_takeAll (d : Nat) (hd : 7 ≤ d) (s : fu_S) : fu_J (f_X2_takeAll s) (fun r => some (some (.int (fu_b r.1)), r.2)) (am_D (fu_ho fc_sh) am_m d 22 [.ref 47] s) := by
  obtain ⟨d, rfl⟩ : ∃ e, d = e + 1 := ⟨d - 1, by omega⟩
  refine fu_enter (ls := [.ref 47, am_U]) am_at_X2_takeAll rfl rfl ?_
  show fu_J _ _ (fc_X d (some .boolean) k_X2_takeAll 0 [.ref 47, am_U] [] s)
  unfold f_X2_takeAll
  refine fu_go 2 (pc' := 2) (ls' := [.ref 47, am_U]) (st' := [.int (0 : Int32), .ref 47]) (s' := s) rfl ?_
  refine fu_lets (b := (fu_pi s 47 2 (0 : Int32))) (fu_putI rfl fc_47 rfl rfl) (fun s1 => ?_)
  refine fu_go 1 (pc' := 6) (ls' := [.ref 47, am_U]) (st' := [.ref 47]) (s' := s1) rfl ?_
  refine fu_step (fu_getR rfl fc_47 rfl rfl) ?_
  refine fu_let (fu_cVJ rfl rfl rfl rfl rfl (fu_recv fc_29 am_at_X4_clear rfl) (e_X4_clear d (by omega) s1 29 fc_is3_29)) (fun r2 => ?_)
  show fu_J _ _ (fc_X d (some .boolean) k_X2_takeAll 12 [.ref 47, am_U] [] r2)
  refine fu_go 2 (pc' := 14) (ls' := [.ref 47, .int (0 : Int32)]) (st' := []) (s' := r2) rfl ?_
  refine fu_drop (ls' := [.ref 47, .int (0 : Int32)]) ⟨.inr rfl, .inr rfl, trivial⟩ ?_
  refine fu_bind (el_X2_takeAll_14 d (by omega) fu_N r2 (0 : Int32)) (fun u => fu_sum (fun a => ?_) (fun r10 => ?_))
  · exact fu_ret rfl
  show fu_J _ _ (fc_X d (some .boolean) k_X2_takeAll 58 [am_U, am_U] [] r10)
  refine fu_go 1 (pc' := 59) (ls' := [am_U, am_U]) (st' := [.int (1 : Int32)]) (s' := r10) rfl ?_
  exact fu_bret (b := true) rfl rfl
/-! X3_wasRun -/
set_option maxRecDepth 100000 in
theorem e_X3_wasRun (d : Nat) (hd : 1 ≤ d) (s : fu_S) (P0 : Nat) (hP0 : fc_is2 P0) : fu_J (some (f_X3_wasRun s P0)) (fun r => some (some (.int (fu_b r)), s)) (am_D (fu_ho fc_sh) am_m d 31 [.ref P0] s) := by
  obtain ⟨d, rfl⟩ : ∃ e, d = e + 1 := ⟨d - 1, by omega⟩
  refine fu_enter (ls := [.ref P0]) am_at_X3_wasRun rfl rfl ?_
  show fu_J _ _ (fc_X d (some .boolean) k_X3_wasRun 0 [.ref P0] [] s)
  unfold f_X3_wasRun
  refine fu_go 1 (pc' := 1) (ls' := [.ref P0]) (st' := [.ref P0]) (s' := s) rfl ?_
  refine fu_step (fu_getB rfl hP0.1 rfl rfl) ?_
  exact fu_bret (b := (fu_tb (s.1 P0 8))) rfl rfl
/-! X3_steps -/
set_option maxRecDepth 100000 in
theorem e_X3_steps (d : Nat) (hd : 1 ≤ d) (s : fu_S) (P0 : Nat) (hP0 : fc_is2 P0) : fu_J (some (f_X3_steps s P0)) (fun r => some (some (.int r), s)) (am_D (fu_ho fc_sh) am_m d 32 [.ref P0] s) := by
  obtain ⟨d, rfl⟩ : ∃ e, d = e + 1 := ⟨d - 1, by omega⟩
  refine fu_enter (ls := [.ref P0]) am_at_X3_steps rfl rfl ?_
  show fu_J _ _ (fc_X d (some .int) k_X3_steps 0 [.ref P0] [] s)
  unfold f_X3_steps
  refine fu_go 1 (pc' := 1) (ls' := [.ref P0]) (st' := [.ref P0]) (s' := s) rfl ?_
  refine fu_step (fu_getI rfl hP0.1 rfl rfl) ?_
  exact fu_iret rfl rfl
/-! X3_tally -/
set_option maxRecDepth 100000 in
theorem e_X3_tally (d : Nat) (hd : 1 ≤ d) (s : fu_S) (P0 : Nat) (hP0 : fc_is2 P0) (a1 : Int32) : fu_J (some (f_X3_tally s P0 a1)) (fun r => some (some (.int r), s)) (am_D (fu_ho fc_sh) am_m d 33 [.ref P0, .int a1] s) := by
  obtain ⟨d, rfl⟩ : ∃ e, d = e + 1 := ⟨d - 1, by omega⟩
  refine fu_enter (ls := [.ref P0, .int a1]) am_at_X3_tally rfl rfl ?_
  show fu_J _ _ (fc_X d (some .int) k_X3_tally 0 [.ref P0, .int a1] [] s)
  unfold f_X3_tally
  refine fu_go 1 (pc' := 1) (ls' := [.ref P0, .int a1]) (st' := [.int a1]) (s' := s) rfl ?_
  refine fu_letS (V := fun j1 : Int32 => fc_X d (some .int) k_X3_tally 51 [am_U, am_U] [.int j1] s) ?_ (fun j1 => ?_)
  · refine fu_iteS (fun h2 => fu_step (fu_if_ne_t rfl h2) ?_) (fun h2 => fu_step (fu_if_ne_f rfl h2) ?_)
    · refine fu_go 1 (pc' := 5) (ls' := [.ref P0, .int a1]) (st' := [.ref P0]) (s' := s) rfl ?_
      refine fu_step (fu_getI rfl hP0.1 rfl rfl) ?_
      refine fu_go 1 (pc' := 51) (ls' := [.ref P0, .int a1]) (st' := [.int (s.1 P0 3)]) (s' := s) rfl ?_
      exact fu_leaf rfl ⟨.inl rfl, .inl rfl, trivial⟩
    · refine fu_go 2 (pc' := 13) (ls' := [.ref P0, .int a1]) (st' := [.int (1 : Int32), .int a1]) (s' := s) rfl ?_
      refine fu_iteS (fun h3 => fu_step (fu_ic_ne_t rfl h3) ?_) (fun h3 => fu_step (fu_ic_ne_f rfl h3) ?_)
      · refine fu_go 1 (pc' := 17) (ls' := [.ref P0, .int a1]) (st' := [.ref P0]) (s' := s) rfl ?_
        refine fu_step (fu_getI rfl hP0.1 rfl rfl) ?_
        refine fu_go 1 (pc' := 51) (ls' := [.ref P0, .int a1]) (st' := [.int (s.1 P0 4)]) (s' := s) rfl ?_
        exact fu_leaf rfl ⟨.inl rfl, .inl rfl, trivial⟩
      · refine fu_go 2 (pc' := 25) (ls' := [.ref P0, .int a1]) (st' := [.int (2 : Int32), .int a1]) (s' := s) rfl ?_
        refine fu_iteS (fun h4 => fu_step (fu_ic_ne_t rfl h4) ?_) (fun h4 => fu_step (fu_ic_ne_f rfl h4) ?_)
        · refine fu_go 1 (pc' := 29) (ls' := [.ref P0, .int a1]) (st' := [.ref P0]) (s' := s) rfl ?_
          refine fu_step (fu_getI rfl hP0.1 rfl rfl) ?_
          refine fu_go 1 (pc' := 51) (ls' := [.ref P0, .int a1]) (st' := [.int (s.1 P0 5)]) (s' := s) rfl ?_
          exact fu_leaf rfl ⟨.inl rfl, .inl rfl, trivial⟩
        · refine fu_go 2 (pc' := 37) (ls' := [.ref P0, .int a1]) (st' := [.int (3 : Int32), .int a1]) (s' := s) rfl ?_
          refine fu_iteS (fun h5 => fu_step (fu_ic_ne_t rfl h5) ?_) (fun h5 => fu_step (fu_ic_ne_f rfl h5) ?_)
          · refine fu_go 1 (pc' := 41) (ls' := [.ref P0, .int a1]) (st' := [.ref P0]) (s' := s) rfl ?_
            refine fu_step (fu_getI rfl hP0.1 rfl rfl) ?_
            refine fu_go 1 (pc' := 51) (ls' := [.ref P0, .int a1]) (st' := [.int (s.1 P0 6)]) (s' := s) rfl ?_
            exact fu_leaf rfl ⟨.inl rfl, .inl rfl, trivial⟩
          · refine fu_go 1 (pc' := 48) (ls' := [.ref P0, .int a1]) (st' := [.ref P0]) (s' := s) rfl ?_
            refine fu_step (fu_getI rfl hP0.1 rfl rfl) ?_
            exact fu_leaf rfl ⟨.inl rfl, .inl rfl, trivial⟩
  show fu_J _ _ (fc_X d (some .int) k_X3_tally 51 [am_U, am_U] [.int j1] s)
  exact fu_iret rfl rfl
/-! X5_lines -/
set_option maxRecDepth 100000 in
theorem e_X5_lines (d : Nat) (hd : 1 ≤ d) (s : fu_S) (P0 : Nat) (hP0 : fc_is4 P0) : fu_J (some (f_X5_lines s P0)) (fun r => some (some (.int r), s)) (am_D (fu_ho fc_sh) am_m d 104 [.ref P0] s) := by
  obtain ⟨d, rfl⟩ : ∃ e, d = e + 1 := ⟨d - 1, by omega⟩
  refine fu_enter (ls := [.ref P0]) am_at_X5_lines rfl rfl ?_
  show fu_J _ _ (fc_X d (some .int) k_X5_lines 0 [.ref P0] [] s)
  unfold f_X5_lines
  refine fu_go 1 (pc' := 1) (ls' := [.ref P0]) (st' := [.ref P0]) (s' := s) rfl ?_
  refine fu_step (fu_getI rfl hP0.1 rfl rfl) ?_
  exact fu_iret rfl rfl
/-! X5_hasLine -/
set_option maxRecDepth 100000 in
theorem e_X5_hasLine (d : Nat) (hd : 1 ≤ d) (s : fu_S) (P0 : Nat) (hP0 : fc_is4 P0) (a1 : Int32) : fu_J (some (f_X5_hasLine s P0 a1)) (fun r => some (some (.int (fu_b r)), s)) (am_D (fu_ho fc_sh) am_m d 111 [.ref P0, .int a1] s) := by
  obtain ⟨d, rfl⟩ : ∃ e, d = e + 1 := ⟨d - 1, by omega⟩
  refine fu_enter (ls := [.ref P0, .int a1]) am_at_X5_hasLine rfl rfl ?_
  show fu_J _ _ (fc_X d (some .boolean) k_X5_hasLine 0 [.ref P0, .int a1] [] s)
  unfold f_X5_hasLine
  refine fu_go 1 (pc' := 1) (ls' := [.ref P0, .int a1]) (st' := [.int a1]) (s' := s) rfl ?_
  refine fu_letS (V := fun j1 : Bool => fc_X d (some .boolean) k_X5_hasLine 17 [am_U, am_U] [.int (fu_b j1)] s) ?_ (fun j1 => ?_)
  · refine fu_iteS (fun h2 => fu_step (fu_if_lt_t rfl h2) ?_) (fun h2 => fu_step (fu_if_lt_f rfl h2) ?_)
    · refine fu_go 1 (pc' := 17) (ls' := [.ref P0, .int a1]) (st' := [.int (0 : Int32)]) (s' := s) rfl ?_
      exact fu_leaf rfl ⟨.inl rfl, .inl rfl, trivial⟩
    · refine fu_go 2 (pc' := 6) (ls' := [.ref P0, .int a1]) (st' := [.ref P0, .int a1]) (s' := s) rfl ?_
      refine fu_step (fu_getI rfl hP0.1 rfl rfl) ?_
      refine fu_iteS (fun h3 => fu_step (fu_ic_ge_t rfl h3) ?_) (fun h3 => fu_step (fu_ic_ge_f rfl h3) ?_)
      · refine fu_go 2 (pc' := 17) (ls' := [.ref P0, .int a1]) (st' := [.int (1 : Int32)]) (s' := s) rfl ?_
        exact fu_leaf rfl ⟨.inl rfl, .inl rfl, trivial⟩
      · refine fu_go 1 (pc' := 17) (ls' := [.ref P0, .int a1]) (st' := [.int (0 : Int32)]) (s' := s) rfl ?_
        exact fu_leaf rfl ⟨.inl rfl, .inl rfl, trivial⟩
  show fu_J _ _ (fc_X d (some .boolean) k_X5_hasLine 17 [am_U, am_U] [.int (fu_b j1)] s)
  exact fu_bret (b := j1) rfl rfl
/-! X5_deedAt -/
set_option maxRecDepth 100000 in
theorem e_X5_deedAt (d : Nat) (hd : 2 ≤ d) (s : fu_S) (P0 : Nat) (hP0 : fc_is4 P0) (a1 : Int32) : fu_J (f_X5_deedAt s P0 a1) (fun r => some (some (.int r), s)) (am_D (fu_ho fc_sh) am_m d 112 [.ref P0, .int a1] s) := by
  obtain ⟨d, rfl⟩ : ∃ e, d = e + 1 := ⟨d - 1, by omega⟩
  refine fu_enter (ls := [.ref P0, .int a1]) am_at_X5_deedAt rfl rfl ?_
  show fu_J _ _ (fc_X d (some .int) k_X5_deedAt 0 [.ref P0, .int a1] [] s)
  unfold f_X5_deedAt
  refine fu_go 2 (pc' := 2) (ls' := [.ref P0, .int a1]) (st' := [.int a1, .ref P0]) (s' := s) rfl ?_
  refine fu_step (fu_cV rfl rfl rfl rfl rfl (fu_recv hP0.1 am_at_X5_hasLine rfl) (fu_eq (e_X5_hasLine d (by omega) s P0 hP0 a1) rfl)) ?_
  show fu_J _ _ (fc_X d (some .int) k_X5_deedAt 5 [.ref P0, .int a1] [.int (fu_b (f_X5_hasLine s P0 a1))] s)
  refine fu_bind (V := fun j1 : Int32 => fc_X d (some .int) k_X5_deedAt 19 [am_U, am_U] [.int j1] s) ?_ (fun j1 => ?_)
  · refine fu_ite (fun h2 => fu_step (fu_ib_eq_t rfl h2) ?_) (fun h2 => fu_step (fu_ib_eq_f rfl h2) ?_)
    · refine fu_go 1 (pc' := 9) (ls' := [.ref P0, .int a1]) (st' := [.ref P0]) (s' := s) rfl ?_
      refine fu_step (fu_getR rfl hP0.1 rfl rfl) ?_
      refine fu_go 1 (pc' := 13) (ls' := [.ref P0, .int a1]) (st' := [.int a1, .ref (P0 + 1)]) (s' := s) rfl ?_
      refine fu_guard (fun h3 => fu_step (fu_ldI rfl hP0.2.1 h3) ?_)
      refine fu_go 1 (pc' := 19) (ls' := [.ref P0, .int a1]) (st' := [.int (s.1 (P0 + 1) (Int32.toNatClampNeg a1))]) (s' := s) rfl ?_
      exact fu_leaf rfl ⟨.inl rfl, .inl rfl, trivial⟩
    · refine fu_go 1 (pc' := 19) (ls' := [.ref P0, .int a1]) (st' := [.int (121 : Int32)]) (s' := s) rfl ?_
      exact fu_leaf rfl ⟨.inl rfl, .inl rfl, trivial⟩
  show fu_J _ _ (fc_X d (some .int) k_X5_deedAt 19 [am_U, am_U] [.int j1] s)
  exact fu_iret rfl rfl
/-! X5_mateAt -/
set_option maxRecDepth 100000 in
theorem e_X5_mateAt (d : Nat) (hd : 2 ≤ d) (s : fu_S) (P0 : Nat) (hP0 : fc_is4 P0) (a1 : Int32) : fu_J (f_X5_mateAt s P0 a1) (fun r => some (some (.int r), s)) (am_D (fu_ho fc_sh) am_m d 115 [.ref P0, .int a1] s) := by
  obtain ⟨d, rfl⟩ : ∃ e, d = e + 1 := ⟨d - 1, by omega⟩
  refine fu_enter (ls := [.ref P0, .int a1]) am_at_X5_mateAt rfl rfl ?_
  show fu_J _ _ (fc_X d (some .int) k_X5_mateAt 0 [.ref P0, .int a1] [] s)
  unfold f_X5_mateAt
  refine fu_go 2 (pc' := 2) (ls' := [.ref P0, .int a1]) (st' := [.int a1, .ref P0]) (s' := s) rfl ?_
  refine fu_step (fu_cV rfl rfl rfl rfl rfl (fu_recv hP0.1 am_at_X5_hasLine rfl) (fu_eq (e_X5_hasLine d (by omega) s P0 hP0 a1) rfl)) ?_
  show fu_J _ _ (fc_X d (some .int) k_X5_mateAt 5 [.ref P0, .int a1] [.int (fu_b (f_X5_hasLine s P0 a1))] s)
  refine fu_bind (V := fun j1 : Int32 => fc_X d (some .int) k_X5_mateAt 21 [am_U, am_U] [.int j1] s) ?_ (fun j1 => ?_)
  · refine fu_ite (fun h2 => fu_step (fu_ib_eq_t rfl h2) ?_) (fun h2 => fu_step (fu_ib_eq_f rfl h2) ?_)
    · refine fu_go 1 (pc' := 9) (ls' := [.ref P0, .int a1]) (st' := [.ref P0]) (s' := s) rfl ?_
      refine fu_step (fu_getR rfl hP0.1 rfl rfl) ?_
      refine fu_go 1 (pc' := 13) (ls' := [.ref P0, .int a1]) (st' := [.int a1, .ref (P0 + 4)]) (s' := s) rfl ?_
      refine fu_guard (fun h3 => fu_step (fu_ldI rfl hP0.2.2.2.2 h3) ?_)
      refine fu_go 1 (pc' := 21) (ls' := [.ref P0, .int a1]) (st' := [.int (s.1 (P0 + 4) (Int32.toNatClampNeg a1))]) (s' := s) rfl ?_
      exact fu_leaf rfl ⟨.inl rfl, .inl rfl, trivial⟩
    · refine fu_go 1 (pc' := 18) (ls' := [.ref P0, .int a1]) (st' := [.ref P0]) (s' := s) rfl ?_
      refine fu_step (fu_getI rfl hP0.1 rfl rfl) ?_
      exact fu_leaf rfl ⟨.inl rfl, .inl rfl, trivial⟩
  show fu_J _ _ (fc_X d (some .int) k_X5_mateAt 21 [am_U, am_U] [.int j1] s)
  exact fu_iret rfl rfl
/-! X3_behindEnd -/
set_option maxRecDepth 100000 in
theorem e_X3_behindEnd (d : Nat) (hd : 3 ≤ d) (s : fu_S) (P0 : Nat) (hP0 : fc_is2 P0) (P1 : Nat) (hP1 : fc_is4 P1) (a2 : Int32) : fu_J (f_X3_behindEnd s P0 P1 a2) (fun r => some (some (.int r.1), r.2)) (am_D (fu_ho fc_sh) am_m d 35 [.ref P0, .ref P1, .int a2] s) := by
  obtain ⟨d, rfl⟩ : ∃ e, d = e + 1 := ⟨d - 1, by omega⟩
  refine fu_enter (ls := [.ref P0, .ref P1, .int a2, am_U]) am_at_X3_behindEnd rfl rfl ?_
  show fu_J _ _ (fc_X d (some .int) k_X3_behindEnd 0 [.ref P0, .ref P1, .int a2, am_U] [] s)
  unfold f_X3_behindEnd
  refine fu_go 2 (pc' := 2) (ls' := [.ref P0, .ref P1, .int a2, am_U]) (st' := [.int a2, .ref P1]) (s' := s) rfl ?_
  refine fu_bind (fu_cVJ rfl rfl rfl rfl rfl (fu_recv hP1.1 am_at_X5_mateAt rfl) (e_X5_mateAt d (by omega) s P1 hP1 a2)) (fun r1 => ?_)
  show fu_J _ _ (fc_X d (some .int) k_X3_behindEnd 5 [.ref P0, .ref P1, .int a2, am_U] [.int r1] s)
  refine fu_go 3 (pc' := 8) (ls' := [.ref P0, .ref P1, .int a2, .int r1]) (st' := [.int r1, .ref P1]) (s' := s) rfl ?_
  refine fu_bind (fu_cVJ rfl rfl rfl rfl rfl (fu_recv hP1.1 am_at_X5_deedAt rfl) (e_X5_deedAt d (by omega) s P1 hP1 r1)) (fun r2 => ?_)
  show fu_J _ _ (fc_X d (some .int) k_X3_behindEnd 11 [.ref P0, .ref P1, .int a2, .int r1] [.int r2] s)
  refine fu_go 1 (pc' := 13) (ls' := [.ref P0, .ref P1, .int a2, .int r1]) (st' := [.int (119 : Int32), .int r2]) (s' := s) rfl ?_
  refine fu_ite (fun h3 => fu_step (fu_ic_ne_t rfl h3) ?_) (fun h3 => fu_step (fu_ic_ne_f rfl h3) ?_)
  · refine fu_go 1 (pc' := 17) (ls' := [.ref P0, .ref P1, .int a2, .int r1]) (st' := [.int r1]) (s' := s) rfl ?_
    refine fu_ite (fun h4 => fu_step (fu_if_lt_t rfl h4) ?_) (fun h4 => fu_step (fu_if_lt_f rfl h4) ?_)
    · refine fu_go 3 (pc' := 52) (ls' := [.ref P0, .ref P1, .int a2, .int r1]) (st' := [.int (a2 + (1 : Int32))]) (s' := s) rfl ?_
      exact fu_iret rfl rfl
    · refine fu_go 2 (pc' := 23) (ls' := [.ref P0, .ref P1, .int a2, .int r1]) (st' := [.int (60 : Int32), .int r1]) (s' := s) rfl ?_
      refine fu_ite (fun h5 => fu_step (fu_ic_ge_t rfl h5) ?_) (fun h5 => fu_step (fu_ic_ge_f rfl h5) ?_)
      · refine fu_go 1 (pc' := 27) (ls' := [.ref P0, .ref P1, .int a2, .int r1]) (st' := [.ref P0]) (s' := s) rfl ?_
        refine fu_step (fu_getR rfl hP0.1 rfl rfl) ?_
        refine fu_go 2 (pc' := 32) (ls' := [.ref P0, .ref P1, .int a2, .int r1]) (st' := [.int r1, .ref (P0 + 1), .int r1, .ref (P0 + 1)]) (s' := s) rfl ?_
        refine fu_guard (fun h6 => fu_step (fu_ldI rfl hP0.2 h6) ?_)
        refine fu_go 2 (pc' := 35) (ls' := [.ref P0, .ref P1, .int a2, .int r1]) (st' := [.int ((s.1 (P0 + 1) (Int32.toNatClampNeg r1)) - (1 : Int32)), .int r1, .ref (P0 + 1)]) (s' := s) rfl ?_
        refine fu_guard (fun h8 => fu_lets (b := (fu_pi s (P0 + 1) (Int32.toNatClampNeg r1) ((s.1 (P0 + 1) (Int32.toNatClampNeg r1)) - (1 : Int32)))) (fu_stI rfl hP0.2 h8) (fun s7 => ?_))
        refine fu_go 1 (pc' := 37) (ls' := [.ref P0, .ref P1, .int a2, .int r1]) (st' := [.ref P0]) (s' := s7) rfl ?_
        refine fu_step (fu_getR rfl hP0.1 rfl rfl) ?_
        refine fu_go 1 (pc' := 41) (ls' := [.ref P0, .ref P1, .int a2, .int r1]) (st' := [.int r1, .ref (P0 + 1)]) (s' := s7) rfl ?_
        refine fu_guard (fun h9 => fu_step (fu_ldI rfl hP0.2 h9) ?_)
        refine fu_ite (fun h10 => fu_step (fu_if_le_t rfl h10) ?_) (fun h10 => fu_step (fu_if_le_f rfl h10) ?_)
        · refine fu_go 3 (pc' := 52) (ls' := [.ref P0, .ref P1, .int a2, .int r1]) (st' := [.int (a2 + (1 : Int32))]) (s' := s7) rfl ?_
          exact fu_iret rfl rfl
        · refine fu_go 3 (pc' := 48) (ls' := [.ref P0, .ref P1, .int a2, .int r1]) (st' := [.int (r1 + (1 : Int32))]) (s' := s7) rfl ?_
          exact fu_iret rfl rfl
      · refine fu_go 3 (pc' := 52) (ls' := [.ref P0, .ref P1, .int a2, .int r1]) (st' := [.int (a2 + (1 : Int32))]) (s' := s) rfl ?_
        exact fu_iret rfl rfl
  · refine fu_go 3 (pc' := 52) (ls' := [.ref P0, .ref P1, .int a2, .int r1]) (st' := [.int (a2 + (1 : Int32))]) (s' := s) rfl ?_
    exact fu_iret rfl rfl
/-! X5_firstAt -/
set_option maxRecDepth 100000 in
theorem e_X5_firstAt (d : Nat) (hd : 2 ≤ d) (s : fu_S) (P0 : Nat) (hP0 : fc_is4 P0) (a1 : Int32) : fu_J (f_X5_firstAt s P0 a1) (fun r => some (some (.int r), s)) (am_D (fu_ho fc_sh) am_m d 113 [.ref P0, .int a1] s) := by
  obtain ⟨d, rfl⟩ : ∃ e, d = e + 1 := ⟨d - 1, by omega⟩
  refine fu_enter (ls := [.ref P0, .int a1]) am_at_X5_firstAt rfl rfl ?_
  show fu_J _ _ (fc_X d (some .int) k_X5_firstAt 0 [.ref P0, .int a1] [] s)
  unfold f_X5_firstAt
  refine fu_go 2 (pc' := 2) (ls' := [.ref P0, .int a1]) (st' := [.int a1, .ref P0]) (s' := s) rfl ?_
  refine fu_step (fu_cV rfl rfl rfl rfl rfl (fu_recv hP0.1 am_at_X5_hasLine rfl) (fu_eq (e_X5_hasLine d (by omega) s P0 hP0 a1) rfl)) ?_
  show fu_J _ _ (fc_X d (some .int) k_X5_firstAt 5 [.ref P0, .int a1] [.int (fu_b (f_X5_hasLine s P0 a1))] s)
  refine fu_bind (V := fun j1 : Int32 => fc_X d (some .int) k_X5_firstAt 18 [am_U, am_U] [.int j1] s) ?_ (fun j1 => ?_)
  · refine fu_ite (fun h2 => fu_step (fu_ib_eq_t rfl h2) ?_) (fun h2 => fu_step (fu_ib_eq_f rfl h2) ?_)
    · refine fu_go 1 (pc' := 9) (ls' := [.ref P0, .int a1]) (st' := [.ref P0]) (s' := s) rfl ?_
      refine fu_step (fu_getR rfl hP0.1 rfl rfl) ?_
      refine fu_go 1 (pc' := 13) (ls' := [.ref P0, .int a1]) (st' := [.int a1, .ref (P0 + 2)]) (s' := s) rfl ?_
      refine fu_guard (fun h3 => fu_step (fu_ldI rfl hP0.2.2.1 h3) ?_)
      refine fu_go 1 (pc' := 18) (ls' := [.ref P0, .int a1]) (st' := [.int (s.1 (P0 + 2) (Int32.toNatClampNeg a1))]) (s' := s) rfl ?_
      exact fu_leaf rfl ⟨.inl rfl, .inl rfl, trivial⟩
    · refine fu_go 1 (pc' := 18) (ls' := [.ref P0, .int a1]) (st' := [.int (0 : Int32)]) (s' := s) rfl ?_
      exact fu_leaf rfl ⟨.inl rfl, .inl rfl, trivial⟩
  show fu_J _ _ (fc_X d (some .int) k_X5_firstAt 18 [am_U, am_U] [.int j1] s)
  exact fu_iret rfl rfl
/-! X5_secondAt -/
set_option maxRecDepth 100000 in
theorem e_X5_secondAt (d : Nat) (hd : 2 ≤ d) (s : fu_S) (P0 : Nat) (hP0 : fc_is4 P0) (a1 : Int32) : fu_J (f_X5_secondAt s P0 a1) (fun r => some (some (.int r), s)) (am_D (fu_ho fc_sh) am_m d 114 [.ref P0, .int a1] s) := by
  obtain ⟨d, rfl⟩ : ∃ e, d = e + 1 := ⟨d - 1, by omega⟩
  refine fu_enter (ls := [.ref P0, .int a1]) am_at_X5_secondAt rfl rfl ?_
  show fu_J _ _ (fc_X d (some .int) k_X5_secondAt 0 [.ref P0, .int a1] [] s)
  unfold f_X5_secondAt
  refine fu_go 2 (pc' := 2) (ls' := [.ref P0, .int a1]) (st' := [.int a1, .ref P0]) (s' := s) rfl ?_
  refine fu_step (fu_cV rfl rfl rfl rfl rfl (fu_recv hP0.1 am_at_X5_hasLine rfl) (fu_eq (e_X5_hasLine d (by omega) s P0 hP0 a1) rfl)) ?_
  show fu_J _ _ (fc_X d (some .int) k_X5_secondAt 5 [.ref P0, .int a1] [.int (fu_b (f_X5_hasLine s P0 a1))] s)
  refine fu_bind (V := fun j1 : Int32 => fc_X d (some .int) k_X5_secondAt 18 [am_U, am_U] [.int j1] s) ?_ (fun j1 => ?_)
  · refine fu_ite (fun h2 => fu_step (fu_ib_eq_t rfl h2) ?_) (fun h2 => fu_step (fu_ib_eq_f rfl h2) ?_)
    · refine fu_go 1 (pc' := 9) (ls' := [.ref P0, .int a1]) (st' := [.ref P0]) (s' := s) rfl ?_
      refine fu_step (fu_getR rfl hP0.1 rfl rfl) ?_
      refine fu_go 1 (pc' := 13) (ls' := [.ref P0, .int a1]) (st' := [.int a1, .ref (P0 + 3)]) (s' := s) rfl ?_
      refine fu_guard (fun h3 => fu_step (fu_ldI rfl hP0.2.2.2.1 h3) ?_)
      refine fu_go 1 (pc' := 18) (ls' := [.ref P0, .int a1]) (st' := [.int (s.1 (P0 + 3) (Int32.toNatClampNeg a1))]) (s' := s) rfl ?_
      exact fu_leaf rfl ⟨.inl rfl, .inl rfl, trivial⟩
    · refine fu_go 1 (pc' := 18) (ls' := [.ref P0, .int a1]) (st' := [.int (0 : Int32)]) (s' := s) rfl ?_
      exact fu_leaf rfl ⟨.inl rfl, .inl rfl, trivial⟩
  show fu_J _ _ (fc_X d (some .int) k_X5_secondAt 18 [am_U, am_U] [.int j1] s)
  exact fu_iret rfl rfl
/-! X3_draw -/
set_option maxRecDepth 100000 in
theorem e_X3_draw (d : Nat) (hd : 1 ≤ d) (s : fu_S) (P0 : Nat) (hP0 : fc_is2 P0) (a1 : Int32) : fu_J (f_X3_draw s P0 a1) (fun r => some (some (.int r.1), r.2)) (am_D (fu_ho fc_sh) am_m d 39 [.ref P0, .int a1] s) := by
  obtain ⟨d, rfl⟩ : ∃ e, d = e + 1 := ⟨d - 1, by omega⟩
  refine fu_enter (ls := [.ref P0, .int a1]) am_at_X3_draw rfl rfl ?_
  show fu_J _ _ (fc_X d (some .int) k_X3_draw 0 [.ref P0, .int a1] [] s)
  unfold f_X3_draw
  refine fu_go 2 (pc' := 2) (ls' := [.ref P0, .int a1]) (st' := [.ref P0, .ref P0]) (s' := s) rfl ?_
  refine fu_step (fu_getI rfl hP0.1 rfl rfl) ?_
  refine fu_go 5 (pc' := 15) (ls' := [.ref P0, .int a1]) (st' := [.int (65536 : Int32), .int (((s.1 P0 1) * (2971 : Int32)) + (10957 : Int32)), .ref P0]) (s' := s) rfl ?_
  refine fu_step (fu_rem rfl (by decide)) ?_
  refine fu_lets (b := (fu_pi s P0 1 ((((s.1 P0 1) * (2971 : Int32)) + (10957 : Int32)) - (((s.1 P0 1) * (2971 : Int32)) + (10957 : Int32)) / (65536 : Int32) * (65536 : Int32)))) (fu_putI rfl hP0.1 rfl rfl) (fun s1 => ?_)
  refine fu_go 1 (pc' := 20) (ls' := [.ref P0, .int a1]) (st' := [.int a1]) (s' := s1) rfl ?_
  refine fu_bind (V := fun j2 : Int32 => fc_X d (some .int) k_X3_draw 36 [am_U, am_U] [.int j2] s1) ?_ (fun j2 => ?_)
  · refine fu_ite (fun h3 => fu_step (fu_if_le_t rfl h3) ?_) (fun h3 => fu_step (fu_if_le_f rfl h3) ?_)
    · refine fu_go 1 (pc' := 36) (ls' := [.ref P0, .int a1]) (st' := [.int (0 : Int32)]) (s' := s1) rfl ?_
      exact fu_leaf rfl ⟨.inl rfl, .inl rfl, trivial⟩
    · refine fu_go 1 (pc' := 24) (ls' := [.ref P0, .int a1]) (st' := [.ref P0]) (s' := s1) rfl ?_
      refine fu_step (fu_getI rfl hP0.1 rfl rfl) ?_
      refine fu_go 1 (pc' := 29) (ls' := [.ref P0, .int a1]) (st' := [.int (8 : Int32), .int (s1.1 P0 1)]) (s' := s1) rfl ?_
      refine fu_step (fu_div rfl (by decide)) ?_
      refine fu_go 1 (pc' := 31) (ls' := [.ref P0, .int a1]) (st' := [.int a1, .int ((s1.1 P0 1) / (8 : Int32))]) (s' := s1) rfl ?_
      refine fu_ite (fun _ => fu_none) (fun h4 => fu_step (fu_rem rfl h4) ?_)
      refine fu_go 1 (pc' := 36) (ls' := [.ref P0, .int a1]) (st' := [.int (((s1.1 P0 1) / (8 : Int32)) - ((s1.1 P0 1) / (8 : Int32)) / a1 * a1)]) (s' := s1) rfl ?_
      exact fu_leaf rfl ⟨.inl rfl, .inl rfl, trivial⟩
  show fu_J _ _ (fc_X d (some .int) k_X3_draw 36 [am_U, am_U] [.int j2] s1)
  exact fu_iret rfl rfl
/-! X4_odds -/
set_option maxRecDepth 100000 in
theorem e_X4_odds (d : Nat) (hd : 1 ≤ d) (s : fu_S) (P0 : Nat) (hP0 : fc_is3 P0) : fu_J (some (f_X4_odds s P0)) (fun r => some (some (.int r), s)) (am_D (fu_ho fc_sh) am_m d 44 [.ref P0] s) := by
  obtain ⟨d, rfl⟩ : ∃ e, d = e + 1 := ⟨d - 1, by omega⟩
  refine fu_enter (ls := [.ref P0]) am_at_X4_odds rfl rfl ?_
  show fu_J _ _ (fc_X d (some .int) k_X4_odds 0 [.ref P0] [] s)
  unfold f_X4_odds
  refine fu_go 1 (pc' := 1) (ls' := [.ref P0]) (st' := [.ref P0]) (s' := s) rfl ?_
  refine fu_step (fu_getI rfl hP0.1 rfl rfl) ?_
  exact fu_iret rfl rfl
/-! X4_isFound -/
set_option maxRecDepth 100000 in
theorem e_X4_isFound (d : Nat) (hd : 3 ≤ d) (s : fu_S) (P0 : Nat) (hP0 : fc_is3 P0) (a1 : Int32) : fu_J (f_X4_isFound s P0 a1) (fun r => some (some (.int (fu_b r)), s)) (am_D (fu_ho fc_sh) am_m d 88 [.ref P0, .int a1] s) := by
  obtain ⟨d, rfl⟩ : ∃ e, d = e + 1 := ⟨d - 1, by omega⟩
  refine fu_enter (ls := [.ref P0, .int a1]) am_at_X4_isFound rfl rfl ?_
  show fu_J _ _ (fc_X d (some .boolean) k_X4_isFound 0 [.ref P0, .int a1] [] s)
  unfold f_X4_isFound
  refine fu_go 2 (pc' := 2) (ls' := [.ref P0, .int a1]) (st' := [.int a1, .ref P0]) (s' := s) rfl ?_
  refine fu_bind (fu_cVJ rfl rfl rfl rfl rfl (fu_recv hP0.1 am_at_X4_isScratched rfl) (e_X4_isScratched d (by omega) s P0 hP0 a1)) (fun r1 => ?_)
  show fu_J _ _ (fc_X d (some .boolean) k_X4_isFound 5 [.ref P0, .int a1] [.int (fu_b r1)] s)
  refine fu_bind (V := fun j2 : Bool => fc_X d (some .boolean) k_X4_isFound 26 [am_U, am_U] [.int (fu_b j2)] s) ?_ (fun j2 => ?_)
  · refine fu_ite (fun h3 => fu_step (fu_ib_eq_t rfl h3) ?_) (fun h3 => fu_step (fu_ib_eq_f rfl h3) ?_)
    · refine fu_go 1 (pc' := 9) (ls' := [.ref P0, .int a1]) (st' := [.ref P0]) (s' := s) rfl ?_
      refine fu_step (fu_getI rfl hP0.1 rfl rfl) ?_
      refine fu_go 1 (pc' := 13) (ls' := [.ref P0, .int a1]) (st' := [.ref P0, .int (s.1 P0 2)]) (s' := s) rfl ?_
      refine fu_step (fu_getR rfl hP0.1 rfl rfl) ?_
      refine fu_go 1 (pc' := 17) (ls' := [.ref P0, .int a1]) (st' := [.int a1, .ref (P0 + 12), .int (s.1 P0 2)]) (s' := s) rfl ?_
      refine fu_guard (fun h4 => fu_step (fu_ldI rfl hP0.2.2.2.2.2.2.2.2.2.2.2.2 h4) ?_)
      refine fu_ite (fun h5 => fu_step (fu_ic_lt_t rfl h5) ?_) (fun h5 => fu_step (fu_ic_lt_f rfl h5) ?_)
      · refine fu_go 1 (pc' := 26) (ls' := [.ref P0, .int a1]) (st' := [.int (0 : Int32)]) (s' := s) rfl ?_
        exact fu_leaf rfl ⟨.inl rfl, .inl rfl, trivial⟩
      · refine fu_go 2 (pc' := 26) (ls' := [.ref P0, .int a1]) (st' := [.int (1 : Int32)]) (s' := s) rfl ?_
        exact fu_leaf rfl ⟨.inl rfl, .inl rfl, trivial⟩
    · refine fu_go 1 (pc' := 26) (ls' := [.ref P0, .int a1]) (st' := [.int (0 : Int32)]) (s' := s) rfl ?_
      exact fu_leaf rfl ⟨.inl rfl, .inl rfl, trivial⟩
  show fu_J _ _ (fc_X d (some .boolean) k_X4_isFound 26 [am_U, am_U] [.int (fu_b j2)] s)
  exact fu_bret (b := j2) rfl rfl
/-! X4_apart -/
set_option maxRecDepth 100000 in
theorem e_X4_apart (d : Nat) (hd : 1 ≤ d) (s : fu_S) (P0 : Nat) (hP0 : fc_is3 P0) (a1 : Int32) (a2 : Int32) : fu_J (f_X4_apart s P0 a1 a2) (fun r => some (some (.int r), s)) (am_D (fu_ho fc_sh) am_m d 74 [.ref P0, .int a1, .int a2] s) := by
  obtain ⟨d, rfl⟩ : ∃ e, d = e + 1 := ⟨d - 1, by omega⟩
  refine fu_enter (ls := [.ref P0, .int a1, .int a2, am_U, am_U]) am_at_X4_apart rfl rfl ?_
  show fu_J _ _ (fc_X d (some .int) k_X4_apart 0 [.ref P0, .int a1, .int a2, am_U, am_U] [] s)
  unfold f_X4_apart
  refine fu_go 1 (pc' := 1) (ls' := [.ref P0, .int a1, .int a2, am_U, am_U]) (st' := [.int a1]) (s' := s) rfl ?_
  refine fu_bind (V := fun j1 : Bool => fc_X d (some .int) k_X4_apart 29 [.ref P0, .int a1, .int a2, am_U, am_U] [.int (fu_b j1)] s) ?_ (fun j1 => ?_)
  · refine fu_ite (fun h2 => fu_step (fu_if_lt_t rfl h2) ?_) (fun h2 => fu_step (fu_if_lt_f rfl h2) ?_)
    · refine fu_go 1 (pc' := 29) (ls' := [.ref P0, .int a1, .int a2, am_U, am_U]) (st' := [.int (0 : Int32)]) (s' := s) rfl ?_
      exact fu_leaf rfl ⟨.inr rfl, .inr rfl, .inr rfl, .inl rfl, .inl rfl, trivial⟩
    · refine fu_go 2 (pc' := 6) (ls' := [.ref P0, .int a1, .int a2, am_U, am_U]) (st' := [.ref P0, .int a1]) (s' := s) rfl ?_
      refine fu_step (fu_getI rfl hP0.1 rfl rfl) ?_
      refine fu_ite (fun h3 => fu_step (fu_ic_ge_t rfl h3) ?_) (fun h3 => fu_step (fu_ic_ge_f rfl h3) ?_)
      · refine fu_go 1 (pc' := 13) (ls' := [.ref P0, .int a1, .int a2, am_U, am_U]) (st' := [.int a2]) (s' := s) rfl ?_
        refine fu_ite (fun h4 => fu_step (fu_if_lt_t rfl h4) ?_) (fun h4 => fu_step (fu_if_lt_f rfl h4) ?_)
        · refine fu_go 1 (pc' := 29) (ls' := [.ref P0, .int a1, .int a2, am_U, am_U]) (st' := [.int (0 : Int32)]) (s' := s) rfl ?_
          exact fu_leaf rfl ⟨.inr rfl, .inr rfl, .inr rfl, .inl rfl, .inl rfl, trivial⟩
        · refine fu_go 2 (pc' := 18) (ls' := [.ref P0, .int a1, .int a2, am_U, am_U]) (st' := [.ref P0, .int a2]) (s' := s) rfl ?_
          refine fu_step (fu_getI rfl hP0.1 rfl rfl) ?_
          refine fu_ite (fun h5 => fu_step (fu_ic_ge_t rfl h5) ?_) (fun h5 => fu_step (fu_ic_ge_f rfl h5) ?_)
          · refine fu_go 2 (pc' := 29) (ls' := [.ref P0, .int a1, .int a2, am_U, am_U]) (st' := [.int (1 : Int32)]) (s' := s) rfl ?_
            exact fu_leaf rfl ⟨.inr rfl, .inr rfl, .inr rfl, .inl rfl, .inl rfl, trivial⟩
          · refine fu_go 1 (pc' := 29) (ls' := [.ref P0, .int a1, .int a2, am_U, am_U]) (st' := [.int (0 : Int32)]) (s' := s) rfl ?_
            exact fu_leaf rfl ⟨.inr rfl, .inr rfl, .inr rfl, .inl rfl, .inl rfl, trivial⟩
      · refine fu_go 1 (pc' := 29) (ls' := [.ref P0, .int a1, .int a2, am_U, am_U]) (st' := [.int (0 : Int32)]) (s' := s) rfl ?_
        exact fu_leaf rfl ⟨.inr rfl, .inr rfl, .inr rfl, .inl rfl, .inl rfl, trivial⟩
  show fu_J _ _ (fc_X d (some .int) k_X4_apart 29 [.ref P0, .int a1, .int a2, am_U, am_U] [.int (fu_b j1)] s)
  refine fu_go 2 (pc' := 31) (ls' := [.ref P0, .int a1, .int a2, .int (fu_b j1), am_U]) (st' := [.int (fu_b j1)]) (s' := s) rfl ?_
  refine fu_bind (V := fun j6 : Int32 => fc_X d (some .int) k_X4_apart 51 [am_U, am_U, am_U, am_U, am_U] [.int j6] s) ?_ (fun j6 => ?_)
  · refine fu_ite (fun h7 => fu_step (fu_ib_eq_t rfl h7) ?_) (fun h7 => fu_step (fu_ib_eq_f rfl h7) ?_)
    · refine fu_go 1 (pc' := 35) (ls' := [.ref P0, .int a1, .int a2, .int (fu_b j1), am_U]) (st' := [.ref P0]) (s' := s) rfl ?_
      refine fu_step (fu_getR rfl hP0.1 rfl rfl) ?_
      refine fu_go 1 (pc' := 39) (ls' := [.ref P0, .int a1, .int a2, .int (fu_b j1), am_U]) (st' := [.int a1, .ref (P0 + 5)]) (s' := s) rfl ?_
      refine fu_guard (fun h8 => fu_step (fu_ldI rfl hP0.2.2.2.2.2.1 h8) ?_)
      refine fu_go 1 (pc' := 41) (ls' := [.ref P0, .int a1, .int a2, .int (fu_b j1), am_U]) (st' := [.ref P0, .int (s.1 (P0 + 5) (Int32.toNatClampNeg a1))]) (s' := s) rfl ?_
      refine fu_step (fu_getR rfl hP0.1 rfl rfl) ?_
      refine fu_go 1 (pc' := 45) (ls' := [.ref P0, .int a1, .int a2, .int (fu_b j1), am_U]) (st' := [.int a2, .ref (P0 + 5), .int (s.1 (P0 + 5) (Int32.toNatClampNeg a1))]) (s' := s) rfl ?_
      refine fu_guard (fun h9 => fu_step (fu_ldI rfl hP0.2.2.2.2.2.1 h9) ?_)
      refine fu_go 2 (pc' := 51) (ls' := [.ref P0, .int a1, .int a2, .int (fu_b j1), am_U]) (st' := [.int ((s.1 (P0 + 5) (Int32.toNatClampNeg a1)) - (s.1 (P0 + 5) (Int32.toNatClampNeg a2)))]) (s' := s) rfl ?_
      exact fu_leaf rfl ⟨.inl rfl, .inl rfl, .inl rfl, .inl rfl, .inl rfl, trivial⟩
    · refine fu_go 1 (pc' := 51) (ls' := [.ref P0, .int a1, .int a2, .int (fu_b j1), am_U]) (st' := [.int (0 : Int32)]) (s' := s) rfl ?_
      exact fu_leaf rfl ⟨.inl rfl, .inl rfl, .inl rfl, .inl rfl, .inl rfl, trivial⟩
  show fu_J _ _ (fc_X d (some .int) k_X4_apart 51 [am_U, am_U, am_U, am_U, am_U] [.int j6] s)
  refine fu_go 2 (pc' := 55) (ls' := [am_U, am_U, am_U, am_U, .int j6]) (st' := [.int j6]) (s' := s) rfl ?_
  refine fu_bind (V := fun j10 : Int32 => fc_X d (some .int) k_X4_apart 66 [am_U, am_U, am_U, am_U, am_U] [.int j10] s) ?_ (fun j10 => ?_)
  · refine fu_ite (fun h11 => fu_step (fu_if_ge_t rfl h11) ?_) (fun h11 => fu_step (fu_if_ge_f rfl h11) ?_)
    · refine fu_go 3 (pc' := 66) (ls' := [am_U, am_U, am_U, am_U, .int j6]) (st' := [.int (-j6)]) (s' := s) rfl ?_
      exact fu_leaf rfl ⟨.inl rfl, .inl rfl, .inl rfl, .inl rfl, .inl rfl, trivial⟩
    · refine fu_go 1 (pc' := 66) (ls' := [am_U, am_U, am_U, am_U, .int j6]) (st' := [.int j6]) (s' := s) rfl ?_
      exact fu_leaf rfl ⟨.inl rfl, .inl rfl, .inl rfl, .inl rfl, .inl rfl, trivial⟩
  show fu_J _ _ (fc_X d (some .int) k_X4_apart 66 [am_U, am_U, am_U, am_U, am_U] [.int j10] s)
  exact fu_iret rfl rfl
/-! X4_isUp -/
set_option maxRecDepth 100000 in
theorem e_X4_isUp (d : Nat) (hd : 2 ≤ d) (s : fu_S) (P0 : Nat) (hP0 : fc_is3 P0) (a1 : Int32) : fu_J (f_X4_isUp s P0 a1) (fun r => some (some (.int (fu_b r)), s)) (am_D (fu_ho fc_sh) am_m d 87 [.ref P0, .int a1] s) := by
  obtain ⟨d, rfl⟩ : ∃ e, d = e + 1 := ⟨d - 1, by omega⟩
  refine fu_enter (ls := [.ref P0, .int a1]) am_at_X4_isUp rfl rfl ?_
  show fu_J _ _ (fc_X d (some .boolean) k_X4_isUp 0 [.ref P0, .int a1] [] s)
  unfold f_X4_isUp
  refine fu_go 2 (pc' := 2) (ls' := [.ref P0, .int a1]) (st' := [.int a1, .ref P0]) (s' := s) rfl ?_
  refine fu_step (fu_cV rfl rfl rfl rfl rfl (fu_recv hP0.1 am_at_X4_hasThing rfl) (fu_eq (e_X4_hasThing d (by omega) s P0 hP0 a1) rfl)) ?_
  show fu_J _ _ (fc_X d (some .boolean) k_X4_isUp 5 [.ref P0, .int a1] [.int (fu_b (f_X4_hasThing s P0 a1))] s)
  refine fu_bind (V := fun j1 : Bool => fc_X d (some .boolean) k_X4_isUp 52 [am_U, am_U] [.int (fu_b j1)] s) ?_ (fun j1 => ?_)
  · refine fu_ite (fun h2 => fu_step (fu_ib_eq_t rfl h2) ?_) (fun h2 => fu_step (fu_ib_eq_f rfl h2) ?_)
    · refine fu_go 1 (pc' := 9) (ls' := [.ref P0, .int a1]) (st' := [.ref P0]) (s' := s) rfl ?_
      refine fu_step (fu_getR rfl hP0.1 rfl rfl) ?_
      refine fu_go 1 (pc' := 13) (ls' := [.ref P0, .int a1]) (st' := [.int a1, .ref (P0 + 11)]) (s' := s) rfl ?_
      refine fu_guard (fun h3 => fu_step (fu_ldI rfl hP0.2.2.2.2.2.2.2.2.2.2.2.1 h3) ?_)
      refine fu_go 1 (pc' := 15) (ls' := [.ref P0, .int a1]) (st' := [.int (-1 : Int32), .int (s.1 (P0 + 11) (Int32.toNatClampNeg a1))]) (s' := s) rfl ?_
      refine fu_ite (fun h4 => fu_step (fu_ic_ne_t rfl h4) ?_) (fun h4 => fu_step (fu_ic_ne_f rfl h4) ?_)
      · refine fu_go 1 (pc' := 19) (ls' := [.ref P0, .int a1]) (st' := [.ref P0]) (s' := s) rfl ?_
        refine fu_step (fu_getI rfl hP0.1 rfl rfl) ?_
        refine fu_go 1 (pc' := 23) (ls' := [.ref P0, .int a1]) (st' := [.ref P0, .int (s.1 P0 2)]) (s' := s) rfl ?_
        refine fu_step (fu_getR rfl hP0.1 rfl rfl) ?_
        refine fu_go 1 (pc' := 27) (ls' := [.ref P0, .int a1]) (st' := [.int a1, .ref (P0 + 10), .int (s.1 P0 2)]) (s' := s) rfl ?_
        refine fu_guard (fun h5 => fu_step (fu_ldI rfl hP0.2.2.2.2.2.2.2.2.2.2.1 h5) ?_)
        refine fu_go 3 (pc' := 31) (ls' := [.ref P0, .int a1]) (st' := [.int a1, .ref P0, .ref P0, .int (s.1 (P0 + 10) (Int32.toNatClampNeg a1)), .int (s.1 P0 2)]) (s' := s) rfl ?_
        refine fu_bind (fu_cVJ rfl rfl rfl rfl rfl (fu_recv hP0.1 am_at_X4_bearerOf rfl) (e_X4_bearerOf d (by omega) s P0 hP0 a1)) (fun r6 => ?_)
        show fu_J _ _ (fc_X d (some .boolean) k_X4_isUp 34 [.ref P0, .int a1] [.int r6, .ref P0, .int (s.1 (P0 + 10) (Int32.toNatClampNeg a1)), .int (s.1 P0 2)] s)
        refine fu_go 1 (pc' := 35) (ls' := [.ref P0, .int a1]) (st' := [.ref P0, .int r6, .ref P0, .int (s.1 (P0 + 10) (Int32.toNatClampNeg a1)), .int (s.1 P0 2)]) (s' := s) rfl ?_
        refine fu_step (fu_getR rfl hP0.1 rfl rfl) ?_
        refine fu_go 1 (pc' := 39) (ls' := [.ref P0, .int a1]) (st' := [.int a1, .ref (P0 + 7), .int r6, .ref P0, .int (s.1 (P0 + 10) (Int32.toNatClampNeg a1)), .int (s.1 P0 2)]) (s' := s) rfl ?_
        refine fu_guard (fun h7 => fu_step (fu_ldI rfl hP0.2.2.2.2.2.2.2.1 h7) ?_)
        refine fu_bind (fu_cVJ rfl rfl rfl rfl rfl (fu_recv hP0.1 am_at_X4_apart rfl) (e_X4_apart d (by omega) s P0 hP0 r6 (s.1 (P0 + 7) (Int32.toNatClampNeg a1)))) (fun r8 => ?_)
        show fu_J _ _ (fc_X d (some .boolean) k_X4_isUp 43 [.ref P0, .int a1] [.int r8, .int (s.1 (P0 + 10) (Int32.toNatClampNeg a1)), .int (s.1 P0 2)] s)
        refine fu_go 1 (pc' := 44) (ls' := [.ref P0, .int a1]) (st' := [.int ((s.1 (P0 + 10) (Int32.toNatClampNeg a1)) + r8), .int (s.1 P0 2)]) (s' := s) rfl ?_
        refine fu_ite (fun h9 => fu_step (fu_ic_lt_t rfl h9) ?_) (fun h9 => fu_step (fu_ic_lt_f rfl h9) ?_)
        · refine fu_go 1 (pc' := 52) (ls' := [.ref P0, .int a1]) (st' := [.int (0 : Int32)]) (s' := s) rfl ?_
          exact fu_leaf rfl ⟨.inl rfl, .inl rfl, trivial⟩
        · refine fu_go 2 (pc' := 52) (ls' := [.ref P0, .int a1]) (st' := [.int (1 : Int32)]) (s' := s) rfl ?_
          exact fu_leaf rfl ⟨.inl rfl, .inl rfl, trivial⟩
      · refine fu_go 1 (pc' := 52) (ls' := [.ref P0, .int a1]) (st' := [.int (0 : Int32)]) (s' := s) rfl ?_
        exact fu_leaf rfl ⟨.inl rfl, .inl rfl, trivial⟩
    · refine fu_go 1 (pc' := 52) (ls' := [.ref P0, .int a1]) (st' := [.int (0 : Int32)]) (s' := s) rfl ?_
      exact fu_leaf rfl ⟨.inl rfl, .inl rfl, trivial⟩
  show fu_J _ _ (fc_X d (some .boolean) k_X4_isUp 52 [am_U, am_U] [.int (fu_b j1)] s)
  exact fu_bret (b := j1) rfl rfl
/-! X4_minute -/
set_option maxRecDepth 100000 in
theorem e_X4_minute (d : Nat) (hd : 1 ≤ d) (s : fu_S) (P0 : Nat) (hP0 : fc_is3 P0) : fu_J (some (f_X4_minute s P0)) (fun r => some (some (.int r), s)) (am_D (fu_ho fc_sh) am_m d 46 [.ref P0] s) := by
  obtain ⟨d, rfl⟩ : ∃ e, d = e + 1 := ⟨d - 1, by omega⟩
  refine fu_enter (ls := [.ref P0]) am_at_X4_minute rfl rfl ?_
  show fu_J _ _ (fc_X d (some .int) k_X4_minute 0 [.ref P0] [] s)
  unfold f_X4_minute
  refine fu_go 1 (pc' := 1) (ls' := [.ref P0]) (st' := [.ref P0]) (s' := s) rfl ?_
  refine fu_step (fu_getI rfl hP0.1 rfl rfl) ?_
  exact fu_iret rfl rfl
/-! X3_holds -/
set_option maxRecDepth 100000 in
theorem e_X3_holds (d : Nat) (hd : 4 ≤ d) (s : fu_S) (P0 : Nat) (hP0 : fc_is2 P0) (P1 : Nat) (hP1 : fc_is3 P1) (a2 : Int32) (a3 : Int32) : fu_J (f_X3_holds s P0 P1 a2 a3) (fun r => some (some (.int (fu_b r)), s)) (am_D (fu_ho fc_sh) am_m d 40 [.ref P0, .ref P1, .int a2, .int a3] s) := by
  obtain ⟨d, rfl⟩ : ∃ e, d = e + 1 := ⟨d - 1, by omega⟩
  refine fu_enter (ls := [.ref P0, .ref P1, .int a2, .int a3]) am_at_X3_holds rfl rfl ?_
  show fu_J _ _ (fc_X d (some .boolean) k_X3_holds 0 [.ref P0, .ref P1, .int a2, .int a3] [] s)
  unfold f_X3_holds
  refine fu_go 1 (pc' := 1) (ls' := [.ref P0, .ref P1, .int a2, .int a3]) (st' := [.int a2]) (s' := s) rfl ?_
  refine fu_ite (fun h1 => fu_step (fu_lsw_at (t := 56) rfl h1 (by decide)) ?_) (fun h1 => ?_)
  · refine fu_go 1 (pc' := 57) (ls' := [.ref P0, .ref P1, .int a2, .int a3]) (st' := [.ref P1]) (s' := s) rfl ?_
    refine fu_step (fu_cV rfl rfl rfl rfl rfl (fu_recv hP1.1 am_at_X4_minute rfl) (fu_eq (e_X4_minute d (by omega) s P1 hP1) rfl)) ?_
    show fu_J _ _ (fc_X d (some .boolean) k_X3_holds 60 [.ref P0, .ref P1, .int a2, .int a3] [.int (f_X4_minute s P1)] s)
    refine fu_go 1 (pc' := 61) (ls' := [.ref P0, .ref P1, .int a2, .int a3]) (st' := [.int a3, .int (f_X4_minute s P1)]) (s' := s) rfl ?_
    refine fu_bind (V := fun j2 : Bool => fc_X d (some .boolean) k_X3_holds 69 [am_U, am_U, am_U, am_U] [.int (fu_b j2)] s) ?_ (fun j2 => ?_)
    · refine fu_ite (fun h3 => fu_step (fu_ic_ge_t rfl h3) ?_) (fun h3 => fu_step (fu_ic_ge_f rfl h3) ?_)
      · refine fu_go 2 (pc' := 69) (ls' := [.ref P0, .ref P1, .int a2, .int a3]) (st' := [.int (1 : Int32)]) (s' := s) rfl ?_
        exact fu_leaf rfl ⟨.inl rfl, .inl rfl, .inl rfl, .inl rfl, trivial⟩
      · refine fu_go 1 (pc' := 69) (ls' := [.ref P0, .ref P1, .int a2, .int a3]) (st' := [.int (0 : Int32)]) (s' := s) rfl ?_
        exact fu_leaf rfl ⟨.inl rfl, .inl rfl, .inl rfl, .inl rfl, trivial⟩
    show fu_J _ _ (fc_X d (some .boolean) k_X3_holds 69 [am_U, am_U, am_U, am_U] [.int (fu_b j2)] s)
    exact fu_bret (b := j2) rfl rfl
  refine fu_ite (fun h4 => fu_step (fu_lsw_at (t := 70) rfl h4 (by decide)) ?_) (fun h4 => ?_)
  · refine fu_go 1 (pc' := 71) (ls' := [.ref P0, .ref P1, .int a2, .int a3]) (st' := [.ref P1]) (s' := s) rfl ?_
    refine fu_step (fu_cV rfl rfl rfl rfl rfl (fu_recv hP1.1 am_at_X4_minute rfl) (fu_eq (e_X4_minute d (by omega) s P1 hP1) rfl)) ?_
    show fu_J _ _ (fc_X d (some .boolean) k_X3_holds 74 [.ref P0, .ref P1, .int a2, .int a3] [.int (f_X4_minute s P1)] s)
    refine fu_go 1 (pc' := 75) (ls' := [.ref P0, .ref P1, .int a2, .int a3]) (st' := [.int a3, .int (f_X4_minute s P1)]) (s' := s) rfl ?_
    refine fu_bind (V := fun j5 : Bool => fc_X d (some .boolean) k_X3_holds 83 [am_U, am_U, am_U, am_U] [.int (fu_b j5)] s) ?_ (fun j5 => ?_)
    · refine fu_ite (fun h6 => fu_step (fu_ic_le_t rfl h6) ?_) (fun h6 => fu_step (fu_ic_le_f rfl h6) ?_)
      · refine fu_go 1 (pc' := 83) (ls' := [.ref P0, .ref P1, .int a2, .int a3]) (st' := [.int (0 : Int32)]) (s' := s) rfl ?_
        exact fu_leaf rfl ⟨.inl rfl, .inl rfl, .inl rfl, .inl rfl, trivial⟩
      · refine fu_go 2 (pc' := 83) (ls' := [.ref P0, .ref P1, .int a2, .int a3]) (st' := [.int (1 : Int32)]) (s' := s) rfl ?_
        exact fu_leaf rfl ⟨.inl rfl, .inl rfl, .inl rfl, .inl rfl, trivial⟩
    show fu_J _ _ (fc_X d (some .boolean) k_X3_holds 83 [am_U, am_U, am_U, am_U] [.int (fu_b j5)] s)
    exact fu_bret (b := j5) rfl rfl
  refine fu_ite (fun h7 => fu_step (fu_lsw_at (t := 44) rfl h7 (by decide)) ?_) (fun h7 => ?_)
  · refine fu_go 2 (pc' := 46) (ls' := [.ref P0, .ref P1, .int a2, .int a3]) (st' := [.int a3, .ref P1]) (s' := s) rfl ?_
    refine fu_bind (fu_cVJ rfl rfl rfl rfl rfl (fu_recv hP1.1 am_at_X4_isFound rfl) (e_X4_isFound d (by omega) s P1 hP1 a3)) (fun r8 => ?_)
    show fu_J _ _ (fc_X d (some .boolean) k_X3_holds 49 [.ref P0, .ref P1, .int a2, .int a3] [.int (fu_b r8)] s)
    exact fu_bret (b := r8) rfl rfl
  refine fu_ite (fun h9 => fu_step (fu_lsw_at (t := 50) rfl h9 (by decide)) ?_) (fun h9 => ?_)
  · refine fu_go 2 (pc' := 52) (ls' := [.ref P0, .ref P1, .int a2, .int a3]) (st' := [.int a3, .ref P1]) (s' := s) rfl ?_
    refine fu_bind (fu_cVJ rfl rfl rfl rfl rfl (fu_recv hP1.1 am_at_X4_isUp rfl) (e_X4_isUp d (by omega) s P1 hP1 a3)) (fun r10 => ?_)
    show fu_J _ _ (fc_X d (some .boolean) k_X3_holds 55 [.ref P0, .ref P1, .int a2, .int a3] [.int (fu_b r10)] s)
    exact fu_bret (b := r10) rfl rfl
  refine fu_step (fu_lsw_d (t := 84) [60, 62, 116, 117] rfl (by decide) (fu_allc (fu_ne h1 (by decide)) (fu_allc (fu_ne h4 (by decide)) (fu_allc (fu_ne h7 (by decide)) (fu_allc (fu_ne h9 (by decide)) fu_all)))) (by decide)) ?_
  refine fu_go 1 (pc' := 85) (ls' := [.ref P0, .ref P1, .int a2, .int a3]) (st' := [.ref P1]) (s' := s) rfl ?_
  refine fu_step (fu_cV rfl rfl rfl rfl rfl (fu_recv hP1.1 am_at_X4_minute rfl) (fu_eq (e_X4_minute d (by omega) s P1 hP1) rfl)) ?_
  show fu_J _ _ (fc_X d (some .boolean) k_X3_holds 88 [.ref P0, .ref P1, .int a2, .int a3] [.int (f_X4_minute s P1)] s)
  refine fu_go 1 (pc' := 89) (ls' := [.ref P0, .ref P1, .int a2, .int a3]) (st' := [.int a3, .int (f_X4_minute s P1)]) (s' := s) rfl ?_
  refine fu_bind (V := fun j11 : Bool => fc_X d (some .boolean) k_X3_holds 97 [am_U, am_U, am_U, am_U] [.int (fu_b j11)] s) ?_ (fun j11 => ?_)
  · refine fu_ite (fun h12 => fu_step (fu_ic_ne_t rfl h12) ?_) (fun h12 => fu_step (fu_ic_ne_f rfl h12) ?_)
    · refine fu_go 2 (pc' := 97) (ls' := [.ref P0, .ref P1, .int a2, .int a3]) (st' := [.int (1 : Int32)]) (s' := s) rfl ?_
      exact fu_leaf rfl ⟨.inl rfl, .inl rfl, .inl rfl, .inl rfl, trivial⟩
    · refine fu_go 1 (pc' := 97) (ls' := [.ref P0, .ref P1, .int a2, .int a3]) (st' := [.int (0 : Int32)]) (s' := s) rfl ?_
      exact fu_leaf rfl ⟨.inl rfl, .inl rfl, .inl rfl, .inl rfl, trivial⟩
  show fu_J _ _ (fc_X d (some .boolean) k_X3_holds 97 [am_U, am_U, am_U, am_U] [.int (fu_b j11)] s)
  exact fu_bret (b := j11) rfl rfl
/-! X3_intoLoop -/
set_option maxRecDepth 100000 in
theorem e_X3_intoLoop (d : Nat) (hd : 3 ≤ d) (s : fu_S) (P0 : Nat) (hP0 : fc_is2 P0) (P1 : Nat) (hP1 : fc_is4 P1) (a2 : Int32) (a3 : Int32) : fu_J (f_X3_intoLoop s P0 P1 a2 a3) (fun r => some (some (.int r.1), r.2)) (am_D (fu_ho fc_sh) am_m d 38 [.ref P0, .ref P1, .int a2, .int a3] s) := by
  obtain ⟨d, rfl⟩ : ∃ e, d = e + 1 := ⟨d - 1, by omega⟩
  refine fu_enter (ls := [.ref P0, .ref P1, .int a2, .int a3, am_U]) am_at_X3_intoLoop rfl rfl ?_
  show fu_J _ _ (fc_X d (some .int) k_X3_intoLoop 0 [.ref P0, .ref P1, .int a2, .int a3, am_U] [] s)
  unfold f_X3_intoLoop
  refine fu_go 2 (pc' := 2) (ls' := [.ref P0, .ref P1, .int a2, .int a3, am_U]) (st' := [.int a2, .ref P1]) (s' := s) rfl ?_
  refine fu_bind (fu_cVJ rfl rfl rfl rfl rfl (fu_recv hP1.1 am_at_X5_mateAt rfl) (e_X5_mateAt d (by omega) s P1 hP1 a2)) (fun r1 => ?_)
  show fu_J _ _ (fc_X d (some .int) k_X3_intoLoop 5 [.ref P0, .ref P1, .int a2, .int a3, am_U] [.int r1] s)
  refine fu_go 2 (pc' := 8) (ls' := [.ref P0, .ref P1, .int a2, .int a3, .int r1]) (st' := [.int a2]) (s' := s) rfl ?_
  refine fu_ite (fun h2 => fu_step (fu_if_lt_t rfl h2) ?_) (fun h2 => fu_step (fu_if_lt_f rfl h2) ?_)
  · refine fu_go 3 (pc' := 29) (ls' := [.ref P0, .ref P1, .int a2, .int a3, .int r1]) (st' := [.int (r1 + (1 : Int32))]) (s' := s) rfl ?_
    exact fu_iret rfl rfl
  · refine fu_go 2 (pc' := 14) (ls' := [.ref P0, .ref P1, .int a2, .int a3, .int r1]) (st' := [.int (60 : Int32), .int a2]) (s' := s) rfl ?_
    refine fu_ite (fun h3 => fu_step (fu_ic_ge_t rfl h3) ?_) (fun h3 => fu_step (fu_ic_ge_f rfl h3) ?_)
    · refine fu_go 4 (pc' := 22) (ls' := [.ref P0, .ref P1, .int a2, .int a3, .int r1]) (st' := [.int (a2 + (1 : Int32)), .int r1]) (s' := s) rfl ?_
      refine fu_ite (fun h4 => fu_step (fu_ic_ne_t rfl h4) ?_) (fun h4 => fu_step (fu_ic_ne_f rfl h4) ?_)
      · refine fu_go 3 (pc' := 29) (ls' := [.ref P0, .ref P1, .int a2, .int a3, .int r1]) (st' := [.int (r1 + (1 : Int32))]) (s' := s) rfl ?_
        exact fu_iret rfl rfl
      · refine fu_go 1 (pc' := 31) (ls' := [.ref P0, .ref P1, .int a2, .int a3, .int r1]) (st' := [.ref P0]) (s' := s) rfl ?_
        refine fu_step (fu_getR rfl hP0.1 rfl rfl) ?_
        refine fu_go 2 (pc' := 36) (ls' := [.ref P0, .ref P1, .int a2, .int a3, .int r1]) (st' := [.int a3, .int a2, .ref (P0 + 1)]) (s' := s) rfl ?_
        refine fu_guard (fun h6 => fu_lets (b := (fu_pi s (P0 + 1) (Int32.toNatClampNeg a2) a3)) (fu_stI rfl hP0.2 h6) (fun s5 => ?_))
        refine fu_go 3 (pc' := 40) (ls' := [.ref P0, .ref P1, .int a2, .int a3, .int r1]) (st' := [.int (a2 + (1 : Int32))]) (s' := s5) rfl ?_
        exact fu_iret rfl rfl
    · refine fu_go 3 (pc' := 29) (ls' := [.ref P0, .ref P1, .int a2, .int a3, .int r1]) (st' := [.int (r1 + (1 : Int32))]) (s' := s) rfl ?_
      exact fu_iret rfl rfl
/-! X4_canWait -/
set_option maxRecDepth 100000 in
theorem e_X4_canWait (d : Nat) (hd : 1 ≤ d) (s : fu_S) (P0 : Nat) (hP0 : fc_is3 P0) (a1 : Int32) : fu_J (some (f_X4_canWait s P0 a1)) (fun r => some (some (.int (fu_b r)), s)) (am_D (fu_ho fc_sh) am_m d 93 [.ref P0, .int a1] s) := by
  obtain ⟨d, rfl⟩ : ∃ e, d = e + 1 := ⟨d - 1, by omega⟩
  refine fu_enter (ls := [.ref P0, .int a1]) am_at_X4_canWait rfl rfl ?_
  show fu_J _ _ (fc_X d (some .boolean) k_X4_canWait 0 [.ref P0, .int a1] [] s)
  unfold f_X4_canWait
  refine fu_go 3 (pc' := 5) (ls' := [.ref P0, .int a1]) (st' := [.ref P0, .int (9999 : Int32), .int a1]) (s' := s) rfl ?_
  refine fu_step (fu_getI rfl hP0.1 rfl rfl) ?_
  refine fu_go 1 (pc' := 9) (ls' := [.ref P0, .int a1]) (st' := [.int ((9999 : Int32) - (s.1 P0 2)), .int a1]) (s' := s) rfl ?_
  refine fu_letS (V := fun j1 : Bool => fc_X d (some .boolean) k_X4_canWait 17 [am_U, am_U] [.int (fu_b j1)] s) ?_ (fun j1 => ?_)
  · refine fu_iteS (fun h2 => fu_step (fu_ic_gt_t rfl h2) ?_) (fun h2 => fu_step (fu_ic_gt_f rfl h2) ?_)
    · refine fu_go 2 (pc' := 17) (ls' := [.ref P0, .int a1]) (st' := [.int (1 : Int32)]) (s' := s) rfl ?_
      exact fu_leaf rfl ⟨.inl rfl, .inl rfl, trivial⟩
    · refine fu_go 1 (pc' := 17) (ls' := [.ref P0, .int a1]) (st' := [.int (0 : Int32)]) (s' := s) rfl ?_
      exact fu_leaf rfl ⟨.inl rfl, .inl rfl, trivial⟩
  show fu_J _ _ (fc_X d (some .boolean) k_X4_canWait 17 [am_U, am_U] [.int (fu_b j1)] s)
  exact fu_bret (b := j1) rfl rfl
/-! X4_goOn -/
set_option maxRecDepth 100000 in
theorem e_X4_goOn (d : Nat) (hd : 1 ≤ d) (s : fu_S) (P0 : Nat) (hP0 : fc_is3 P0) (a1 : Int32) : fu_J (some (f_X4_goOn s P0 a1)) (fun r => some (none, r)) (am_D (fu_ho fc_sh) am_m d 94 [.ref P0, .int a1] s) := by
  obtain ⟨d, rfl⟩ : ∃ e, d = e + 1 := ⟨d - 1, by omega⟩
  refine fu_enter (ls := [.ref P0, .int a1]) am_at_X4_goOn rfl rfl ?_
  show fu_J _ _ (fc_X d none k_X4_goOn 0 [.ref P0, .int a1] [] s)
  unfold f_X4_goOn
  refine fu_go 2 (pc' := 2) (ls' := [.ref P0, .int a1]) (st' := [.ref P0, .ref P0]) (s' := s) rfl ?_
  refine fu_step (fu_getI rfl hP0.1 rfl rfl) ?_
  refine fu_go 2 (pc' := 7) (ls' := [.ref P0, .int a1]) (st' := [.int ((s.1 P0 2) + a1), .ref P0]) (s' := s) rfl ?_
  refine fu_letsS (b := (fu_pi s P0 2 ((s.1 P0 2) + a1))) (fu_putI rfl hP0.1 rfl rfl) (fun s1 => ?_)
  exact fu_vret rfl rfl
/-! X4_hasPerson -/
set_option maxRecDepth 100000 in
theorem e_X4_hasPerson (d : Nat) (hd : 1 ≤ d) (s : fu_S) (P0 : Nat) (hP0 : fc_is3 P0) (a1 : Int32) : fu_J (some (f_X4_hasPerson s P0 a1)) (fun r => some (some (.int (fu_b r)), s)) (am_D (fu_ho fc_sh) am_m d 53 [.ref P0, .int a1] s) := by
  obtain ⟨d, rfl⟩ : ∃ e, d = e + 1 := ⟨d - 1, by omega⟩
  refine fu_enter (ls := [.ref P0, .int a1]) am_at_X4_hasPerson rfl rfl ?_
  show fu_J _ _ (fc_X d (some .boolean) k_X4_hasPerson 0 [.ref P0, .int a1] [] s)
  unfold f_X4_hasPerson
  refine fu_go 1 (pc' := 1) (ls' := [.ref P0, .int a1]) (st' := [.int a1]) (s' := s) rfl ?_
  refine fu_letS (V := fun j1 : Bool => fc_X d (some .boolean) k_X4_hasPerson 17 [am_U, am_U] [.int (fu_b j1)] s) ?_ (fun j1 => ?_)
  · refine fu_iteS (fun h2 => fu_step (fu_if_lt_t rfl h2) ?_) (fun h2 => fu_step (fu_if_lt_f rfl h2) ?_)
    · refine fu_go 1 (pc' := 17) (ls' := [.ref P0, .int a1]) (st' := [.int (0 : Int32)]) (s' := s) rfl ?_
      exact fu_leaf rfl ⟨.inl rfl, .inl rfl, trivial⟩
    · refine fu_go 2 (pc' := 6) (ls' := [.ref P0, .int a1]) (st' := [.ref P0, .int a1]) (s' := s) rfl ?_
      refine fu_step (fu_getI rfl hP0.1 rfl rfl) ?_
      refine fu_iteS (fun h3 => fu_step (fu_ic_ge_t rfl h3) ?_) (fun h3 => fu_step (fu_ic_ge_f rfl h3) ?_)
      · refine fu_go 2 (pc' := 17) (ls' := [.ref P0, .int a1]) (st' := [.int (1 : Int32)]) (s' := s) rfl ?_
        exact fu_leaf rfl ⟨.inl rfl, .inl rfl, trivial⟩
      · refine fu_go 1 (pc' := 17) (ls' := [.ref P0, .int a1]) (st' := [.int (0 : Int32)]) (s' := s) rfl ?_
        exact fu_leaf rfl ⟨.inl rfl, .inl rfl, trivial⟩
  show fu_J _ _ (fc_X d (some .boolean) k_X4_hasPerson 17 [am_U, am_U] [.int (fu_b j1)] s)
  exact fu_bret (b := j1) rfl rfl
/-! X4_spotOf -/
set_option maxRecDepth 100000 in
theorem e_X4_spotOf (d : Nat) (hd : 1 ≤ d) (s : fu_S) (P0 : Nat) (hP0 : fc_is3 P0) (a1 : Int32) : fu_J (f_X4_spotOf s P0 a1) (fun r => some (some (.int r), s)) (am_D (fu_ho fc_sh) am_m d 81 [.ref P0, .int a1] s) := by
  obtain ⟨d, rfl⟩ : ∃ e, d = e + 1 := ⟨d - 1, by omega⟩
  refine fu_enter (ls := [.ref P0, .int a1, am_U]) am_at_X4_spotOf rfl rfl ?_
  show fu_J _ _ (fc_X d (some .int) k_X4_spotOf 0 [.ref P0, .int a1, am_U] [] s)
  unfold f_X4_spotOf
  refine fu_go 1 (pc' := 1) (ls' := [.ref P0, .int a1, am_U]) (st' := [.int a1]) (s' := s) rfl ?_
  refine fu_bind (V := fun j1 : Int32 => fc_X d (some .int) k_X4_spotOf 22 [.ref P0, .int a1, am_U] [.int j1] s) ?_ (fun j1 => ?_)
  · refine fu_ite (fun h2 => fu_step (fu_if_lt_t rfl h2) ?_) (fun h2 => fu_step (fu_if_lt_f rfl h2) ?_)
    · refine fu_go 1 (pc' := 22) (ls' := [.ref P0, .int a1, am_U]) (st' := [.int (-1 : Int32)]) (s' := s) rfl ?_
      exact fu_leaf rfl ⟨.inr rfl, .inr rfl, .inl rfl, trivial⟩
    · refine fu_go 2 (pc' := 6) (ls' := [.ref P0, .int a1, am_U]) (st' := [.ref P0, .int a1]) (s' := s) rfl ?_
      refine fu_step (fu_getI rfl hP0.1 rfl rfl) ?_
      refine fu_ite (fun h3 => fu_step (fu_ic_ge_t rfl h3) ?_) (fun h3 => fu_step (fu_ic_ge_f rfl h3) ?_)
      · refine fu_go 1 (pc' := 13) (ls' := [.ref P0, .int a1, am_U]) (st' := [.ref P0]) (s' := s) rfl ?_
        refine fu_step (fu_getR rfl hP0.1 rfl rfl) ?_
        refine fu_go 1 (pc' := 17) (ls' := [.ref P0, .int a1, am_U]) (st' := [.int a1, .ref (P0 + 8)]) (s' := s) rfl ?_
        refine fu_guard (fun h4 => fu_step (fu_ldI rfl hP0.2.2.2.2.2.2.2.2.1 h4) ?_)
        refine fu_go 1 (pc' := 22) (ls' := [.ref P0, .int a1, am_U]) (st' := [.int (s.1 (P0 + 8) (Int32.toNatClampNeg a1))]) (s' := s) rfl ?_
        exact fu_leaf rfl ⟨.inr rfl, .inr rfl, .inl rfl, trivial⟩
      · refine fu_go 1 (pc' := 22) (ls' := [.ref P0, .int a1, am_U]) (st' := [.int (-1 : Int32)]) (s' := s) rfl ?_
        exact fu_leaf rfl ⟨.inr rfl, .inr rfl, .inl rfl, trivial⟩
  show fu_J _ _ (fc_X d (some .int) k_X4_spotOf 22 [.ref P0, .int a1, am_U] [.int j1] s)
  refine fu_go 2 (pc' := 24) (ls' := [.ref P0, .int a1, .int j1]) (st' := [.int j1]) (s' := s) rfl ?_
  refine fu_bind (V := fun j5 : Int32 => fc_X d (some .int) k_X4_spotOf 55 [am_U, am_U, am_U] [.int j5] s) ?_ (fun j5 => ?_)
  · refine fu_ite (fun h6 => fu_step (fu_if_lt_t rfl h6) ?_) (fun h6 => fu_step (fu_if_lt_f rfl h6) ?_)
    · refine fu_go 1 (pc' := 55) (ls' := [.ref P0, .int a1, .int j1]) (st' := [.int (-1 : Int32)]) (s' := s) rfl ?_
      exact fu_leaf rfl ⟨.inl rfl, .inl rfl, .inl rfl, trivial⟩
    · refine fu_go 2 (pc' := 29) (ls' := [.ref P0, .int a1, .int j1]) (st' := [.ref P0, .int j1]) (s' := s) rfl ?_
      refine fu_step (fu_getI rfl hP0.1 rfl rfl) ?_
      refine fu_ite (fun h7 => fu_step (fu_ic_ge_t rfl h7) ?_) (fun h7 => fu_step (fu_ic_ge_f rfl h7) ?_)
      · refine fu_go 1 (pc' := 36) (ls' := [.ref P0, .int a1, .int j1]) (st' := [.ref P0]) (s' := s) rfl ?_
        refine fu_step (fu_getR rfl hP0.1 rfl rfl) ?_
        refine fu_go 1 (pc' := 40) (ls' := [.ref P0, .int a1, .int j1]) (st' := [.int a1, .ref (P0 + 7)]) (s' := s) rfl ?_
        refine fu_guard (fun h8 => fu_step (fu_ldI rfl hP0.2.2.2.2.2.2.2.1 h8) ?_)
        refine fu_go 1 (pc' := 42) (ls' := [.ref P0, .int a1, .int j1]) (st' := [.ref P0, .int (s.1 (P0 + 7) (Int32.toNatClampNeg a1))]) (s' := s) rfl ?_
        refine fu_step (fu_getR rfl hP0.1 rfl rfl) ?_
        refine fu_go 1 (pc' := 46) (ls' := [.ref P0, .int a1, .int j1]) (st' := [.int j1, .ref (P0 + 2), .int (s.1 (P0 + 7) (Int32.toNatClampNeg a1))]) (s' := s) rfl ?_
        refine fu_guard (fun h9 => fu_step (fu_ldI rfl hP0.2.2.1 h9) ?_)
        refine fu_go 2 (pc' := 50) (ls' := [.ref P0, .int a1, .int j1]) (st' := [.int (10 : Int32), .int ((s.1 (P0 + 7) (Int32.toNatClampNeg a1)) + (s.1 (P0 + 2) (Int32.toNatClampNeg j1)))]) (s' := s) rfl ?_
        refine fu_step (fu_rem rfl (by decide)) ?_
        refine fu_go 1 (pc' := 55) (ls' := [.ref P0, .int a1, .int j1]) (st' := [.int (((s.1 (P0 + 7) (Int32.toNatClampNeg a1)) + (s.1 (P0 + 2) (Int32.toNatClampNeg j1))) - ((s.1 (P0 + 7) (Int32.toNatClampNeg a1)) + (s.1 (P0 + 2) (Int32.toNatClampNeg j1))) / (10 : Int32) * (10 : Int32))]) (s' := s) rfl ?_
        exact fu_leaf rfl ⟨.inl rfl, .inl rfl, .inl rfl, trivial⟩
      · refine fu_go 1 (pc' := 55) (ls' := [.ref P0, .int a1, .int j1]) (st' := [.int (-1 : Int32)]) (s' := s) rfl ?_
        exact fu_leaf rfl ⟨.inl rfl, .inl rfl, .inl rfl, trivial⟩
  show fu_J _ _ (fc_X d (some .int) k_X4_spotOf 55 [am_U, am_U, am_U] [.int j5] s)
  exact fu_iret rfl rfl
/-! X4_isSpot -/
set_option maxRecDepth 100000 in
theorem e_X4_isSpot (d : Nat) (hd : 1 ≤ d) (s : fu_S) (P0 : Nat) (hP0 : fc_is3 P0) (a1 : Int32) : fu_J (some (f_X4_isSpot P0 a1)) (fun r => some (some (.int (fu_b r)), s)) (am_D (fu_ho fc_sh) am_m d 55 [.ref P0, .int a1] s) := by
  obtain ⟨d, rfl⟩ : ∃ e, d = e + 1 := ⟨d - 1, by omega⟩
  refine fu_enter (ls := [.ref P0, .int a1]) am_at_X4_isSpot rfl rfl ?_
  show fu_J _ _ (fc_X d (some .boolean) k_X4_isSpot 0 [.ref P0, .int a1] [] s)
  unfold f_X4_isSpot
  refine fu_go 1 (pc' := 1) (ls' := [.ref P0, .int a1]) (st' := [.int a1]) (s' := s) rfl ?_
  refine fu_letS (V := fun j1 : Bool => fc_X d (some .boolean) k_X4_isSpot 15 [am_U, am_U] [.int (fu_b j1)] s) ?_ (fun j1 => ?_)
  · refine fu_iteS (fun h2 => fu_step (fu_if_lt_t rfl h2) ?_) (fun h2 => fu_step (fu_if_lt_f rfl h2) ?_)
    · refine fu_go 1 (pc' := 15) (ls' := [.ref P0, .int a1]) (st' := [.int (0 : Int32)]) (s' := s) rfl ?_
      exact fu_leaf rfl ⟨.inl rfl, .inl rfl, trivial⟩
    · refine fu_go 2 (pc' := 7) (ls' := [.ref P0, .int a1]) (st' := [.int (10 : Int32), .int a1]) (s' := s) rfl ?_
      refine fu_iteS (fun h3 => fu_step (fu_ic_ge_t rfl h3) ?_) (fun h3 => fu_step (fu_ic_ge_f rfl h3) ?_)
      · refine fu_go 2 (pc' := 15) (ls' := [.ref P0, .int a1]) (st' := [.int (1 : Int32)]) (s' := s) rfl ?_
        exact fu_leaf rfl ⟨.inl rfl, .inl rfl, trivial⟩
      · refine fu_go 1 (pc' := 15) (ls' := [.ref P0, .int a1]) (st' := [.int (0 : Int32)]) (s' := s) rfl ?_
        exact fu_leaf rfl ⟨.inl rfl, .inl rfl, trivial⟩
  show fu_J _ _ (fc_X d (some .boolean) k_X4_isSpot 15 [am_U, am_U] [.int (fu_b j1)] s)
  exact fu_bret (b := j1) rfl rfl
/-! X4_reaches -/
set_option maxRecDepth 100000 in
theorem e_X4_reaches (d : Nat) (hd : 2 ≤ d) (s : fu_S) (P0 : Nat) (hP0 : fc_is3 P0) (a1 : Int32) (a2 : Int32) : fu_J (f_X4_reaches s P0 a1 a2) (fun r => some (some (.int (fu_b r)), s)) (am_D (fu_ho fc_sh) am_m d 71 [.ref P0, .int a1, .int a2] s) := by
  obtain ⟨d, rfl⟩ : ∃ e, d = e + 1 := ⟨d - 1, by omega⟩
  refine fu_enter (ls := [.ref P0, .int a1, .int a2]) am_at_X4_reaches rfl rfl ?_
  show fu_J _ _ (fc_X d (some .boolean) k_X4_reaches 0 [.ref P0, .int a1, .int a2] [] s)
  unfold f_X4_reaches
  refine fu_go 2 (pc' := 2) (ls' := [.ref P0, .int a1, .int a2]) (st' := [.int a1, .ref P0]) (s' := s) rfl ?_
  refine fu_step (fu_cV rfl rfl rfl rfl rfl (fu_recv hP0.1 am_at_X4_hasPerson rfl) (fu_eq (e_X4_hasPerson d (by omega) s P0 hP0 a1) rfl)) ?_
  show fu_J _ _ (fc_X d (some .boolean) k_X4_reaches 5 [.ref P0, .int a1, .int a2] [.int (fu_b (f_X4_hasPerson s P0 a1))] s)
  refine fu_bind (V := fun j1 : Bool => fc_X d (some .boolean) k_X4_reaches 34 [am_U, am_U, am_U] [.int (fu_b j1)] s) ?_ (fun j1 => ?_)
  · refine fu_ite (fun h2 => fu_step (fu_ib_eq_t rfl h2) ?_) (fun h2 => fu_step (fu_ib_eq_f rfl h2) ?_)
    · refine fu_go 2 (pc' := 10) (ls' := [.ref P0, .int a1, .int a2]) (st' := [.int a2, .ref P0]) (s' := s) rfl ?_
      refine fu_step (fu_cV rfl rfl rfl rfl rfl (fu_recv hP0.1 am_at_X4_isSpot rfl) (fu_eq (e_X4_isSpot d (by omega) s P0 hP0 a2) rfl)) ?_
      show fu_J _ _ (fc_X d (some .boolean) k_X4_reaches 13 [.ref P0, .int a1, .int a2] [.int (fu_b (f_X4_isSpot P0 a2))] s)
      refine fu_ite (fun h3 => fu_step (fu_ib_eq_t rfl h3) ?_) (fun h3 => fu_step (fu_ib_eq_f rfl h3) ?_)
      · refine fu_go 1 (pc' := 17) (ls' := [.ref P0, .int a1, .int a2]) (st' := [.ref P0]) (s' := s) rfl ?_
        refine fu_step (fu_getR rfl hP0.1 rfl rfl) ?_
        refine fu_go 1 (pc' := 21) (ls' := [.ref P0, .int a1, .int a2]) (st' := [.int a1, .ref (P0 + 6)]) (s' := s) rfl ?_
        refine fu_guard (fun h4 => fu_step (fu_ldI rfl hP0.2.2.2.2.2.2.1 h4) ?_)
        refine fu_go 4 (pc' := 26) (ls' := [.ref P0, .int a1, .int a2]) (st' := [.int (((s.1 (P0 + 6) (Int32.toNatClampNeg a1)) >>> (a2 &&& 31)) &&& (1 : Int32))]) (s' := s) rfl ?_
        refine fu_ite (fun h5 => fu_step (fu_if_eq_t rfl h5) ?_) (fun h5 => fu_step (fu_if_eq_f rfl h5) ?_)
        · refine fu_go 1 (pc' := 34) (ls' := [.ref P0, .int a1, .int a2]) (st' := [.int (0 : Int32)]) (s' := s) rfl ?_
          exact fu_leaf rfl ⟨.inl rfl, .inl rfl, .inl rfl, trivial⟩
        · refine fu_go 2 (pc' := 34) (ls' := [.ref P0, .int a1, .int a2]) (st' := [.int (1 : Int32)]) (s' := s) rfl ?_
          exact fu_leaf rfl ⟨.inl rfl, .inl rfl, .inl rfl, trivial⟩
      · refine fu_go 1 (pc' := 34) (ls' := [.ref P0, .int a1, .int a2]) (st' := [.int (0 : Int32)]) (s' := s) rfl ?_
        exact fu_leaf rfl ⟨.inl rfl, .inl rfl, .inl rfl, trivial⟩
    · refine fu_go 1 (pc' := 34) (ls' := [.ref P0, .int a1, .int a2]) (st' := [.int (0 : Int32)]) (s' := s) rfl ?_
      exact fu_leaf rfl ⟨.inl rfl, .inl rfl, .inl rfl, trivial⟩
  show fu_J _ _ (fc_X d (some .boolean) k_X4_reaches 34 [am_U, am_U, am_U] [.int (fu_b j1)] s)
  exact fu_bret (b := j1) rfl rfl
/-! X4_isAble -/
set_option maxRecDepth 100000 in
theorem e_X4_isAble (d : Nat) (hd : 3 ≤ d) (s : fu_S) (P0 : Nat) (hP0 : fc_is3 P0) (a1 : Int32) (a2 : Int32) : fu_J (f_X4_isAble s P0 a1 a2) (fun r => some (some (.int (fu_b r)), s)) (am_D (fu_ho fc_sh) am_m d 89 [.ref P0, .int a1, .int a2] s) := by
  obtain ⟨d, rfl⟩ : ∃ e, d = e + 1 := ⟨d - 1, by omega⟩
  refine fu_enter (ls := [.ref P0, .int a1, .int a2, am_U]) am_at_X4_isAble rfl rfl ?_
  show fu_J _ _ (fc_X d (some .boolean) k_X4_isAble 0 [.ref P0, .int a1, .int a2, am_U] [] s)
  unfold f_X4_isAble
  refine fu_go 2 (pc' := 2) (ls' := [.ref P0, .int a1, .int a2, am_U]) (st' := [.int a2, .ref P0]) (s' := s) rfl ?_
  refine fu_bind (fu_cVJ rfl rfl rfl rfl rfl (fu_recv hP0.1 am_at_X4_bearerOf rfl) (e_X4_bearerOf d (by omega) s P0 hP0 a2)) (fun r1 => ?_)
  show fu_J _ _ (fc_X d (some .boolean) k_X4_isAble 5 [.ref P0, .int a1, .int a2, am_U] [.int r1] s)
  refine fu_go 3 (pc' := 8) (ls' := [.ref P0, .int a1, .int a2, .int r1]) (st' := [.int r1, .int a1]) (s' := s) rfl ?_
  refine fu_bind (V := fun j2 : Bool => fc_X d (some .boolean) k_X4_isAble 42 [am_U, am_U, am_U, am_U] [.int (fu_b j2)] s) ?_ (fun j2 => ?_)
  · refine fu_ite (fun h3 => fu_step (fu_ic_ne_t rfl h3) ?_) (fun h3 => fu_step (fu_ic_ne_f rfl h3) ?_)
    · refine fu_go 4 (pc' := 15) (ls' := [.ref P0, .int a1, .int a2, .int r1]) (st' := [.int a2, .ref P0, .int a1, .ref P0]) (s' := s) rfl ?_
      refine fu_bind (fu_cVJ rfl rfl rfl rfl rfl (fu_recv hP0.1 am_at_X4_spotOf rfl) (e_X4_spotOf d (by omega) s P0 hP0 a2)) (fun r4 => ?_)
      show fu_J _ _ (fc_X d (some .boolean) k_X4_isAble 18 [.ref P0, .int a1, .int a2, .int r1] [.int r4, .int a1, .ref P0] s)
      refine fu_bind (fu_cVJ rfl rfl rfl rfl rfl (fu_recv hP0.1 am_at_X4_reaches rfl) (e_X4_reaches d (by omega) s P0 hP0 a1 r4)) (fun r5 => ?_)
      show fu_J _ _ (fc_X d (some .boolean) k_X4_isAble 21 [.ref P0, .int a1, .int a2, .int r1] [.int (fu_b r5)] s)
      refine fu_go 1 (pc' := 42) (ls' := [.ref P0, .int a1, .int a2, .int r1]) (st' := [.int (fu_b r5)]) (s' := s) rfl ?_
      exact fu_leaf rfl ⟨.inl rfl, .inl rfl, .inl rfl, .inl rfl, trivial⟩
    · refine fu_go 3 (pc' := 27) (ls' := [.ref P0, .int a1, .int a2, .int r1]) (st' := [.int r1, .int a1, .ref P0]) (s' := s) rfl ?_
      refine fu_bind (fu_cVJ rfl rfl rfl rfl rfl (fu_recv hP0.1 am_at_X4_apart rfl) (e_X4_apart d (by omega) s P0 hP0 a1 r1)) (fun r6 => ?_)
      show fu_J _ _ (fc_X d (some .boolean) k_X4_isAble 30 [.ref P0, .int a1, .int a2, .int r1] [.int r6] s)
      refine fu_go 1 (pc' := 31) (ls' := [.ref P0, .int a1, .int a2, .int r1]) (st' := [.ref P0, .int r6]) (s' := s) rfl ?_
      refine fu_step (fu_getI rfl hP0.1 rfl rfl) ?_
      refine fu_ite (fun h7 => fu_step (fu_ic_gt_t rfl h7) ?_) (fun h7 => fu_step (fu_ic_gt_f rfl h7) ?_)
      · refine fu_go 2 (pc' := 42) (ls' := [.ref P0, .int a1, .int a2, .int r1]) (st' := [.int (1 : Int32)]) (s' := s) rfl ?_
        exact fu_leaf rfl ⟨.inl rfl, .inl rfl, .inl rfl, .inl rfl, trivial⟩
      · refine fu_go 1 (pc' := 42) (ls' := [.ref P0, .int a1, .int a2, .int r1]) (st' := [.int (0 : Int32)]) (s' := s) rfl ?_
        exact fu_leaf rfl ⟨.inl rfl, .inl rfl, .inl rfl, .inl rfl, trivial⟩
  show fu_J _ _ (fc_X d (some .boolean) k_X4_isAble 42 [am_U, am_U, am_U, am_U] [.int (fu_b j2)] s)
  exact fu_bret (b := j2) rfl rfl
/-! X4_canScratchNow -/
set_option maxRecDepth 100000 in
theorem e_X4_canScratchNow (d : Nat) (hd : 4 ≤ d) (s : fu_S) (P0 : Nat) (hP0 : fc_is3 P0) (a1 : Int32) (a2 : Int32) : fu_J (f_X4_canScratchNow s P0 a1 a2) (fun r => some (some (.int (fu_b r)), s)) (am_D (fu_ho fc_sh) am_m d 90 [.ref P0, .int a1, .int a2] s) := by
  obtain ⟨d, rfl⟩ : ∃ e, d = e + 1 := ⟨d - 1, by omega⟩
  refine fu_enter (ls := [.ref P0, .int a1, .int a2]) am_at_X4_canScratchNow rfl rfl ?_
  show fu_J _ _ (fc_X d (some .boolean) k_X4_canScratchNow 0 [.ref P0, .int a1, .int a2] [] s)
  unfold f_X4_canScratchNow
  refine fu_go 2 (pc' := 2) (ls' := [.ref P0, .int a1, .int a2]) (st' := [.int a1, .ref P0]) (s' := s) rfl ?_
  refine fu_step (fu_cV rfl rfl rfl rfl rfl (fu_recv hP0.1 am_at_X4_hasPerson rfl) (fu_eq (e_X4_hasPerson d (by omega) s P0 hP0 a1) rfl)) ?_
  show fu_J _ _ (fc_X d (some .boolean) k_X4_canScratchNow 5 [.ref P0, .int a1, .int a2] [.int (fu_b (f_X4_hasPerson s P0 a1))] s)
  refine fu_bind (V := fun j1 : Bool => fc_X d (some .boolean) k_X4_canScratchNow 30 [am_U, am_U, am_U] [.int (fu_b j1)] s) ?_ (fun j1 => ?_)
  · refine fu_ite (fun h2 => fu_step (fu_ib_eq_t rfl h2) ?_) (fun h2 => fu_step (fu_ib_eq_f rfl h2) ?_)
    · refine fu_go 2 (pc' := 10) (ls' := [.ref P0, .int a1, .int a2]) (st' := [.int a2, .ref P0]) (s' := s) rfl ?_
      refine fu_bind (fu_cVJ rfl rfl rfl rfl rfl (fu_recv hP0.1 am_at_X4_isUp rfl) (e_X4_isUp d (by omega) s P0 hP0 a2)) (fun r3 => ?_)
      show fu_J _ _ (fc_X d (some .boolean) k_X4_canScratchNow 13 [.ref P0, .int a1, .int a2] [.int (fu_b r3)] s)
      refine fu_ite (fun h4 => fu_step (fu_ib_eq_t rfl h4) ?_) (fun h4 => fu_step (fu_ib_eq_f rfl h4) ?_)
      · refine fu_go 3 (pc' := 19) (ls' := [.ref P0, .int a1, .int a2]) (st' := [.int a2, .int a1, .ref P0]) (s' := s) rfl ?_
        refine fu_bind (fu_cVJ rfl rfl rfl rfl rfl (fu_recv hP0.1 am_at_X4_isAble rfl) (e_X4_isAble d (by omega) s P0 hP0 a1 a2)) (fun r5 => ?_)
        show fu_J _ _ (fc_X d (some .boolean) k_X4_canScratchNow 22 [.ref P0, .int a1, .int a2] [.int (fu_b r5)] s)
        refine fu_ite (fun h6 => fu_step (fu_ib_eq_t rfl h6) ?_) (fun h6 => fu_step (fu_ib_eq_f rfl h6) ?_)
        · refine fu_go 2 (pc' := 30) (ls' := [.ref P0, .int a1, .int a2]) (st' := [.int (1 : Int32)]) (s' := s) rfl ?_
          exact fu_leaf rfl ⟨.inl rfl, .inl rfl, .inl rfl, trivial⟩
        · refine fu_go 1 (pc' := 30) (ls' := [.ref P0, .int a1, .int a2]) (st' := [.int (0 : Int32)]) (s' := s) rfl ?_
          exact fu_leaf rfl ⟨.inl rfl, .inl rfl, .inl rfl, trivial⟩
      · refine fu_go 1 (pc' := 30) (ls' := [.ref P0, .int a1, .int a2]) (st' := [.int (0 : Int32)]) (s' := s) rfl ?_
        exact fu_leaf rfl ⟨.inl rfl, .inl rfl, .inl rfl, trivial⟩
    · refine fu_go 1 (pc' := 30) (ls' := [.ref P0, .int a1, .int a2]) (st' := [.int (0 : Int32)]) (s' := s) rfl ?_
      exact fu_leaf rfl ⟨.inl rfl, .inl rfl, .inl rfl, trivial⟩
  show fu_J _ _ (fc_X d (some .boolean) k_X4_canScratchNow 30 [am_U, am_U, am_U] [.int (fu_b j1)] s)
  exact fu_bret (b := j1) rfl rfl
/-! X4_delayOf -/
set_option maxRecDepth 100000 in
theorem e_X4_delayOf (d : Nat) (hd : 2 ≤ d) (s : fu_S) (P0 : Nat) (hP0 : fc_is3 P0) (a1 : Int32) : fu_J (f_X4_delayOf s P0 a1) (fun r => some (some (.int r), s)) (am_D (fu_ho fc_sh) am_m d 82 [.ref P0, .int a1] s) := by
  obtain ⟨d, rfl⟩ : ∃ e, d = e + 1 := ⟨d - 1, by omega⟩
  refine fu_enter (ls := [.ref P0, .int a1]) am_at_X4_delayOf rfl rfl ?_
  show fu_J _ _ (fc_X d (some .int) k_X4_delayOf 0 [.ref P0, .int a1] [] s)
  unfold f_X4_delayOf
  refine fu_go 2 (pc' := 2) (ls' := [.ref P0, .int a1]) (st' := [.int a1, .ref P0]) (s' := s) rfl ?_
  refine fu_step (fu_cV rfl rfl rfl rfl rfl (fu_recv hP0.1 am_at_X4_hasThing rfl) (fu_eq (e_X4_hasThing d (by omega) s P0 hP0 a1) rfl)) ?_
  show fu_J _ _ (fc_X d (some .int) k_X4_delayOf 5 [.ref P0, .int a1] [.int (fu_b (f_X4_hasThing s P0 a1))] s)
  refine fu_bind (V := fun j1 : Int32 => fc_X d (some .int) k_X4_delayOf 27 [am_U, am_U] [.int j1] s) ?_ (fun j1 => ?_)
  · refine fu_ite (fun h2 => fu_step (fu_ib_eq_t rfl h2) ?_) (fun h2 => fu_step (fu_ib_eq_f rfl h2) ?_)
    · refine fu_go 3 (pc' := 11) (ls' := [.ref P0, .int a1]) (st' := [.int a1, .ref P0, .ref P0]) (s' := s) rfl ?_
      refine fu_bind (fu_cVJ rfl rfl rfl rfl rfl (fu_recv hP0.1 am_at_X4_bearerOf rfl) (e_X4_bearerOf d (by omega) s P0 hP0 a1)) (fun r3 => ?_)
      show fu_J _ _ (fc_X d (some .int) k_X4_delayOf 14 [.ref P0, .int a1] [.int r3, .ref P0] s)
      refine fu_go 1 (pc' := 15) (ls' := [.ref P0, .int a1]) (st' := [.ref P0, .int r3, .ref P0]) (s' := s) rfl ?_
      refine fu_step (fu_getR rfl hP0.1 rfl rfl) ?_
      refine fu_go 1 (pc' := 19) (ls' := [.ref P0, .int a1]) (st' := [.int a1, .ref (P0 + 7), .int r3, .ref P0]) (s' := s) rfl ?_
      refine fu_guard (fun h4 => fu_step (fu_ldI rfl hP0.2.2.2.2.2.2.2.1 h4) ?_)
      refine fu_bind (fu_cVJ rfl rfl rfl rfl rfl (fu_recv hP0.1 am_at_X4_apart rfl) (e_X4_apart d (by omega) s P0 hP0 r3 (s.1 (P0 + 7) (Int32.toNatClampNeg a1)))) (fun r5 => ?_)
      show fu_J _ _ (fc_X d (some .int) k_X4_delayOf 23 [.ref P0, .int a1] [.int r5] s)
      refine fu_go 1 (pc' := 27) (ls' := [.ref P0, .int a1]) (st' := [.int r5]) (s' := s) rfl ?_
      exact fu_leaf rfl ⟨.inl rfl, .inl rfl, trivial⟩
    · refine fu_go 1 (pc' := 27) (ls' := [.ref P0, .int a1]) (st' := [.int (0 : Int32)]) (s' := s) rfl ?_
      exact fu_leaf rfl ⟨.inl rfl, .inl rfl, trivial⟩
  show fu_J _ _ (fc_X d (some .int) k_X4_delayOf 27 [am_U, am_U] [.int j1] s)
  exact fu_iret rfl rfl
/-! X4_endItch -/
set_option maxRecDepth 100000 in
theorem e_X4_endItch (d : Nat) (hd : 3 ≤ d) (s : fu_S) (P0 : Nat) (hP0 : fc_is3 P0) (a1 : Int32) : fu_J (f_X4_endItch s P0 a1) (fun r => some (none, r)) (am_D (fu_ho fc_sh) am_m d 91 [.ref P0, .int a1] s) := by
  obtain ⟨d, rfl⟩ : ∃ e, d = e + 1 := ⟨d - 1, by omega⟩
  refine fu_enter (ls := [.ref P0, .int a1]) am_at_X4_endItch rfl rfl ?_
  show fu_J _ _ (fc_X d none k_X4_endItch 0 [.ref P0, .int a1] [] s)
  unfold f_X4_endItch
  refine fu_go 2 (pc' := 2) (ls' := [.ref P0, .int a1]) (st' := [.int a1, .ref P0]) (s' := s) rfl ?_
  refine fu_step (fu_cV rfl rfl rfl rfl rfl (fu_recv hP0.1 am_at_X4_hasThing rfl) (fu_eq (e_X4_hasThing d (by omega) s P0 hP0 a1) rfl)) ?_
  show fu_J _ _ (fc_X d none k_X4_endItch 5 [.ref P0, .int a1] [.int (fu_b (f_X4_hasThing s P0 a1))] s)
  refine fu_bind (V := fun j1 : fu_S => fc_X d none k_X4_endItch 34 [am_U, am_U] [] j1) ?_ (fun j1 => ?_)
  · refine fu_ite (fun h2 => fu_step (fu_ib_eq_t rfl h2) ?_) (fun h2 => fu_step (fu_ib_eq_f rfl h2) ?_)
    · refine fu_go 1 (pc' := 9) (ls' := [.ref P0, .int a1]) (st' := [.ref P0]) (s' := s) rfl ?_
      refine fu_step (fu_getR rfl hP0.1 rfl rfl) ?_
      refine fu_go 2 (pc' := 14) (ls' := [.ref P0, .int a1]) (st' := [.ref P0, .int a1, .ref (P0 + 11)]) (s' := s) rfl ?_
      refine fu_step (fu_getI rfl hP0.1 rfl rfl) ?_
      refine fu_guard (fun h4 => fu_lets (b := (fu_pi s (P0 + 11) (Int32.toNatClampNeg a1) (s.1 P0 2))) (fu_stI rfl hP0.2.2.2.2.2.2.2.2.2.2.2.1 h4) (fun s3 => ?_))
      refine fu_go 1 (pc' := 19) (ls' := [.ref P0, .int a1]) (st' := [.ref P0]) (s' := s3) rfl ?_
      refine fu_step (fu_getR rfl hP0.1 rfl rfl) ?_
      refine fu_go 2 (pc' := 24) (ls' := [.ref P0, .int a1]) (st' := [.ref P0, .int a1, .ref (P0 + 12)]) (s' := s3) rfl ?_
      refine fu_step (fu_getI rfl hP0.1 rfl rfl) ?_
      refine fu_go 2 (pc' := 29) (ls' := [.ref P0, .int a1]) (st' := [.int a1, .ref P0, .int (s3.1 P0 2), .int a1, .ref (P0 + 12)]) (s' := s3) rfl ?_
      refine fu_bind (fu_cVJ rfl rfl rfl rfl rfl (fu_recv hP0.1 am_at_X4_delayOf rfl) (e_X4_delayOf d (by omega) s3 P0 hP0 a1)) (fun r5 => ?_)
      show fu_J _ _ (fc_X d none k_X4_endItch 32 [.ref P0, .int a1] [.int r5, .int (s3.1 P0 2), .int a1, .ref (P0 + 12)] s3)
      refine fu_go 1 (pc' := 33) (ls' := [.ref P0, .int a1]) (st' := [.int ((s3.1 P0 2) + r5), .int a1, .ref (P0 + 12)]) (s' := s3) rfl ?_
      refine fu_guard (fun h7 => fu_lets (b := (fu_pi s3 (P0 + 12) (Int32.toNatClampNeg a1) ((s3.1 P0 2) + r5))) (fu_stI rfl hP0.2.2.2.2.2.2.2.2.2.2.2.2 h7) (fun s6 => ?_))
      exact fu_leaf rfl ⟨.inl rfl, .inl rfl, trivial⟩
    · exact fu_leaf rfl ⟨.inl rfl, .inl rfl, trivial⟩
  show fu_J _ _ (fc_X d none k_X4_endItch 34 [am_U, am_U] [] j1)
  exact fu_vret rfl rfl
/-! X3_isDone -/
set_option maxRecDepth 100000 in
theorem e_X3_isDone (d : Nat) (hd : 5 ≤ d) (s : fu_S) (P0 : Nat) (hP0 : fc_is2 P0) (P1 : Nat) (hP1 : fc_is3 P1) (a2 : Int32) (a3 : Int32) (a4 : Int32) : fu_J (f_X3_isDone s P0 P1 a2 a3 a4) (fun r => some (some (.int (fu_b r.1)), r.2)) (am_D (fu_ho fc_sh) am_m d 37 [.ref P0, .ref P1, .int a2, .int a3, .int a4] s) := by
  obtain ⟨d, rfl⟩ : ∃ e, d = e + 1 := ⟨d - 1, by omega⟩
  refine fu_enter (ls := [.ref P0, .ref P1, .int a2, .int a3, .int a4]) am_at_X3_isDone rfl rfl ?_
  show fu_J _ _ (fc_X d (some .boolean) k_X3_isDone 0 [.ref P0, .ref P1, .int a2, .int a3, .int a4] [] s)
  unfold f_X3_isDone
  refine fu_go 2 (pc' := 3) (ls' := [.ref P0, .ref P1, .int a2, .int a3, .int a4]) (st' := [.int (112 : Int32), .int a2]) (s' := s) rfl ?_
  refine fu_ite (fun h1 => fu_step (fu_ic_ne_t rfl h1) ?_) (fun h1 => fu_step (fu_ic_ne_f rfl h1) ?_)
  · refine fu_go 2 (pc' := 8) (ls' := [.ref P0, .ref P1, .int a2, .int a3, .int a4]) (st' := [.int a3, .ref P1]) (s' := s) rfl ?_
    refine fu_step (fu_cV rfl rfl rfl rfl rfl (fu_recv hP1.1 am_at_X4_canWait rfl) (fu_eq (e_X4_canWait d (by omega) s P1 hP1 a3) rfl)) ?_
    show fu_J _ _ (fc_X d (some .boolean) k_X3_isDone 11 [.ref P0, .ref P1, .int a2, .int a3, .int a4] [.int (fu_b (f_X4_canWait s P1 a3))] s)
    refine fu_ite (fun h2 => fu_step (fu_ib_eq_t rfl h2) ?_) (fun h2 => fu_step (fu_ib_eq_f rfl h2) ?_)
    · refine fu_go 2 (pc' := 16) (ls' := [.ref P0, .ref P1, .int a2, .int a3, .int a4]) (st' := [.int a3, .ref P1]) (s' := s) rfl ?_
      refine fu_let (fu_cVJ rfl rfl rfl rfl rfl (fu_recv hP1.1 am_at_X4_goOn rfl) (e_X4_goOn d (by omega) s P1 hP1 a3)) (fun r3 => ?_)
      show fu_J _ _ (fc_X d (some .boolean) k_X3_isDone 19 [.ref P0, .ref P1, .int a2, .int a3, .int a4] [] r3)
      refine fu_go 2 (pc' := 21) (ls' := [.ref P0, .ref P1, .int a2, .int a3, .int a4]) (st' := [.ref P0, .ref P0]) (s' := r3) rfl ?_
      refine fu_step (fu_getI rfl hP0.1 rfl rfl) ?_
      refine fu_go 2 (pc' := 26) (ls' := [.ref P0, .ref P1, .int a2, .int a3, .int a4]) (st' := [.int ((r3.1 P0 4) + a3), .ref P0]) (s' := r3) rfl ?_
      refine fu_lets (b := (fu_pi r3 P0 4 ((r3.1 P0 4) + a3))) (fu_putI rfl hP0.1 rfl rfl) (fun s4 => ?_)
      refine fu_go 1 (pc' := 30) (ls' := [.ref P0, .ref P1, .int a2, .int a3, .int a4]) (st' := [.int (1 : Int32)]) (s' := s4) rfl ?_
      exact fu_bret (b := true) rfl rfl
    · refine fu_go 2 (pc' := 34) (ls' := [.ref P0, .ref P1, .int a2, .int a3, .int a4]) (st' := [.int (111 : Int32), .int a2]) (s' := s) rfl ?_
      refine fu_ite (fun h5 => fu_step (fu_ic_ne_t rfl h5) ?_) (fun h5 => fu_step (fu_ic_ne_f rfl h5) ?_)
      · refine fu_go 4 (pc' := 42) (ls' := [.ref P0, .ref P1, .int a2, .int a3, .int a4]) (st' := [.int (1 : Int32), .int a4, .int a3, .ref P1]) (s' := s) rfl ?_
        refine fu_bind (fu_cVJ rfl rfl rfl rfl rfl (fu_recv hP1.1 am_at_X4_addThing rfl) (e_X4_addThing d (by omega) s P1 hP1 a3 a4 (1 : Int32))) (fun r6 => ?_)
        show fu_J _ _ (fc_X d (some .boolean) k_X3_isDone 45 [.ref P0, .ref P1, .int a2, .int a3, .int a4] [.int r6.1] r6.2)
        refine fu_go 1 (pc' := 46) (ls' := [.ref P0, .ref P1, .int a2, .int a3, .int a4]) (st' := [.int (-1 : Int32), .int r6.1]) (s' := r6.2) rfl ?_
        refine fu_ite (fun h7 => fu_step (fu_ic_eq_t rfl h7) ?_) (fun h7 => fu_step (fu_ic_eq_f rfl h7) ?_)
        · refine fu_go 2 (pc' := 64) (ls' := [.ref P0, .ref P1, .int a2, .int a3, .int a4]) (st' := [.int (113 : Int32), .int a2]) (s' := r6.2) rfl ?_
          refine fu_ite (fun h8 => fu_step (fu_ic_ne_t rfl h8) ?_) (fun h8 => fu_step (fu_ic_ne_f rfl h8) ?_)
          · refine fu_go 3 (pc' := 71) (ls' := [.ref P0, .ref P1, .int a2, .int a3, .int a4]) (st' := [.int a4, .int a3, .ref P1]) (s' := r6.2) rfl ?_
            refine fu_bind (fu_cVJ rfl rfl rfl rfl rfl (fu_recv hP1.1 am_at_X4_canScratchNow rfl) (e_X4_canScratchNow d (by omega) r6.2 P1 hP1 a3 a4)) (fun r9 => ?_)
            show fu_J _ _ (fc_X d (some .boolean) k_X3_isDone 74 [.ref P0, .ref P1, .int a2, .int a3, .int a4] [.int (fu_b r9)] r6.2)
            refine fu_ite (fun h10 => fu_step (fu_ib_eq_t rfl h10) ?_) (fun h10 => fu_step (fu_ib_eq_f rfl h10) ?_)
            · refine fu_go 2 (pc' := 80) (ls' := [.ref P0, .ref P1, .int a2, .int a3, .int a4]) (st' := [.int a4, .ref P1]) (s' := r6.2) rfl ?_
              refine fu_bind (fu_cVJ rfl rfl rfl rfl rfl (fu_recv hP1.1 am_at_X4_endItch rfl) (e_X4_endItch d (by omega) r6.2 P1 hP1 a4)) (fun r11 => ?_)
              show fu_J _ _ (fc_X d (some .boolean) k_X3_isDone 83 [.ref P0, .ref P1, .int a2, .int a3, .int a4] [] r11)
              refine fu_go 2 (pc' := 85) (ls' := [.ref P0, .ref P1, .int a2, .int a3, .int a4]) (st' := [.ref P0, .ref P0]) (s' := r11) rfl ?_
              refine fu_step (fu_getI rfl hP0.1 rfl rfl) ?_
              refine fu_go 2 (pc' := 90) (ls' := [.ref P0, .ref P1, .int a2, .int a3, .int a4]) (st' := [.int ((r11.1 P0 6) + (1 : Int32)), .ref P0]) (s' := r11) rfl ?_
              refine fu_lets (b := (fu_pi r11 P0 6 ((r11.1 P0 6) + (1 : Int32)))) (fu_putI rfl hP0.1 rfl rfl) (fun s12 => ?_)
              refine fu_go 1 (pc' := 94) (ls' := [.ref P0, .ref P1, .int a2, .int a3, .int a4]) (st' := [.int (1 : Int32)]) (s' := s12) rfl ?_
              exact fu_bret (b := true) rfl rfl
            · refine fu_go 1 (pc' := 96) (ls' := [.ref P0, .ref P1, .int a2, .int a3, .int a4]) (st' := [.int (0 : Int32)]) (s' := r6.2) rfl ?_
              exact fu_bret (b := false) rfl rfl
          · refine fu_go 1 (pc' := 96) (ls' := [.ref P0, .ref P1, .int a2, .int a3, .int a4]) (st' := [.int (0 : Int32)]) (s' := r6.2) rfl ?_
            exact fu_bret (b := false) rfl rfl
        · refine fu_go 2 (pc' := 51) (ls' := [.ref P0, .ref P1, .int a2, .int a3, .int a4]) (st' := [.ref P0, .ref P0]) (s' := r6.2) rfl ?_
          refine fu_step (fu_getI rfl hP0.1 rfl rfl) ?_
          refine fu_go 2 (pc' := 56) (ls' := [.ref P0, .ref P1, .int a2, .int a3, .int a4]) (st' := [.int ((r6.2.1 P0 5) + (1 : Int32)), .ref P0]) (s' := r6.2) rfl ?_
          refine fu_lets (b := (fu_pi r6.2 P0 5 ((r6.2.1 P0 5) + (1 : Int32)))) (fu_putI rfl hP0.1 rfl rfl) (fun s13 => ?_)
          refine fu_go 1 (pc' := 60) (ls' := [.ref P0, .ref P1, .int a2, .int a3, .int a4]) (st' := [.int (1 : Int32)]) (s' := s13) rfl ?_
          exact fu_bret (b := true) rfl rfl
      · refine fu_go 2 (pc' := 64) (ls' := [.ref P0, .ref P1, .int a2, .int a3, .int a4]) (st' := [.int (113 : Int32), .int a2]) (s' := s) rfl ?_
        refine fu_ite (fun h14 => fu_step (fu_ic_ne_t rfl h14) ?_) (fun h14 => fu_step (fu_ic_ne_f rfl h14) ?_)
        · refine fu_go 3 (pc' := 71) (ls' := [.ref P0, .ref P1, .int a2, .int a3, .int a4]) (st' := [.int a4, .int a3, .ref P1]) (s' := s) rfl ?_
          refine fu_bind (fu_cVJ rfl rfl rfl rfl rfl (fu_recv hP1.1 am_at_X4_canScratchNow rfl) (e_X4_canScratchNow d (by omega) s P1 hP1 a3 a4)) (fun r15 => ?_)
          show fu_J _ _ (fc_X d (some .boolean) k_X3_isDone 74 [.ref P0, .ref P1, .int a2, .int a3, .int a4] [.int (fu_b r15)] s)
          refine fu_ite (fun h16 => fu_step (fu_ib_eq_t rfl h16) ?_) (fun h16 => fu_step (fu_ib_eq_f rfl h16) ?_)
          · refine fu_go 2 (pc' := 80) (ls' := [.ref P0, .ref P1, .int a2, .int a3, .int a4]) (st' := [.int a4, .ref P1]) (s' := s) rfl ?_
            refine fu_bind (fu_cVJ rfl rfl rfl rfl rfl (fu_recv hP1.1 am_at_X4_endItch rfl) (e_X4_endItch d (by omega) s P1 hP1 a4)) (fun r17 => ?_)
            show fu_J _ _ (fc_X d (some .boolean) k_X3_isDone 83 [.ref P0, .ref P1, .int a2, .int a3, .int a4] [] r17)
            refine fu_go 2 (pc' := 85) (ls' := [.ref P0, .ref P1, .int a2, .int a3, .int a4]) (st' := [.ref P0, .ref P0]) (s' := r17) rfl ?_
            refine fu_step (fu_getI rfl hP0.1 rfl rfl) ?_
            refine fu_go 2 (pc' := 90) (ls' := [.ref P0, .ref P1, .int a2, .int a3, .int a4]) (st' := [.int ((r17.1 P0 6) + (1 : Int32)), .ref P0]) (s' := r17) rfl ?_
            refine fu_lets (b := (fu_pi r17 P0 6 ((r17.1 P0 6) + (1 : Int32)))) (fu_putI rfl hP0.1 rfl rfl) (fun s18 => ?_)
            refine fu_go 1 (pc' := 94) (ls' := [.ref P0, .ref P1, .int a2, .int a3, .int a4]) (st' := [.int (1 : Int32)]) (s' := s18) rfl ?_
            exact fu_bret (b := true) rfl rfl
          · refine fu_go 1 (pc' := 96) (ls' := [.ref P0, .ref P1, .int a2, .int a3, .int a4]) (st' := [.int (0 : Int32)]) (s' := s) rfl ?_
            exact fu_bret (b := false) rfl rfl
        · refine fu_go 1 (pc' := 96) (ls' := [.ref P0, .ref P1, .int a2, .int a3, .int a4]) (st' := [.int (0 : Int32)]) (s' := s) rfl ?_
          exact fu_bret (b := false) rfl rfl
  · refine fu_go 2 (pc' := 34) (ls' := [.ref P0, .ref P1, .int a2, .int a3, .int a4]) (st' := [.int (111 : Int32), .int a2]) (s' := s) rfl ?_
    refine fu_ite (fun h19 => fu_step (fu_ic_ne_t rfl h19) ?_) (fun h19 => fu_step (fu_ic_ne_f rfl h19) ?_)
    · refine fu_go 4 (pc' := 42) (ls' := [.ref P0, .ref P1, .int a2, .int a3, .int a4]) (st' := [.int (1 : Int32), .int a4, .int a3, .ref P1]) (s' := s) rfl ?_
      refine fu_bind (fu_cVJ rfl rfl rfl rfl rfl (fu_recv hP1.1 am_at_X4_addThing rfl) (e_X4_addThing d (by omega) s P1 hP1 a3 a4 (1 : Int32))) (fun r20 => ?_)
      show fu_J _ _ (fc_X d (some .boolean) k_X3_isDone 45 [.ref P0, .ref P1, .int a2, .int a3, .int a4] [.int r20.1] r20.2)
      refine fu_go 1 (pc' := 46) (ls' := [.ref P0, .ref P1, .int a2, .int a3, .int a4]) (st' := [.int (-1 : Int32), .int r20.1]) (s' := r20.2) rfl ?_
      refine fu_ite (fun h21 => fu_step (fu_ic_eq_t rfl h21) ?_) (fun h21 => fu_step (fu_ic_eq_f rfl h21) ?_)
      · refine fu_go 2 (pc' := 64) (ls' := [.ref P0, .ref P1, .int a2, .int a3, .int a4]) (st' := [.int (113 : Int32), .int a2]) (s' := r20.2) rfl ?_
        refine fu_ite (fun h22 => fu_step (fu_ic_ne_t rfl h22) ?_) (fun h22 => fu_step (fu_ic_ne_f rfl h22) ?_)
        · refine fu_go 3 (pc' := 71) (ls' := [.ref P0, .ref P1, .int a2, .int a3, .int a4]) (st' := [.int a4, .int a3, .ref P1]) (s' := r20.2) rfl ?_
          refine fu_bind (fu_cVJ rfl rfl rfl rfl rfl (fu_recv hP1.1 am_at_X4_canScratchNow rfl) (e_X4_canScratchNow d (by omega) r20.2 P1 hP1 a3 a4)) (fun r23 => ?_)
          show fu_J _ _ (fc_X d (some .boolean) k_X3_isDone 74 [.ref P0, .ref P1, .int a2, .int a3, .int a4] [.int (fu_b r23)] r20.2)
          refine fu_ite (fun h24 => fu_step (fu_ib_eq_t rfl h24) ?_) (fun h24 => fu_step (fu_ib_eq_f rfl h24) ?_)
          · refine fu_go 2 (pc' := 80) (ls' := [.ref P0, .ref P1, .int a2, .int a3, .int a4]) (st' := [.int a4, .ref P1]) (s' := r20.2) rfl ?_
            refine fu_bind (fu_cVJ rfl rfl rfl rfl rfl (fu_recv hP1.1 am_at_X4_endItch rfl) (e_X4_endItch d (by omega) r20.2 P1 hP1 a4)) (fun r25 => ?_)
            show fu_J _ _ (fc_X d (some .boolean) k_X3_isDone 83 [.ref P0, .ref P1, .int a2, .int a3, .int a4] [] r25)
            refine fu_go 2 (pc' := 85) (ls' := [.ref P0, .ref P1, .int a2, .int a3, .int a4]) (st' := [.ref P0, .ref P0]) (s' := r25) rfl ?_
            refine fu_step (fu_getI rfl hP0.1 rfl rfl) ?_
            refine fu_go 2 (pc' := 90) (ls' := [.ref P0, .ref P1, .int a2, .int a3, .int a4]) (st' := [.int ((r25.1 P0 6) + (1 : Int32)), .ref P0]) (s' := r25) rfl ?_
            refine fu_lets (b := (fu_pi r25 P0 6 ((r25.1 P0 6) + (1 : Int32)))) (fu_putI rfl hP0.1 rfl rfl) (fun s26 => ?_)
            refine fu_go 1 (pc' := 94) (ls' := [.ref P0, .ref P1, .int a2, .int a3, .int a4]) (st' := [.int (1 : Int32)]) (s' := s26) rfl ?_
            exact fu_bret (b := true) rfl rfl
          · refine fu_go 1 (pc' := 96) (ls' := [.ref P0, .ref P1, .int a2, .int a3, .int a4]) (st' := [.int (0 : Int32)]) (s' := r20.2) rfl ?_
            exact fu_bret (b := false) rfl rfl
        · refine fu_go 1 (pc' := 96) (ls' := [.ref P0, .ref P1, .int a2, .int a3, .int a4]) (st' := [.int (0 : Int32)]) (s' := r20.2) rfl ?_
          exact fu_bret (b := false) rfl rfl
      · refine fu_go 2 (pc' := 51) (ls' := [.ref P0, .ref P1, .int a2, .int a3, .int a4]) (st' := [.ref P0, .ref P0]) (s' := r20.2) rfl ?_
        refine fu_step (fu_getI rfl hP0.1 rfl rfl) ?_
        refine fu_go 2 (pc' := 56) (ls' := [.ref P0, .ref P1, .int a2, .int a3, .int a4]) (st' := [.int ((r20.2.1 P0 5) + (1 : Int32)), .ref P0]) (s' := r20.2) rfl ?_
        refine fu_lets (b := (fu_pi r20.2 P0 5 ((r20.2.1 P0 5) + (1 : Int32)))) (fu_putI rfl hP0.1 rfl rfl) (fun s27 => ?_)
        refine fu_go 1 (pc' := 60) (ls' := [.ref P0, .ref P1, .int a2, .int a3, .int a4]) (st' := [.int (1 : Int32)]) (s' := s27) rfl ?_
        exact fu_bret (b := true) rfl rfl
    · refine fu_go 2 (pc' := 64) (ls' := [.ref P0, .ref P1, .int a2, .int a3, .int a4]) (st' := [.int (113 : Int32), .int a2]) (s' := s) rfl ?_
      refine fu_ite (fun h28 => fu_step (fu_ic_ne_t rfl h28) ?_) (fun h28 => fu_step (fu_ic_ne_f rfl h28) ?_)
      · refine fu_go 3 (pc' := 71) (ls' := [.ref P0, .ref P1, .int a2, .int a3, .int a4]) (st' := [.int a4, .int a3, .ref P1]) (s' := s) rfl ?_
        refine fu_bind (fu_cVJ rfl rfl rfl rfl rfl (fu_recv hP1.1 am_at_X4_canScratchNow rfl) (e_X4_canScratchNow d (by omega) s P1 hP1 a3 a4)) (fun r29 => ?_)
        show fu_J _ _ (fc_X d (some .boolean) k_X3_isDone 74 [.ref P0, .ref P1, .int a2, .int a3, .int a4] [.int (fu_b r29)] s)
        refine fu_ite (fun h30 => fu_step (fu_ib_eq_t rfl h30) ?_) (fun h30 => fu_step (fu_ib_eq_f rfl h30) ?_)
        · refine fu_go 2 (pc' := 80) (ls' := [.ref P0, .ref P1, .int a2, .int a3, .int a4]) (st' := [.int a4, .ref P1]) (s' := s) rfl ?_
          refine fu_bind (fu_cVJ rfl rfl rfl rfl rfl (fu_recv hP1.1 am_at_X4_endItch rfl) (e_X4_endItch d (by omega) s P1 hP1 a4)) (fun r31 => ?_)
          show fu_J _ _ (fc_X d (some .boolean) k_X3_isDone 83 [.ref P0, .ref P1, .int a2, .int a3, .int a4] [] r31)
          refine fu_go 2 (pc' := 85) (ls' := [.ref P0, .ref P1, .int a2, .int a3, .int a4]) (st' := [.ref P0, .ref P0]) (s' := r31) rfl ?_
          refine fu_step (fu_getI rfl hP0.1 rfl rfl) ?_
          refine fu_go 2 (pc' := 90) (ls' := [.ref P0, .ref P1, .int a2, .int a3, .int a4]) (st' := [.int ((r31.1 P0 6) + (1 : Int32)), .ref P0]) (s' := r31) rfl ?_
          refine fu_lets (b := (fu_pi r31 P0 6 ((r31.1 P0 6) + (1 : Int32)))) (fu_putI rfl hP0.1 rfl rfl) (fun s32 => ?_)
          refine fu_go 1 (pc' := 94) (ls' := [.ref P0, .ref P1, .int a2, .int a3, .int a4]) (st' := [.int (1 : Int32)]) (s' := s32) rfl ?_
          exact fu_bret (b := true) rfl rfl
        · refine fu_go 1 (pc' := 96) (ls' := [.ref P0, .ref P1, .int a2, .int a3, .int a4]) (st' := [.int (0 : Int32)]) (s' := s) rfl ?_
          exact fu_bret (b := false) rfl rfl
      · refine fu_go 1 (pc' := 96) (ls' := [.ref P0, .ref P1, .int a2, .int a3, .int a4]) (st' := [.int (0 : Int32)]) (s' := s) rfl ?_
        exact fu_bret (b := false) rfl rfl
/-! X3_behindStep -/
set_option maxRecDepth 100000 in
theorem e_X3_behindStep (d : Nat) (hd : 6 ≤ d) (s : fu_S) (P0 : Nat) (hP0 : fc_is2 P0) (P1 : Nat) (hP1 : fc_is4 P1) (P2 : Nat) (hP2 : fc_is3 P2) (a3 : Int32) : fu_J (f_X3_behindStep s P0 P1 P2 a3) (fun r => some (some (.int r.1), r.2)) (am_D (fu_ho fc_sh) am_m d 36 [.ref P0, .ref P1, .ref P2, .int a3] s) := by
  obtain ⟨d, rfl⟩ : ∃ e, d = e + 1 := ⟨d - 1, by omega⟩
  refine fu_enter (ls := [.ref P0, .ref P1, .ref P2, .int a3, am_U, am_U, am_U]) am_at_X3_behindStep rfl rfl ?_
  show fu_J _ _ (fc_X d (some .int) k_X3_behindStep 0 [.ref P0, .ref P1, .ref P2, .int a3, am_U, am_U, am_U] [] s)
  unfold f_X3_behindStep
  refine fu_go 2 (pc' := 2) (ls' := [.ref P0, .ref P1, .ref P2, .int a3, am_U, am_U, am_U]) (st' := [.int a3, .ref P1]) (s' := s) rfl ?_
  refine fu_bind (fu_cVJ rfl rfl rfl rfl rfl (fu_recv hP1.1 am_at_X5_deedAt rfl) (e_X5_deedAt d (by omega) s P1 hP1 a3)) (fun r1 => ?_)
  show fu_J _ _ (fc_X d (some .int) k_X3_behindStep 5 [.ref P0, .ref P1, .ref P2, .int a3, am_U, am_U, am_U] [.int r1] s)
  refine fu_go 3 (pc' := 9) (ls' := [.ref P0, .ref P1, .ref P2, .int a3, .int r1, am_U, am_U]) (st' := [.int a3, .ref P1]) (s' := s) rfl ?_
  refine fu_bind (fu_cVJ rfl rfl rfl rfl rfl (fu_recv hP1.1 am_at_X5_firstAt rfl) (e_X5_firstAt d (by omega) s P1 hP1 a3)) (fun r2 => ?_)
  show fu_J _ _ (fc_X d (some .int) k_X3_behindStep 12 [.ref P0, .ref P1, .ref P2, .int a3, .int r1, am_U, am_U] [.int r2] s)
  refine fu_go 3 (pc' := 16) (ls' := [.ref P0, .ref P1, .ref P2, .int a3, .int r1, .int r2, am_U]) (st' := [.int a3, .ref P1]) (s' := s) rfl ?_
  refine fu_bind (fu_cVJ rfl rfl rfl rfl rfl (fu_recv hP1.1 am_at_X5_secondAt rfl) (e_X5_secondAt d (by omega) s P1 hP1 a3)) (fun r3 => ?_)
  show fu_J _ _ (fc_X d (some .int) k_X3_behindStep 19 [.ref P0, .ref P1, .ref P2, .int a3, .int r1, .int r2, am_U] [.int r3] s)
  refine fu_go 3 (pc' := 25) (ls' := [.ref P0, .ref P1, .ref P2, .int a3, .int r1, .int r2, .int r3]) (st' := [.int (114 : Int32), .int r1]) (s' := s) rfl ?_
  refine fu_bind (V := fun j4 : Int32 × Int32 × Int32 × fu_S => fc_X d (some .int) k_X3_behindStep 99 [.ref P0, .ref P1, .ref P2, .int a3, .int j4.1, .int j4.2.1, .int j4.2.2.1] [] j4.2.2.2) ?_ (fun j4 => ?_)
  · refine fu_ite (fun h5 => fu_step (fu_ic_ne_t rfl h5) ?_) (fun h5 => fu_step (fu_ic_ne_f rfl h5) ?_)
    · refine fu_go 1 (pc' := 29) (ls' := [.ref P0, .ref P1, .ref P2, .int a3, .int r1, .int r2, .int r3]) (st' := [.ref P2]) (s' := s) rfl ?_
      refine fu_step (fu_cV rfl rfl rfl rfl rfl (fu_recv hP2.1 am_at_X4_people rfl) (fu_eq (e_X4_people d (by omega) s P2 hP2) rfl)) ?_
      show fu_J _ _ (fc_X d (some .int) k_X3_behindStep 32 [.ref P0, .ref P1, .ref P2, .int a3, .int r1, .int r2, .int r3] [.int (f_X4_people s P2)] s)
      refine fu_ite (fun h6 => fu_step (fu_if_le_t rfl h6) ?_) (fun h6 => fu_step (fu_if_le_f rfl h6) ?_)
      · exact fu_leaf rfl ⟨.inr rfl, .inr rfl, .inr rfl, .inr rfl, .inr rfl, .inr rfl, .inr rfl, trivial⟩
      · refine fu_go 1 (pc' := 36) (ls' := [.ref P0, .ref P1, .ref P2, .int a3, .int r1, .int r2, .int r3]) (st' := [.ref P2]) (s' := s) rfl ?_
        refine fu_step (fu_cV rfl rfl rfl rfl rfl (fu_recv hP2.1 am_at_X4_things rfl) (fu_eq (e_X4_things d (by omega) s P2 hP2) rfl)) ?_
        show fu_J _ _ (fc_X d (some .int) k_X3_behindStep 39 [.ref P0, .ref P1, .ref P2, .int a3, .int r1, .int r2, .int r3] [.int (f_X4_things s P2)] s)
        refine fu_ite (fun h7 => fu_step (fu_if_le_t rfl h7) ?_) (fun h7 => fu_step (fu_if_le_f rfl h7) ?_)
        · exact fu_leaf rfl ⟨.inr rfl, .inr rfl, .inr rfl, .inr rfl, .inr rfl, .inr rfl, .inr rfl, trivial⟩
        · refine fu_go 2 (pc' := 44) (ls' := [.ref P0, .ref P1, .ref P2, .int a3, .int r1, .int r2, .int r3]) (st' := [.ref P2, .ref P0]) (s' := s) rfl ?_
          refine fu_step (fu_cV rfl rfl rfl rfl rfl (fu_recv hP2.1 am_at_X4_people rfl) (fu_eq (e_X4_people d (by omega) s P2 hP2) rfl)) ?_
          show fu_J _ _ (fc_X d (some .int) k_X3_behindStep 47 [.ref P0, .ref P1, .ref P2, .int a3, .int r1, .int r2, .int r3] [.int (f_X4_people s P2), .ref P0] s)
          refine fu_bind (fu_cVJ rfl rfl rfl rfl rfl (fu_recv hP0.1 am_at_X3_draw rfl) (e_X3_draw d (by omega) s P0 hP0 (f_X4_people s P2))) (fun r8 => ?_)
          show fu_J _ _ (fc_X d (some .int) k_X3_behindStep 50 [.ref P0, .ref P1, .ref P2, .int a3, .int r1, .int r2, .int r3] [.int r8.1] r8.2)
          refine fu_go 3 (pc' := 54) (ls' := [.ref P0, .ref P1, .ref P2, .int a3, .int r1, .int r8.1, .int r3]) (st' := [.ref P2, .ref P0]) (s' := r8.2) rfl ?_
          refine fu_step (fu_cV rfl rfl rfl rfl rfl (fu_recv hP2.1 am_at_X4_things rfl) (fu_eq (e_X4_things d (by omega) r8.2 P2 hP2) rfl)) ?_
          show fu_J _ _ (fc_X d (some .int) k_X3_behindStep 57 [.ref P0, .ref P1, .ref P2, .int a3, .int r1, .int r8.1, .int r3] [.int (f_X4_things r8.2 P2), .ref P0] r8.2)
          refine fu_bind (fu_cVJ rfl rfl rfl rfl rfl (fu_recv hP0.1 am_at_X3_draw rfl) (e_X3_draw d (by omega) r8.2 P0 hP0 (f_X4_things r8.2 P2))) (fun r9 => ?_)
          show fu_J _ _ (fc_X d (some .int) k_X3_behindStep 60 [.ref P0, .ref P1, .ref P2, .int a3, .int r1, .int r8.1, .int r3] [.int r9.1] r9.2)
          refine fu_go 3 (pc' := 65) (ls' := [.ref P0, .ref P1, .ref P2, .int a3, .int r1, .int r8.1, .int r9.1]) (st' := [.int (16 : Int32), .ref P0]) (s' := r9.2) rfl ?_
          refine fu_bind (fu_cVJ rfl rfl rfl rfl rfl (fu_recv hP0.1 am_at_X3_draw rfl) (e_X3_draw d (by omega) r9.2 P0 hP0 (16 : Int32))) (fun r10 => ?_)
          show fu_J _ _ (fc_X d (some .int) k_X3_behindStep 68 [.ref P0, .ref P1, .ref P2, .int a3, .int r1, .int r8.1, .int r9.1] [.int r10.1] r10.2)
          refine fu_go 1 (pc' := 69) (ls' := [.ref P0, .ref P1, .ref P2, .int a3, .int r1, .int r8.1, .int r9.1]) (st' := [.ref P2, .int r10.1]) (s' := r10.2) rfl ?_
          refine fu_step (fu_cV rfl rfl rfl rfl rfl (fu_recv hP2.1 am_at_X4_odds rfl) (fu_eq (e_X4_odds d (by omega) r10.2 P2 hP2) rfl)) ?_
          show fu_J _ _ (fc_X d (some .int) k_X3_behindStep 72 [.ref P0, .ref P1, .ref P2, .int a3, .int r1, .int r8.1, .int r9.1] [.int (f_X4_odds r10.2 P2), .int r10.1] r10.2)
          refine fu_bind (V := fun j11 : Int32 => fc_X d (some .int) k_X3_behindStep 82 [.ref P0, .ref P1, .ref P2, .int a3, am_U, .int r8.1, .int r9.1] [.int j11] r10.2) ?_ (fun j11 => ?_)
          · refine fu_ite (fun h12 => fu_step (fu_ic_ge_t rfl h12) ?_) (fun h12 => fu_step (fu_ic_ge_f rfl h12) ?_)
            · refine fu_go 2 (pc' := 82) (ls' := [.ref P0, .ref P1, .ref P2, .int a3, .int r1, .int r8.1, .int r9.1]) (st' := [.int (113 : Int32)]) (s' := r10.2) rfl ?_
              exact fu_leaf rfl ⟨.inr rfl, .inr rfl, .inr rfl, .inr rfl, .inl rfl, .inr rfl, .inr rfl, trivial⟩
            · refine fu_go 1 (pc' := 82) (ls' := [.ref P0, .ref P1, .ref P2, .int a3, .int r1, .int r8.1, .int r9.1]) (st' := [.int (112 : Int32)]) (s' := r10.2) rfl ?_
              exact fu_leaf rfl ⟨.inr rfl, .inr rfl, .inr rfl, .inr rfl, .inl rfl, .inr rfl, .inr rfl, trivial⟩
          show fu_J _ _ (fc_X d (some .int) k_X3_behindStep 82 [.ref P0, .ref P1, .ref P2, .int a3, am_U, .int r8.1, .int r9.1] [.int j11] r10.2)
          refine fu_go 3 (pc' := 88) (ls' := [.ref P0, .ref P1, .ref P2, .int a3, .int j11, .int r8.1, .int r9.1]) (st' := [.int (112 : Int32), .int j11]) (s' := r10.2) rfl ?_
          refine fu_bind (V := fun j13 : Int32 => fc_X d (some .int) k_X3_behindStep 97 [.ref P0, .ref P1, .ref P2, .int a3, .int j11, am_U, .int r9.1] [.int j13] r10.2) ?_ (fun j13 => ?_)
          · refine fu_ite (fun h14 => fu_step (fu_ic_ne_t rfl h14) ?_) (fun h14 => fu_step (fu_ic_ne_f rfl h14) ?_)
            · refine fu_go 2 (pc' := 97) (ls' := [.ref P0, .ref P1, .ref P2, .int a3, .int j11, .int r8.1, .int r9.1]) (st' := [.int (1 : Int32)]) (s' := r10.2) rfl ?_
              exact fu_leaf rfl ⟨.inr rfl, .inr rfl, .inr rfl, .inr rfl, .inr rfl, .inl rfl, .inr rfl, trivial⟩
            · refine fu_go 1 (pc' := 97) (ls' := [.ref P0, .ref P1, .ref P2, .int a3, .int j11, .int r8.1, .int r9.1]) (st' := [.int r8.1]) (s' := r10.2) rfl ?_
              exact fu_leaf rfl ⟨.inr rfl, .inr rfl, .inr rfl, .inr rfl, .inr rfl, .inl rfl, .inr rfl, trivial⟩
          show fu_J _ _ (fc_X d (some .int) k_X3_behindStep 97 [.ref P0, .ref P1, .ref P2, .int a3, .int j11, am_U, .int r9.1] [.int j13] r10.2)
          refine fu_go 1 (pc' := 99) (ls' := [.ref P0, .ref P1, .ref P2, .int a3, .int j11, .int j13, .int r9.1]) (st' := []) (s' := r10.2) rfl ?_
          exact fu_leaf rfl ⟨.inr rfl, .inr rfl, .inr rfl, .inr rfl, .inr rfl, .inr rfl, .inr rfl, trivial⟩
    · exact fu_leaf rfl ⟨.inr rfl, .inr rfl, .inr rfl, .inr rfl, .inr rfl, .inr rfl, .inr rfl, trivial⟩
  show fu_J _ _ (fc_X d (some .int) k_X3_behindStep 99 [.ref P0, .ref P1, .ref P2, .int a3, .int j4.1, .int j4.2.1, .int j4.2.2.1] [] j4.2.2.2)
  refine fu_go 2 (pc' := 103) (ls' := [.ref P0, .ref P1, .ref P2, .int a3, .int j4.1, .int j4.2.1, .int j4.2.2.1]) (st' := [.int (115 : Int32), .int j4.1]) (s' := j4.2.2.2) rfl ?_
  refine fu_ite (fun h15 => fu_step (fu_ic_ne_t rfl h15) ?_) (fun h15 => fu_step (fu_ic_ne_f rfl h15) ?_)
  · refine fu_go 4 (pc' := 112) (ls' := [.ref P0, .ref P1, .ref P2, .int a3, .int j4.1, .int j4.2.1, .int j4.2.2.1]) (st' := [.int j4.2.2.1, .int j4.2.1, .ref P2, .ref P0]) (s' := j4.2.2.2) rfl ?_
    refine fu_bind (fu_cVJ rfl rfl rfl rfl rfl (fu_recv hP0.1 am_at_X3_holds rfl) (e_X3_holds d (by omega) j4.2.2.2 P0 hP0 P2 hP2 j4.2.1 j4.2.2.1)) (fun r16 => ?_)
    show fu_J _ _ (fc_X d (some .int) k_X3_behindStep 115 [.ref P0, .ref P1, .ref P2, .int a3, .int j4.1, .int j4.2.1, .int j4.2.2.1] [.int (fu_b r16)] j4.2.2.2)
    refine fu_bind (V := fun j17 : Int32 => fc_X d (some .int) k_X3_behindStep 131 [am_U, am_U, am_U, am_U, am_U, am_U, am_U] [.int j17] j4.2.2.2) ?_ (fun j17 => ?_)
    · refine fu_ite (fun h18 => fu_step (fu_ib_eq_t rfl h18) ?_) (fun h18 => fu_step (fu_ib_eq_f rfl h18) ?_)
      · refine fu_go 4 (pc' := 131) (ls' := [.ref P0, .ref P1, .ref P2, .int a3, .int j4.1, .int j4.2.1, .int j4.2.2.1]) (st' := [.int (a3 + (1 : Int32))]) (s' := j4.2.2.2) rfl ?_
        exact fu_leaf rfl ⟨.inl rfl, .inl rfl, .inl rfl, .inl rfl, .inl rfl, .inl rfl, .inl rfl, trivial⟩
      · refine fu_go 2 (pc' := 126) (ls' := [.ref P0, .ref P1, .ref P2, .int a3, .int j4.1, .int j4.2.1, .int j4.2.2.1]) (st' := [.int a3, .ref P1]) (s' := j4.2.2.2) rfl ?_
        refine fu_bind (fu_cVJ rfl rfl rfl rfl rfl (fu_recv hP1.1 am_at_X5_mateAt rfl) (e_X5_mateAt d (by omega) j4.2.2.2 P1 hP1 a3)) (fun r19 => ?_)
        show fu_J _ _ (fc_X d (some .int) k_X3_behindStep 129 [.ref P0, .ref P1, .ref P2, .int a3, .int j4.1, .int j4.2.1, .int j4.2.2.1] [.int r19] j4.2.2.2)
        refine fu_go 2 (pc' := 131) (ls' := [.ref P0, .ref P1, .ref P2, .int a3, .int j4.1, .int j4.2.1, .int j4.2.2.1]) (st' := [.int (r19 + (1 : Int32))]) (s' := j4.2.2.2) rfl ?_
        exact fu_leaf rfl ⟨.inl rfl, .inl rfl, .inl rfl, .inl rfl, .inl rfl, .inl rfl, .inl rfl, trivial⟩
    show fu_J _ _ (fc_X d (some .int) k_X3_behindStep 131 [am_U, am_U, am_U, am_U, am_U, am_U, am_U] [.int j17] j4.2.2.2)
    exact fu_iret rfl rfl
  · refine fu_go 2 (pc' := 136) (ls' := [.ref P0, .ref P1, .ref P2, .int a3, .int j4.1, .int j4.2.1, .int j4.2.2.1]) (st' := [.int (119 : Int32), .int j4.1]) (s' := j4.2.2.2) rfl ?_
    refine fu_ite (fun h20 => fu_step (fu_ic_ne_t rfl h20) ?_) (fun h20 => fu_step (fu_ic_ne_f rfl h20) ?_)
    · refine fu_go 4 (pc' := 144) (ls' := [.ref P0, .ref P1, .ref P2, .int a3, .int j4.1, .int j4.2.1, .int j4.2.2.1]) (st' := [.int j4.2.1, .int a3, .ref P1, .ref P0]) (s' := j4.2.2.2) rfl ?_
      refine fu_bind (fu_cVJ rfl rfl rfl rfl rfl (fu_recv hP0.1 am_at_X3_intoLoop rfl) (e_X3_intoLoop d (by omega) j4.2.2.2 P0 hP0 P1 hP1 a3 j4.2.1)) (fun r21 => ?_)
      show fu_J _ _ (fc_X d (some .int) k_X3_behindStep 147 [.ref P0, .ref P1, .ref P2, .int a3, .int j4.1, .int j4.2.1, .int j4.2.2.1] [.int r21.1] r21.2)
      exact fu_iret rfl rfl
    · refine fu_go 2 (pc' := 150) (ls' := [.ref P0, .ref P1, .ref P2, .int a3, .int j4.1, .int j4.2.1, .int j4.2.2.1]) (st' := [.ref P0, .ref P0]) (s' := j4.2.2.2) rfl ?_
      refine fu_step (fu_getI rfl hP0.1 rfl rfl) ?_
      refine fu_go 5 (pc' := 161) (ls' := [.ref P0, .ref P1, .ref P2, .int a3, .int j4.1, .int j4.2.1, .int j4.2.2.1]) (st' := [.int j4.2.2.1, .int j4.2.1, .int j4.1, .ref P2, .ref P0, .int (j4.2.2.2.1 P0 3), .ref P0]) (s' := j4.2.2.2) rfl ?_
      refine fu_bind (fu_cVJ rfl rfl rfl rfl rfl (fu_recv hP0.1 am_at_X3_isDone rfl) (e_X3_isDone d (by omega) j4.2.2.2 P0 hP0 P2 hP2 j4.1 j4.2.1 j4.2.2.1)) (fun r22 => ?_)
      show fu_J _ _ (fc_X d (some .int) k_X3_behindStep 164 [.ref P0, .ref P1, .ref P2, .int a3, .int j4.1, .int j4.2.1, .int j4.2.2.1] [.int (fu_b r22.1), .int (j4.2.2.2.1 P0 3), .ref P0] r22.2)
      refine fu_bind (V := fun j23 : Bool => fc_X d (some .int) k_X3_behindStep 172 [am_U, am_U, am_U, .int a3, am_U, am_U, am_U] [.int (fu_b j23), .int (j4.2.2.2.1 P0 3), .ref P0] r22.2) ?_ (fun j23 => ?_)
      · refine fu_ite (fun h24 => fu_step (fu_ib_eq_t rfl h24) ?_) (fun h24 => fu_step (fu_ib_eq_f rfl h24) ?_)
        · refine fu_go 2 (pc' := 172) (ls' := [.ref P0, .ref P1, .ref P2, .int a3, .int j4.1, .int j4.2.1, .int j4.2.2.1]) (st' := [.int (0 : Int32), .int (j4.2.2.2.1 P0 3), .ref P0]) (s' := r22.2) rfl ?_
          exact fu_leaf rfl ⟨.inl rfl, .inl rfl, .inl rfl, .inr rfl, .inl rfl, .inl rfl, .inl rfl, trivial⟩
        · refine fu_go 1 (pc' := 172) (ls' := [.ref P0, .ref P1, .ref P2, .int a3, .int j4.1, .int j4.2.1, .int j4.2.2.1]) (st' := [.int (1 : Int32), .int (j4.2.2.2.1 P0 3), .ref P0]) (s' := r22.2) rfl ?_
          exact fu_leaf rfl ⟨.inl rfl, .inl rfl, .inl rfl, .inr rfl, .inl rfl, .inl rfl, .inl rfl, trivial⟩
      show fu_J _ _ (fc_X d (some .int) k_X3_behindStep 172 [am_U, am_U, am_U, .int a3, am_U, am_U, am_U] [.int (fu_b j23), .int (j4.2.2.2.1 P0 3), .ref P0] r22.2)
      refine fu_go 1 (pc' := 173) (ls' := [am_U, am_U, am_U, .int a3, am_U, am_U, am_U]) (st' := [.int ((j4.2.2.2.1 P0 3) + (fu_b j23)), .ref P0]) (s' := r22.2) rfl ?_
      refine fu_lets (b := (fu_pi r22.2 P0 3 ((j4.2.2.2.1 P0 3) + (fu_b j23)))) (fu_putI rfl hP0.1 rfl rfl) (fun s25 => ?_)
      refine fu_go 3 (pc' := 179) (ls' := [am_U, am_U, am_U, .int a3, am_U, am_U, am_U]) (st' := [.int (a3 + (1 : Int32))]) (s' := s25) rfl ?_
      exact fu_iret rfl rfl
