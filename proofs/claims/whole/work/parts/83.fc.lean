/-! printed by wip/whole/lift/lift.py: the small machine comes to what the functions answer -/
/-! X11_way -/
set_option maxRecDepth 100000 in
theorem e_X11_way (d : Nat) (hd : 4 ≤ d) (s : fu_S) (a1 : Int32) (a2 : Int32) (a3 : Int32) : fu_J (f_X11_way s a1 a2 a3) (fun r => some (some (.int r.1), r.2)) (am_D (fu_ho fc_sh) am_m d 219 [.ref 0, .int a1, .int a2, .int a3] s) := by
  obtain ⟨d, rfl⟩ : ∃ e, d = e + 1 := ⟨d - 1, by omega⟩
  refine fu_enter (ls := [.ref 0, .int a1, .int a2, .int a3, am_U]) am_at_X11_way rfl rfl ?_
  show fu_J _ _ (fc_X d (some .int) k_X11_way 0 [.ref 0, .int a1, .int a2, .int a3, am_U] [] s)
  unfold f_X11_way
  refine fu_go 4 (pc' := 4) (ls' := [.ref 0, .int a1, .int a2, .int a3, am_U]) (st' := [.int a2, .int a1, .ref 0, .ref 0]) (s' := s) rfl ?_
  refine fu_step (fu_cV rfl rfl rfl rfl rfl (fu_recv fc_0 am_at_X11_coupleStatus rfl) (fu_eq (e_X11_coupleStatus d (by omega) s a1 a2) rfl)) ?_
  show fu_J _ _ (fc_X d (some .int) k_X11_way 7 [.ref 0, .int a1, .int a2, .int a3, am_U] [.int (f_X11_coupleStatus s a1 a2), .ref 0] s)
  refine fu_lets (b := (fu_pi s 0 15 (f_X11_coupleStatus s a1 a2))) (fu_putI rfl fc_0 rfl rfl) (fun s1 => ?_)
  refine fu_go 1 (pc' := 11) (ls' := [.ref 0, .int a1, .int a2, .int a3, am_U]) (st' := [.ref 0]) (s' := s1) rfl ?_
  refine fu_step (fu_getI rfl fc_0 rfl rfl) ?_
  refine fu_ite (fun h2 => fu_step (fu_if_eq_t rfl h2) ?_) (fun h2 => fu_step (fu_if_eq_f rfl h2) ?_)
  · refine fu_go 1 (pc' := 20) (ls' := [.ref 0, .int a1, .int a2, .int a3, am_U]) (st' := [.ref 0]) (s' := s1) rfl ?_
    refine fu_step (fu_getR rfl fc_0 rfl rfl) ?_
    refine fu_go 1 (pc' := 24) (ls' := [.ref 0, .int a1, .int a2, .int a3, am_U]) (st' := [.ref 0, .ref 114]) (s' := s1) rfl ?_
    refine fu_step (fu_getR rfl fc_0 rfl rfl) ?_
    refine fu_bind (fu_cVJ rfl rfl rfl rfl rfl (fu_recv fc_114 am_at_X0_drawKinds rfl) (e_X0_drawKinds d (by omega) s1 11 fc_is3_11)) (fun r3 => ?_)
    show fu_J _ _ (fc_X d (some .int) k_X11_way 30 [.ref 0, .int a1, .int a2, .int a3, am_U] [] r3)
    refine fu_go 1 (pc' := 31) (ls' := [.ref 0, .int a1, .int a2, .int a3, am_U]) (st' := [.ref 0]) (s' := r3) rfl ?_
    refine fu_step (fu_getR rfl fc_0 rfl rfl) ?_
    refine fu_go 1 (pc' := 35) (ls' := [.ref 0, .int a1, .int a2, .int a3, am_U]) (st' := [.int a2, .ref 114]) (s' := r3) rfl ?_
    refine fu_bind (fu_cVJ rfl rfl rfl rfl rfl (fu_recv fc_114 am_at_X0_measureTo rfl) (e_X0_measureTo d (by omega) r3 a2)) (fun r4 => ?_)
    show fu_J _ _ (fc_X d (some .int) k_X11_way 38 [.ref 0, .int a1, .int a2, .int a3, am_U] [] r4)
    refine fu_go 1 (pc' := 39) (ls' := [.ref 0, .int a1, .int a2, .int a3, am_U]) (st' := [.ref 0]) (s' := r4) rfl ?_
    refine fu_step (fu_getR rfl fc_0 rfl rfl) ?_
    refine fu_go 2 (pc' := 44) (ls' := [.ref 0, .int a1, .int a2, .int a3, am_U]) (st' := [.int a3, .int a1, .ref 114]) (s' := r4) rfl ?_
    refine fu_bind (fu_cVJ rfl rfl rfl rfl rfl (fu_recv fc_114 am_at_X0_passedBy rfl) (e_X0_passedBy d (by omega) r4 a1 a3)) (fun r5 => ?_)
    show fu_J _ _ (fc_X d (some .int) k_X11_way 47 [.ref 0, .int a1, .int a2, .int a3, am_U] [.int r5] r4)
    refine fu_go 4 (pc' := 53) (ls' := [.ref 0, .int a1, .int a2, .int a3, .int r5]) (st' := [.int (-1 : Int32), .int r5, .ref 0]) (s' := r4) rfl ?_
    refine fu_bind (V := fun j6 : Int32 => fc_X d (some .int) k_X11_way 62 [am_U, am_U, am_U, am_U, .int r5] [.int j6, .ref 0] r4) ?_ (fun j6 => ?_)
    · refine fu_ite (fun h7 => fu_step (fu_ic_ne_t rfl h7) ?_) (fun h7 => fu_step (fu_ic_ne_f rfl h7) ?_)
      · refine fu_go 2 (pc' := 62) (ls' := [.ref 0, .int a1, .int a2, .int a3, .int r5]) (st' := [.int (8 : Int32), .ref 0]) (s' := r4) rfl ?_
        exact fu_leaf rfl ⟨.inl rfl, .inl rfl, .inl rfl, .inl rfl, .inr rfl, trivial⟩
      · refine fu_go 1 (pc' := 62) (ls' := [.ref 0, .int a1, .int a2, .int a3, .int r5]) (st' := [.int (0 : Int32), .ref 0]) (s' := r4) rfl ?_
        exact fu_leaf rfl ⟨.inl rfl, .inl rfl, .inl rfl, .inl rfl, .inr rfl, trivial⟩
    show fu_J _ _ (fc_X d (some .int) k_X11_way 62 [am_U, am_U, am_U, am_U, .int r5] [.int j6, .ref 0] r4)
    refine fu_lets (b := (fu_pi r4 0 15 j6)) (fu_putI rfl fc_0 rfl rfl) (fun s8 => ?_)
    refine fu_go 1 (pc' := 67) (ls' := [am_U, am_U, am_U, am_U, .int r5]) (st' := [.int r5]) (s' := s8) rfl ?_
    exact fu_iret rfl rfl
  · refine fu_go 1 (pc' := 18) (ls' := [.ref 0, .int a1, .int a2, .int a3, am_U]) (st' := [.int (-1 : Int32)]) (s' := s1) rfl ?_
    exact fu_iret rfl rfl
/-! X11_signs -/
set_option maxRecDepth 100000 in
theorem e_X11_signs (d : Nat) (hd : 4 ≤ d) (s : fu_S) (a1 : Int32) (a2 : Int32) : fu_J (f_X11_signs s a1 a2) (fun r => some (some (.int r.1), r.2)) (am_D (fu_ho fc_sh) am_m d 220 [.ref 0, .int a1, .int a2] s) := by
  obtain ⟨d, rfl⟩ : ∃ e, d = e + 1 := ⟨d - 1, by omega⟩
  refine fu_enter (ls := [.ref 0, .int a1, .int a2]) am_at_X11_signs rfl rfl ?_
  show fu_J _ _ (fc_X d (some .int) k_X11_signs 0 [.ref 0, .int a1, .int a2] [] s)
  unfold f_X11_signs
  refine fu_go 4 (pc' := 4) (ls' := [.ref 0, .int a1, .int a2]) (st' := [.int a2, .int a1, .ref 0, .ref 0]) (s' := s) rfl ?_
  refine fu_step (fu_cV rfl rfl rfl rfl rfl (fu_recv fc_0 am_at_X11_coupleStatus rfl) (fu_eq (e_X11_coupleStatus d (by omega) s a1 a2) rfl)) ?_
  show fu_J _ _ (fc_X d (some .int) k_X11_signs 7 [.ref 0, .int a1, .int a2] [.int (f_X11_coupleStatus s a1 a2), .ref 0] s)
  refine fu_lets (b := (fu_pi s 0 15 (f_X11_coupleStatus s a1 a2))) (fu_putI rfl fc_0 rfl rfl) (fun s1 => ?_)
  refine fu_go 1 (pc' := 11) (ls' := [.ref 0, .int a1, .int a2]) (st' := [.ref 0]) (s' := s1) rfl ?_
  refine fu_step (fu_getI rfl fc_0 rfl rfl) ?_
  refine fu_bind (V := fun j2 : Int32 => fc_X d (some .int) k_X11_signs 33 [am_U, am_U, am_U] [.int j2] s1) ?_ (fun j2 => ?_)
  · refine fu_ite (fun h3 => fu_step (fu_if_ne_t rfl h3) ?_) (fun h3 => fu_step (fu_if_ne_f rfl h3) ?_)
    · refine fu_go 1 (pc' := 18) (ls' := [.ref 0, .int a1, .int a2]) (st' := [.ref 0]) (s' := s1) rfl ?_
      refine fu_step (fu_getR rfl fc_0 rfl rfl) ?_
      refine fu_go 2 (pc' := 23) (ls' := [.ref 0, .int a1, .int a2]) (st' := [.int a2, .int a1, .ref 11]) (s' := s1) rfl ?_
      refine fu_bind (fu_cSJ rfl rfl rfl rfl rfl rfl (e_X1_spotSet d (by omega) s1 11 fc_is3_11 a1 a2)) (fun r4 => ?_)
      show fu_J _ _ (fc_X d (some .int) k_X11_signs 26 [.ref 0, .int a1, .int a2] [.int r4] s1)
      refine fu_step (fu_cS rfl rfl rfl rfl rfl rfl (fu_eq (e_J6_bitCount_0f7a4 d (by omega) s1 r4) rfl)) ?_
      show fu_J _ _ (fc_X d (some .int) k_X11_signs 29 [.ref 0, .int a1, .int a2] [.int (f_J6_bitCount_0f7a4 r4)] s1)
      refine fu_go 1 (pc' := 33) (ls' := [.ref 0, .int a1, .int a2]) (st' := [.int (f_J6_bitCount_0f7a4 r4)]) (s' := s1) rfl ?_
      exact fu_leaf rfl ⟨.inl rfl, .inl rfl, .inl rfl, trivial⟩
    · refine fu_go 1 (pc' := 33) (ls' := [.ref 0, .int a1, .int a2]) (st' := [.int (-1 : Int32)]) (s' := s1) rfl ?_
      exact fu_leaf rfl ⟨.inl rfl, .inl rfl, .inl rfl, trivial⟩
  show fu_J _ _ (fc_X d (some .int) k_X11_signs 33 [am_U, am_U, am_U] [.int j2] s1)
  exact fu_iret rfl rfl
/-! X11_walk -/
set_option maxRecDepth 100000 in
theorem e_X11_walk (d : Nat) (hd : 4 ≤ d) (s : fu_S) (a1 : Int32) (a2 : Int32) : fu_J (f_X11_walk s a1 a2) (fun r => some (some (.int r.1), r.2)) (am_D (fu_ho fc_sh) am_m d 221 [.ref 0, .int a1, .int a2] s) := by
  obtain ⟨d, rfl⟩ : ∃ e, d = e + 1 := ⟨d - 1, by omega⟩
  refine fu_enter (ls := [.ref 0, .int a1, .int a2]) am_at_X11_walk rfl rfl ?_
  show fu_J _ _ (fc_X d (some .int) k_X11_walk 0 [.ref 0, .int a1, .int a2] [] s)
  unfold f_X11_walk
  refine fu_go 2 (pc' := 2) (ls' := [.ref 0, .int a1, .int a2]) (st' := [.ref 0, .ref 0]) (s' := s) rfl ?_
  refine fu_step (fu_getR rfl fc_0 rfl rfl) ?_
  refine fu_go 1 (pc' := 6) (ls' := [.ref 0, .int a1, .int a2]) (st' := [.int a1, .ref 11, .ref 0]) (s' := s) rfl ?_
  refine fu_step (fu_cV rfl rfl rfl rfl rfl (fu_recv fc_11 am_at_X4_isHome rfl) (fu_eq (e_X4_isHome d (by omega) s 11 fc_is3_11 a1) rfl)) ?_
  show fu_J _ _ (fc_X d (some .int) k_X11_walk 9 [.ref 0, .int a1, .int a2] [.int (fu_b (f_X4_isHome 11 a1)), .ref 0] s)
  refine fu_bind (V := fun j1 : Int32 => fc_X d (some .int) k_X11_walk 28 [.ref 0, .int a1, .int a2] [.int j1, .ref 0] s) ?_ (fun j1 => ?_)
  · refine fu_ite (fun h2 => fu_step (fu_ib_eq_t rfl h2) ?_) (fun h2 => fu_step (fu_ib_eq_f rfl h2) ?_)
    · refine fu_go 1 (pc' := 13) (ls' := [.ref 0, .int a1, .int a2]) (st' := [.ref 0, .ref 0]) (s' := s) rfl ?_
      refine fu_step (fu_getR rfl fc_0 rfl rfl) ?_
      refine fu_go 1 (pc' := 17) (ls' := [.ref 0, .int a1, .int a2]) (st' := [.int a2, .ref 11, .ref 0]) (s' := s) rfl ?_
      refine fu_step (fu_cV rfl rfl rfl rfl rfl (fu_recv fc_11 am_at_X4_isThingSet rfl) (fu_eq (e_X4_isThingSet d (by omega) s 11 fc_is3_11 a2) rfl)) ?_
      show fu_J _ _ (fc_X d (some .int) k_X11_walk 20 [.ref 0, .int a1, .int a2] [.int (fu_b (f_X4_isThingSet s 11 a2)), .ref 0] s)
      refine fu_ite (fun h3 => fu_step (fu_ib_eq_t rfl h3) ?_) (fun h3 => fu_step (fu_ib_eq_f rfl h3) ?_)
      · refine fu_go 2 (pc' := 28) (ls' := [.ref 0, .int a1, .int a2]) (st' := [.int (0 : Int32), .ref 0]) (s' := s) rfl ?_
        exact fu_leaf rfl ⟨.inr rfl, .inr rfl, .inr rfl, trivial⟩
      · refine fu_go 1 (pc' := 28) (ls' := [.ref 0, .int a1, .int a2]) (st' := [.int (5 : Int32), .ref 0]) (s' := s) rfl ?_
        exact fu_leaf rfl ⟨.inr rfl, .inr rfl, .inr rfl, trivial⟩
    · refine fu_go 1 (pc' := 28) (ls' := [.ref 0, .int a1, .int a2]) (st' := [.int (5 : Int32), .ref 0]) (s' := s) rfl ?_
      exact fu_leaf rfl ⟨.inr rfl, .inr rfl, .inr rfl, trivial⟩
  show fu_J _ _ (fc_X d (some .int) k_X11_walk 28 [.ref 0, .int a1, .int a2] [.int j1, .ref 0] s)
  refine fu_lets (b := (fu_pi s 0 15 j1)) (fu_putI rfl fc_0 rfl rfl) (fun s4 => ?_)
  refine fu_go 1 (pc' := 32) (ls' := [.ref 0, .int a1, .int a2]) (st' := [.ref 0]) (s' := s4) rfl ?_
  refine fu_step (fu_getI rfl fc_0 rfl rfl) ?_
  refine fu_bind (V := fun j5 : Int32 => fc_X d (some .int) k_X11_walk 51 [am_U, am_U, am_U] [.int j5] s4) ?_ (fun j5 => ?_)
  · refine fu_ite (fun h6 => fu_step (fu_if_ne_t rfl h6) ?_) (fun h6 => fu_step (fu_if_ne_f rfl h6) ?_)
    · refine fu_go 1 (pc' := 39) (ls' := [.ref 0, .int a1, .int a2]) (st' := [.ref 0]) (s' := s4) rfl ?_
      refine fu_step (fu_getR rfl fc_0 rfl rfl) ?_
      refine fu_go 2 (pc' := 44) (ls' := [.ref 0, .int a1, .int a2]) (st' := [.int a2, .int a1, .ref 11]) (s' := s4) rfl ?_
      refine fu_bind (fu_cSJ rfl rfl rfl rfl rfl rfl (e_X9_cost d (by omega) s4 11 fc_is3_11 a1 a2)) (fun r7 => ?_)
      show fu_J _ _ (fc_X d (some .int) k_X11_walk 47 [.ref 0, .int a1, .int a2] [.int r7] s4)
      refine fu_go 1 (pc' := 51) (ls' := [.ref 0, .int a1, .int a2]) (st' := [.int r7]) (s' := s4) rfl ?_
      exact fu_leaf rfl ⟨.inl rfl, .inl rfl, .inl rfl, trivial⟩
    · refine fu_go 1 (pc' := 51) (ls' := [.ref 0, .int a1, .int a2]) (st' := [.int (-1 : Int32)]) (s' := s4) rfl ?_
      exact fu_leaf rfl ⟨.inl rfl, .inl rfl, .inl rfl, trivial⟩
  show fu_J _ _ (fc_X d (some .int) k_X11_walk 51 [am_U, am_U, am_U] [.int j5] s4)
  exact fu_iret rfl rfl
/-! X11_share -/
set_option maxRecDepth 100000 in
theorem e_X11_share (d : Nat) (hd : 5 ≤ d) (s : fu_S) (a1 : Int32) (a2 : Int32) (a3 : Int32) : fu_J (f_X11_share s a1 a2 a3) (fun r => some (some (.int (fu_b r.1)), r.2)) (am_D (fu_ho fc_sh) am_m d 222 [.ref 0, .int a1, .int a2, .int a3] s) := by
  obtain ⟨d, rfl⟩ : ∃ e, d = e + 1 := ⟨d - 1, by omega⟩
  refine fu_enter (ls := [.ref 0, .int a1, .int a2, .int a3]) am_at_X11_share rfl rfl ?_
  show fu_J _ _ (fc_X d (some .boolean) k_X11_share 0 [.ref 0, .int a1, .int a2, .int a3] [] s)
  unfold f_X11_share
  refine fu_go 2 (pc' := 2) (ls' := [.ref 0, .int a1, .int a2, .int a3]) (st' := [.ref 0, .ref 0]) (s' := s) rfl ?_
  refine fu_step (fu_getR rfl fc_0 rfl rfl) ?_
  refine fu_go 1 (pc' := 6) (ls' := [.ref 0, .int a1, .int a2, .int a3]) (st' := [.int a3, .ref 11, .ref 0]) (s' := s) rfl ?_
  refine fu_step (fu_cV rfl rfl rfl rfl rfl (fu_recv fc_11 am_at_X4_hasThing rfl) (fu_eq (e_X4_hasThing d (by omega) s 11 fc_is3_11 a3) rfl)) ?_
  show fu_J _ _ (fc_X d (some .boolean) k_X11_share 9 [.ref 0, .int a1, .int a2, .int a3] [.int (fu_b (f_X4_hasThing s 11 a3)), .ref 0] s)
  refine fu_bind (V := fun j1 : Int32 => fc_X d (some .boolean) k_X11_share 56 [.ref 0, .int a1, .int a2, .int a3] [.int j1, .ref 0] s) ?_ (fun j1 => ?_)
  · refine fu_ite (fun h2 => fu_step (fu_ib_ne_t rfl h2) ?_) (fun h2 => fu_step (fu_ib_ne_f rfl h2) ?_)
    · refine fu_go 1 (pc' := 17) (ls' := [.ref 0, .int a1, .int a2, .int a3]) (st' := [.ref 0, .ref 0]) (s' := s) rfl ?_
      refine fu_step (fu_getR rfl fc_0 rfl rfl) ?_
      refine fu_go 1 (pc' := 21) (ls' := [.ref 0, .int a1, .int a2, .int a3]) (st' := [.int a1, .ref 11, .ref 0]) (s' := s) rfl ?_
      refine fu_step (fu_cV rfl rfl rfl rfl rfl (fu_recv fc_11 am_at_X4_isHome rfl) (fu_eq (e_X4_isHome d (by omega) s 11 fc_is3_11 a1) rfl)) ?_
      show fu_J _ _ (fc_X d (some .boolean) k_X11_share 24 [.ref 0, .int a1, .int a2, .int a3] [.int (fu_b (f_X4_isHome 11 a1)), .ref 0] s)
      refine fu_ite (fun h3 => fu_step (fu_ib_eq_t rfl h3) ?_) (fun h3 => fu_step (fu_ib_eq_f rfl h3) ?_)
      · refine fu_go 1 (pc' := 28) (ls' := [.ref 0, .int a1, .int a2, .int a3]) (st' := [.ref 0, .ref 0]) (s' := s) rfl ?_
        refine fu_step (fu_getR rfl fc_0 rfl rfl) ?_
        refine fu_go 1 (pc' := 32) (ls' := [.ref 0, .int a1, .int a2, .int a3]) (st' := [.int a2, .ref 11, .ref 0]) (s' := s) rfl ?_
        refine fu_step (fu_cV rfl rfl rfl rfl rfl (fu_recv fc_11 am_at_X4_isThingSet rfl) (fu_eq (e_X4_isThingSet d (by omega) s 11 fc_is3_11 a2) rfl)) ?_
        show fu_J _ _ (fc_X d (some .boolean) k_X11_share 35 [.ref 0, .int a1, .int a2, .int a3] [.int (fu_b (f_X4_isThingSet s 11 a2)), .ref 0] s)
        refine fu_ite (fun h4 => fu_step (fu_ib_ne_t rfl h4) ?_) (fun h4 => fu_step (fu_ib_ne_f rfl h4) ?_)
        · refine fu_go 5 (pc' := 47) (ls' := [.ref 0, .int a1, .int a2, .int a3]) (st' := [.int ((a2 >>> (a3 &&& 31)) &&& (1 : Int32)), .ref 0]) (s' := s) rfl ?_
          refine fu_ite (fun h5 => fu_step (fu_if_ne_t rfl h5) ?_) (fun h5 => fu_step (fu_if_ne_f rfl h5) ?_)
          · refine fu_go 2 (pc' := 56) (ls' := [.ref 0, .int a1, .int a2, .int a3]) (st' := [.int (8 : Int32), .ref 0]) (s' := s) rfl ?_
            exact fu_leaf rfl ⟨.inr rfl, .inr rfl, .inr rfl, .inr rfl, trivial⟩
          · refine fu_go 1 (pc' := 56) (ls' := [.ref 0, .int a1, .int a2, .int a3]) (st' := [.int (0 : Int32), .ref 0]) (s' := s) rfl ?_
            exact fu_leaf rfl ⟨.inr rfl, .inr rfl, .inr rfl, .inr rfl, trivial⟩
        · refine fu_go 2 (pc' := 56) (ls' := [.ref 0, .int a1, .int a2, .int a3]) (st' := [.int (5 : Int32), .ref 0]) (s' := s) rfl ?_
          exact fu_leaf rfl ⟨.inr rfl, .inr rfl, .inr rfl, .inr rfl, trivial⟩
      · refine fu_go 2 (pc' := 56) (ls' := [.ref 0, .int a1, .int a2, .int a3]) (st' := [.int (5 : Int32), .ref 0]) (s' := s) rfl ?_
        exact fu_leaf rfl ⟨.inr rfl, .inr rfl, .inr rfl, .inr rfl, trivial⟩
    · refine fu_go 2 (pc' := 56) (ls' := [.ref 0, .int a1, .int a2, .int a3]) (st' := [.int (2 : Int32), .ref 0]) (s' := s) rfl ?_
      exact fu_leaf rfl ⟨.inr rfl, .inr rfl, .inr rfl, .inr rfl, trivial⟩
  show fu_J _ _ (fc_X d (some .boolean) k_X11_share 56 [.ref 0, .int a1, .int a2, .int a3] [.int j1, .ref 0] s)
  refine fu_lets (b := (fu_pi s 0 15 j1)) (fu_putI rfl fc_0 rfl rfl) (fun s6 => ?_)
  refine fu_go 1 (pc' := 60) (ls' := [.ref 0, .int a1, .int a2, .int a3]) (st' := [.ref 0]) (s' := s6) rfl ?_
  refine fu_step (fu_getI rfl fc_0 rfl rfl) ?_
  refine fu_bind (V := fun j7 : fu_S => fc_X d (some .boolean) k_X11_share 87 [.ref 0, am_U, am_U, am_U] [] j7) ?_ (fun j7 => ?_)
  · refine fu_ite (fun h8 => fu_step (fu_if_ne_t rfl h8) ?_) (fun h8 => fu_step (fu_if_ne_f rfl h8) ?_)
    · refine fu_go 2 (pc' := 68) (ls' := [.ref 0, .int a1, .int a2, .int a3]) (st' := [.ref 0, .ref 0]) (s' := s6) rfl ?_
      refine fu_step (fu_getR rfl fc_0 rfl rfl) ?_
      refine fu_go 3 (pc' := 74) (ls' := [.ref 0, .int a1, .int a2, .int a3]) (st' := [.int a3, .int a2, .int a1, .ref 11, .ref 0]) (s' := s6) rfl ?_
      refine fu_bind (fu_cSJ rfl rfl rfl rfl rfl rfl (e_X9_shareOfAllOrders d (by omega) s6 11 fc_is3_11 a1 a2 a3)) (fun r9 => ?_)
      show fu_J _ _ (fc_X d (some .boolean) k_X11_share 77 [.ref 0, .int a1, .int a2, .int a3] [.long r9, .ref 0] s6)
      refine fu_go 1 (pc' := 78) (ls' := [.ref 0, .int a1, .int a2, .int a3]) (st' := [.int a2, .long r9, .ref 0]) (s' := s6) rfl ?_
      refine fu_step (fu_cS rfl rfl rfl rfl rfl rfl (fu_eq (e_J6_bitCount_0f7a4 d (by omega) s6 a2) rfl)) ?_
      show fu_J _ _ (fc_X d (some .boolean) k_X11_share 81 [.ref 0, .int a1, .int a2, .int a3] [.int (f_J6_bitCount_0f7a4 a2), .long r9, .ref 0] s6)
      refine fu_bind (fu_cSJ rfl rfl rfl rfl rfl rfl (e_X9_orders d (by omega) s6 (f_J6_bitCount_0f7a4 a2))) (fun r10 => ?_)
      show fu_J _ _ (fc_X d (some .boolean) k_X11_share 84 [.ref 0, .int a1, .int a2, .int a3] [.long r10, .long r9, .ref 0] s6)
      refine fu_bind (fu_cVJ rfl rfl rfl rfl rfl (fu_recv fc_0 am_at_X11_tell rfl) (e_X11_tell d (by omega) s6 r9 r10)) (fun r11 => ?_)
      show fu_J _ _ (fc_X d (some .boolean) k_X11_share 87 [.ref 0, .int a1, .int a2, .int a3] [] r11)
      exact fu_leaf rfl ⟨.inr rfl, .inl rfl, .inl rfl, .inl rfl, trivial⟩
    · exact fu_leaf rfl ⟨.inr rfl, .inl rfl, .inl rfl, .inl rfl, trivial⟩
  show fu_J _ _ (fc_X d (some .boolean) k_X11_share 87 [.ref 0, am_U, am_U, am_U] [] j7)
  refine fu_go 1 (pc' := 88) (ls' := [.ref 0, am_U, am_U, am_U]) (st' := [.ref 0]) (s' := j7) rfl ?_
  refine fu_step (fu_getI rfl fc_0 rfl rfl) ?_
  refine fu_bind (V := fun j12 : Bool => fc_X d (some .boolean) k_X11_share 99 [am_U, am_U, am_U, am_U] [.int (fu_b j12)] j7) ?_ (fun j12 => ?_)
  · refine fu_ite (fun h13 => fu_step (fu_if_ne_t rfl h13) ?_) (fun h13 => fu_step (fu_if_ne_f rfl h13) ?_)
    · refine fu_go 2 (pc' := 99) (ls' := [.ref 0, am_U, am_U, am_U]) (st' := [.int (1 : Int32)]) (s' := j7) rfl ?_
      exact fu_leaf rfl ⟨.inl rfl, .inl rfl, .inl rfl, .inl rfl, trivial⟩
    · refine fu_go 1 (pc' := 99) (ls' := [.ref 0, am_U, am_U, am_U]) (st' := [.int (0 : Int32)]) (s' := j7) rfl ?_
      exact fu_leaf rfl ⟨.inl rfl, .inl rfl, .inl rfl, .inl rfl, trivial⟩
  show fu_J _ _ (fc_X d (some .boolean) k_X11_share 99 [am_U, am_U, am_U, am_U] [.int (fu_b j12)] j7)
  exact fu_bret (b := j12) rfl rfl
/-! X11_gameStatus -/
set_option maxRecDepth 100000 in
theorem e_X11_gameStatus (d : Nat) (hd : 3 ≤ d) (s : fu_S) (a1 : Int32) (a2 : Int32) (a3 : Int32) (a4 : Int32) : fu_J (some (f_X11_gameStatus s a1 a2 a3 a4)) (fun r => some (some (.int r), s)) (am_D (fu_ho fc_sh) am_m d 225 [.ref 0, .int a1, .int a2, .int a3, .int a4] s) := by
  obtain ⟨d, rfl⟩ : ∃ e, d = e + 1 := ⟨d - 1, by omega⟩
  refine fu_enter (ls := [.ref 0, .int a1, .int a2, .int a3, .int a4]) am_at_X11_gameStatus rfl rfl ?_
  show fu_J _ _ (fc_X d (some .int) k_X11_gameStatus 0 [.ref 0, .int a1, .int a2, .int a3, .int a4] [] s)
  unfold f_X11_gameStatus
  refine fu_go 3 (pc' := 3) (ls' := [.ref 0, .int a1, .int a2, .int a3, .int a4]) (st' := [.int a2, .int a1, .ref 0]) (s' := s) rfl ?_
  refine fu_step (fu_cV rfl rfl rfl rfl rfl (fu_recv fc_0 am_at_X11_coupleStatus rfl) (fu_eq (e_X11_coupleStatus d (by omega) s a1 a2) rfl)) ?_
  show fu_J _ _ (fc_X d (some .int) k_X11_gameStatus 6 [.ref 0, .int a1, .int a2, .int a3, .int a4] [.int (f_X11_coupleStatus s a1 a2)] s)
  refine fu_letS (V := fun j1 : Int32 => fc_X d (some .int) k_X11_gameStatus 34 [am_U, am_U, am_U, am_U, am_U] [.int j1] s) ?_ (fun j1 => ?_)
  · refine fu_iteS (fun h2 => fu_step (fu_if_eq_t rfl h2) ?_) (fun h2 => fu_step (fu_if_eq_f rfl h2) ?_)
    · refine fu_go 2 (pc' := 15) (ls' := [.ref 0, .int a1, .int a2, .int a3, .int a4]) (st' := [.int a2, .int a1]) (s' := s) rfl ?_
      refine fu_iteS (fun h3 => fu_step (fu_ic_eq_t rfl h3) ?_) (fun h3 => fu_step (fu_ic_eq_f rfl h3) ?_)
      · refine fu_go 2 (pc' := 34) (ls' := [.ref 0, .int a1, .int a2, .int a3, .int a4]) (st' := [.int (5 : Int32)]) (s' := s) rfl ?_
        exact fu_leaf rfl ⟨.inl rfl, .inl rfl, .inl rfl, .inl rfl, .inl rfl, trivial⟩
      · refine fu_go 2 (pc' := 21) (ls' := [.ref 0, .int a1, .int a2, .int a3, .int a4]) (st' := [.int a4, .int a3]) (s' := s) rfl ?_
        refine fu_iteS (fun h4 => fu_step (fu_ic_lt_t rfl h4) ?_) (fun h4 => fu_step (fu_ic_lt_f rfl h4) ?_)
        · refine fu_go 2 (pc' := 34) (ls' := [.ref 0, .int a1, .int a2, .int a3, .int a4]) (st' := [.int (5 : Int32)]) (s' := s) rfl ?_
          exact fu_leaf rfl ⟨.inl rfl, .inl rfl, .inl rfl, .inl rfl, .inl rfl, trivial⟩
        · refine fu_go 2 (pc' := 26) (ls' := [.ref 0, .int a1, .int a2, .int a3, .int a4]) (st' := [.int (4 : Int32), .int a3]) (s' := s) rfl ?_
          refine fu_iteS (fun h5 => fu_step (fu_ic_le_t rfl h5) ?_) (fun h5 => fu_step (fu_ic_le_f rfl h5) ?_)
          · refine fu_go 1 (pc' := 34) (ls' := [.ref 0, .int a1, .int a2, .int a3, .int a4]) (st' := [.int (0 : Int32)]) (s' := s) rfl ?_
            exact fu_leaf rfl ⟨.inl rfl, .inl rfl, .inl rfl, .inl rfl, .inl rfl, trivial⟩
          · refine fu_go 2 (pc' := 34) (ls' := [.ref 0, .int a1, .int a2, .int a3, .int a4]) (st' := [.int (5 : Int32)]) (s' := s) rfl ?_
            exact fu_leaf rfl ⟨.inl rfl, .inl rfl, .inl rfl, .inl rfl, .inl rfl, trivial⟩
    · refine fu_go 2 (pc' := 34) (ls' := [.ref 0, .int a1, .int a2, .int a3, .int a4]) (st' := [.int (2 : Int32)]) (s' := s) rfl ?_
      exact fu_leaf rfl ⟨.inl rfl, .inl rfl, .inl rfl, .inl rfl, .inl rfl, trivial⟩
  show fu_J _ _ (fc_X d (some .int) k_X11_gameStatus 34 [am_U, am_U, am_U, am_U, am_U] [.int j1] s)
  exact fu_iret rfl rfl
/-! X11_game -/
set_option maxRecDepth 100000 in
theorem e_X11_game (d : Nat) (hd : 38 ≤ d) (s : fu_S) (a1 : Int32) (a2 : Int32) (a3 : Int32) : fu_J (f_X11_game s a1 a2 a3) (fun r => some (some (.int r.1), r.2)) (am_D (fu_ho fc_sh) am_m d 223 [.ref 0, .int a1, .int a2, .int a3] s) := by
  obtain ⟨d, rfl⟩ : ∃ e, d = e + 1 := ⟨d - 1, by omega⟩
  refine fu_enter (ls := [.ref 0, .int a1, .int a2, .int a3]) am_at_X11_game rfl rfl ?_
  show fu_J _ _ (fc_X d (some .int) k_X11_game 0 [.ref 0, .int a1, .int a2, .int a3] [] s)
  unfold f_X11_game
  refine fu_go 6 (pc' := 6) (ls' := [.ref 0, .int a1, .int a2, .int a3]) (st' := [.int (0 : Int32), .int a3, .int a2, .int a1, .ref 0, .ref 0]) (s' := s) rfl ?_
  refine fu_step (fu_cV rfl rfl rfl rfl rfl (fu_recv fc_0 am_at_X11_gameStatus rfl) (fu_eq (e_X11_gameStatus d (by omega) s a1 a2 a3 (0 : Int32)) rfl)) ?_
  show fu_J _ _ (fc_X d (some .int) k_X11_game 9 [.ref 0, .int a1, .int a2, .int a3] [.int (f_X11_gameStatus s a1 a2 a3 (0 : Int32)), .ref 0] s)
  refine fu_lets (b := (fu_pi s 0 15 (f_X11_gameStatus s a1 a2 a3 (0 : Int32)))) (fu_putI rfl fc_0 rfl rfl) (fun s1 => ?_)
  refine fu_go 1 (pc' := 13) (ls' := [.ref 0, .int a1, .int a2, .int a3]) (st' := [.ref 0]) (s' := s1) rfl ?_
  refine fu_step (fu_getI rfl fc_0 rfl rfl) ?_
  refine fu_bind (V := fun j2 : Int32 => fc_X d (some .int) k_X11_game 37 [am_U, am_U, am_U, am_U] [.int j2] s1) ?_ (fun j2 => ?_)
  · refine fu_ite (fun h3 => fu_step (fu_if_ne_t rfl h3) ?_) (fun h3 => fu_step (fu_if_ne_f rfl h3) ?_)
    · refine fu_go 1 (pc' := 20) (ls' := [.ref 0, .int a1, .int a2, .int a3]) (st' := [.ref 0]) (s' := s1) rfl ?_
      refine fu_step (fu_getR rfl fc_0 rfl rfl) ?_
      refine fu_go 1 (pc' := 24) (ls' := [.ref 0, .int a1, .int a2, .int a3]) (st' := [.ref 0, .ref 110]) (s' := s1) rfl ?_
      refine fu_step (fu_getR rfl fc_0 rfl rfl) ?_
      refine fu_go 3 (pc' := 30) (ls' := [.ref 0, .int a1, .int a2, .int a3]) (st' := [.int a3, .int a2, .int a1, .ref 11, .ref 110]) (s' := s1) rfl ?_
      refine fu_bind (fu_cVJ rfl rfl rfl rfl rfl (fu_recv fc_110 am_at_X10_gameWorth rfl) (e_X10_gameWorth d (by omega) s1 11 fc_is3_11 a1 a2 a3)) (fun r4 => ?_)
      show fu_J _ _ (fc_X d (some .int) k_X11_game 33 [.ref 0, .int a1, .int a2, .int a3] [.int r4] s1)
      refine fu_go 1 (pc' := 37) (ls' := [.ref 0, .int a1, .int a2, .int a3]) (st' := [.int r4]) (s' := s1) rfl ?_
      exact fu_leaf rfl ⟨.inl rfl, .inl rfl, .inl rfl, .inl rfl, trivial⟩
    · refine fu_go 1 (pc' := 37) (ls' := [.ref 0, .int a1, .int a2, .int a3]) (st' := [.int (-1 : Int32)]) (s' := s1) rfl ?_
      exact fu_leaf rfl ⟨.inl rfl, .inl rfl, .inl rfl, .inl rfl, trivial⟩
  show fu_J _ _ (fc_X d (some .int) k_X11_game 37 [am_U, am_U, am_U, am_U] [.int j2] s1)
  exact fu_iret rfl rfl
/-! X11_moveOf -/
set_option maxRecDepth 100000 in
theorem e_X11_moveOf (d : Nat) (hd : 39 ≤ d) (s : fu_S) (a1 : Int32) (a2 : Int32) (a3 : Int32) : fu_J (f_X11_moveOf s a1 a2 a3) (fun r => some (some (.int r.1), r.2)) (am_D (fu_ho fc_sh) am_m d 224 [.ref 0, .int a1, .int a2, .int a3] s) := by
  obtain ⟨d, rfl⟩ : ∃ e, d = e + 1 := ⟨d - 1, by omega⟩
  refine fu_enter (ls := [.ref 0, .int a1, .int a2, .int a3, am_U]) am_at_X11_moveOf rfl rfl ?_
  show fu_J _ _ (fc_X d (some .int) k_X11_moveOf 0 [.ref 0, .int a1, .int a2, .int a3, am_U] [] s)
  unfold f_X11_moveOf
  refine fu_go 6 (pc' := 6) (ls' := [.ref 0, .int a1, .int a2, .int a3, am_U]) (st' := [.int (1 : Int32), .int a3, .int a2, .int a1, .ref 0, .ref 0]) (s' := s) rfl ?_
  refine fu_step (fu_cV rfl rfl rfl rfl rfl (fu_recv fc_0 am_at_X11_gameStatus rfl) (fu_eq (e_X11_gameStatus d (by omega) s a1 a2 a3 (1 : Int32)) rfl)) ?_
  show fu_J _ _ (fc_X d (some .int) k_X11_moveOf 9 [.ref 0, .int a1, .int a2, .int a3, am_U] [.int (f_X11_gameStatus s a1 a2 a3 (1 : Int32)), .ref 0] s)
  refine fu_lets (b := (fu_pi s 0 15 (f_X11_gameStatus s a1 a2 a3 (1 : Int32)))) (fu_putI rfl fc_0 rfl rfl) (fun s1 => ?_)
  refine fu_go 1 (pc' := 13) (ls' := [.ref 0, .int a1, .int a2, .int a3, am_U]) (st' := [.ref 0]) (s' := s1) rfl ?_
  refine fu_step (fu_getI rfl fc_0 rfl rfl) ?_
  refine fu_ite (fun h2 => fu_step (fu_if_eq_t rfl h2) ?_) (fun h2 => fu_step (fu_if_eq_f rfl h2) ?_)
  · refine fu_go 1 (pc' := 22) (ls' := [.ref 0, .int a1, .int a2, .int a3, am_U]) (st' := [.ref 0]) (s' := s1) rfl ?_
    refine fu_step (fu_getR rfl fc_0 rfl rfl) ?_
    refine fu_go 1 (pc' := 26) (ls' := [.ref 0, .int a1, .int a2, .int a3, am_U]) (st' := [.ref 0, .ref 110]) (s' := s1) rfl ?_
    refine fu_step (fu_getR rfl fc_0 rfl rfl) ?_
    refine fu_go 3 (pc' := 32) (ls' := [.ref 0, .int a1, .int a2, .int a3, am_U]) (st' := [.int a3, .int a2, .int a1, .ref 11, .ref 110]) (s' := s1) rfl ?_
    refine fu_bind (fu_cVJ rfl rfl rfl rfl rfl (fu_recv fc_110 am_at_X10_firstMove rfl) (e_X10_firstMove d (by omega) s1 11 fc_is3_11 a1 a2 a3)) (fun r3 => ?_)
    show fu_J _ _ (fc_X d (some .int) k_X11_moveOf 35 [.ref 0, .int a1, .int a2, .int a3, am_U] [.int r3] s1)
    refine fu_go 4 (pc' := 41) (ls' := [.ref 0, .int a1, .int a2, .int a3, .int r3]) (st' := [.int (-1 : Int32), .int r3, .ref 0]) (s' := s1) rfl ?_
    refine fu_bind (V := fun j4 : Int32 => fc_X d (some .int) k_X11_moveOf 50 [am_U, am_U, am_U, am_U, .int r3] [.int j4, .ref 0] s1) ?_ (fun j4 => ?_)
    · refine fu_ite (fun h5 => fu_step (fu_ic_ne_t rfl h5) ?_) (fun h5 => fu_step (fu_ic_ne_f rfl h5) ?_)
      · refine fu_go 2 (pc' := 50) (ls' := [.ref 0, .int a1, .int a2, .int a3, .int r3]) (st' := [.int (8 : Int32), .ref 0]) (s' := s1) rfl ?_
        exact fu_leaf rfl ⟨.inl rfl, .inl rfl, .inl rfl, .inl rfl, .inr rfl, trivial⟩
      · refine fu_go 1 (pc' := 50) (ls' := [.ref 0, .int a1, .int a2, .int a3, .int r3]) (st' := [.int (0 : Int32), .ref 0]) (s' := s1) rfl ?_
        exact fu_leaf rfl ⟨.inl rfl, .inl rfl, .inl rfl, .inl rfl, .inr rfl, trivial⟩
    show fu_J _ _ (fc_X d (some .int) k_X11_moveOf 50 [am_U, am_U, am_U, am_U, .int r3] [.int j4, .ref 0] s1)
    refine fu_lets (b := (fu_pi s1 0 15 j4)) (fu_putI rfl fc_0 rfl rfl) (fun s6 => ?_)
    refine fu_go 1 (pc' := 55) (ls' := [am_U, am_U, am_U, am_U, .int r3]) (st' := [.int r3]) (s' := s6) rfl ?_
    exact fu_iret rfl rfl
  · refine fu_go 1 (pc' := 20) (ls' := [.ref 0, .int a1, .int a2, .int a3, am_U]) (st' := [.int (-1 : Int32)]) (s' := s1) rfl ?_
    exact fu_iret rfl rfl
/-! X11_tongue -/
theorem el_X11_tongue_36 (d : Nat) (hd : 1 ≤ d) : ∀ (n : Nat) (s : fu_S) (x1 : Int32) (x2 : Int64) (x4 : Int64) (x6 : Int32), fu_J (l_X11_tongue_36 n s x1 x2 x4 x6) (fun r => fc_X d (some .boolean) k_X11_tongue 70 [.ref 0, am_U, .long r.1, am_U, .long r.2, am_U, am_U] [] s) (fc_X d (some .boolean) k_X11_tongue 36 [.ref 0, .int x1, .long x2, am_U, .long x4, am_U, .int x6] [] s) := by
  intro n
  induction n with
  | zero => intros; exact fu_none
  | succ n ih =>
    intro s x1 x2 x4 x6
    rw [l_X11_tongue_36]
    refine fu_go 2 (pc' := 39) (ls' := [.ref 0, .int x1, .long x2, am_U, .long x4, am_U, .int x6]) (st' := [.int x1, .int x6]) (s' := s) rfl ?_
    refine fu_ite (fun h6 => fu_step (fu_ic_ge_t rfl h6) ?_) (fun h6 => fu_step (fu_ic_ge_f rfl h6) ?_)
    · refine fu_go 7 (pc' := 53) (ls' := [.ref 0, .int x1, .long (x2 * (16 : Int64)), am_U, .long x4, am_U, .int x6]) (st' := [.ref 0, .int (16 : Int32), .long x4]) (s' := s) rfl ?_
      refine fu_step (fu_getR rfl fc_0 rfl rfl) ?_
      refine fu_step (fu_cV rfl rfl rfl rfl rfl (fu_recv fc_11 am_at_X4_odds rfl) (fu_eq (e_X4_odds d (by omega) s 11 fc_is3_11) rfl)) ?_
      show fu_J _ _ (fc_X d (some .boolean) k_X11_tongue 59 [.ref 0, .int x1, .long (x2 * (16 : Int64)), am_U, .long x4, am_U, .int x6] [.int (f_X4_odds s 11), .int (16 : Int32), .long x4] s)
      refine fu_go 6 (pc' := 36) (ls' := [.ref 0, .int x1, .long (x2 * (16 : Int64)), am_U, .long (x4 * (Int32.toInt64 ((16 : Int32) - (f_X4_odds s 11)))), am_U, .int (x6 + (1 : Int32))]) (st' := []) (s' := s) rfl ?_
      exact fu_drop (ls' := [.ref 0, .int x1, .long (x2 * (16 : Int64)), am_U, .long (x4 * (Int32.toInt64 ((16 : Int32) - (f_X4_odds s 11)))), am_U, .int (x6 + (1 : Int32))]) ⟨.inr rfl, .inr rfl, .inr rfl, .inl rfl, .inr rfl, .inl rfl, .inr rfl, trivial⟩ (ih s x1 (x2 * (16 : Int64)) (x4 * (Int32.toInt64 ((16 : Int32) - (f_X4_odds s 11)))) (x6 + (1 : Int32)))
    · exact fu_leaf rfl ⟨.inr rfl, .inl rfl, .inr rfl, .inl rfl, .inr rfl, .inl rfl, .inl rfl, trivial⟩
set_option maxRecDepth 100000 in
theorem e_X11_tongue (d : Nat) (hd : 2 ≤ d) (s : fu_S) (a1 : Int32) : fu_J (f_X11_tongue s a1) (fun r => some (some (.int (fu_b r.1)), r.2)) (am_D (fu_ho fc_sh) am_m d 226 [.ref 0, .int a1] s) := by
  obtain ⟨d, rfl⟩ : ∃ e, d = e + 1 := ⟨d - 1, by omega⟩
  refine fu_enter (ls := [.ref 0, .int a1, am_U, am_U, am_U, am_U, am_U]) am_at_X11_tongue rfl rfl ?_
  show fu_J _ _ (fc_X d (some .boolean) k_X11_tongue 0 [.ref 0, .int a1, am_U, am_U, am_U, am_U, am_U] [] s)
  unfold f_X11_tongue
  refine fu_go 2 (pc' := 2) (ls' := [.ref 0, .int a1, am_U, am_U, am_U, am_U, am_U]) (st' := [.int a1, .ref 0]) (s' := s) rfl ?_
  refine fu_bind (V := fun j1 : Int32 => fc_X d (some .boolean) k_X11_tongue 16 [.ref 0, .int a1, am_U, am_U, am_U, am_U, am_U] [.int j1, .ref 0] s) ?_ (fun j1 => ?_)
  · refine fu_ite (fun h2 => fu_step (fu_if_lt_t rfl h2) ?_) (fun h2 => fu_step (fu_if_lt_f rfl h2) ?_)
    · refine fu_go 2 (pc' := 16) (ls' := [.ref 0, .int a1, am_U, am_U, am_U, am_U, am_U]) (st' := [.int (5 : Int32), .ref 0]) (s' := s) rfl ?_
      exact fu_leaf rfl ⟨.inr rfl, .inr rfl, .inl rfl, .inl rfl, .inl rfl, .inl rfl, .inl rfl, trivial⟩
    · refine fu_go 2 (pc' := 8) (ls' := [.ref 0, .int a1, am_U, am_U, am_U, am_U, am_U]) (st' := [.int (12 : Int32), .int a1, .ref 0]) (s' := s) rfl ?_
      refine fu_ite (fun h3 => fu_step (fu_ic_le_t rfl h3) ?_) (fun h3 => fu_step (fu_ic_le_f rfl h3) ?_)
      · refine fu_go 1 (pc' := 16) (ls' := [.ref 0, .int a1, am_U, am_U, am_U, am_U, am_U]) (st' := [.int (0 : Int32), .ref 0]) (s' := s) rfl ?_
        exact fu_leaf rfl ⟨.inr rfl, .inr rfl, .inl rfl, .inl rfl, .inl rfl, .inl rfl, .inl rfl, trivial⟩
      · refine fu_go 2 (pc' := 16) (ls' := [.ref 0, .int a1, am_U, am_U, am_U, am_U, am_U]) (st' := [.int (5 : Int32), .ref 0]) (s' := s) rfl ?_
        exact fu_leaf rfl ⟨.inr rfl, .inr rfl, .inl rfl, .inl rfl, .inl rfl, .inl rfl, .inl rfl, trivial⟩
  show fu_J _ _ (fc_X d (some .boolean) k_X11_tongue 16 [.ref 0, .int a1, am_U, am_U, am_U, am_U, am_U] [.int j1, .ref 0] s)
  refine fu_lets (b := (fu_pi s 0 15 j1)) (fu_putI rfl fc_0 rfl rfl) (fun s4 => ?_)
  refine fu_go 1 (pc' := 20) (ls' := [.ref 0, .int a1, am_U, am_U, am_U, am_U, am_U]) (st' := [.ref 0]) (s' := s4) rfl ?_
  refine fu_step (fu_getI rfl fc_0 rfl rfl) ?_
  refine fu_ite (fun h5 => fu_step (fu_if_eq_t rfl h5) ?_) (fun h5 => fu_step (fu_if_eq_f rfl h5) ?_)
  · refine fu_go 6 (pc' := 36) (ls' := [.ref 0, .int a1, .long (1 : Int64), am_U, .long (1 : Int64), am_U, .int (0 : Int32)]) (st' := []) (s' := s4) rfl ?_
    refine fu_drop (ls' := [.ref 0, .int a1, .long (1 : Int64), am_U, .long (1 : Int64), am_U, .int (0 : Int32)]) ⟨.inr rfl, .inr rfl, .inr rfl, .inl rfl, .inr rfl, .inl rfl, .inr rfl, trivial⟩ ?_
    refine fu_bind (el_X11_tongue_36 d (by omega) fu_N s4 a1 (1 : Int64) (1 : Int64) (0 : Int32)) (fun r7 => ?_)
    show fu_J _ _ (fc_X d (some .boolean) k_X11_tongue 70 [.ref 0, am_U, .long r7.1, am_U, .long r7.2, am_U, am_U] [] s4)
    refine fu_go 5 (pc' := 76) (ls' := [.ref 0, am_U, .long r7.1, am_U, .long r7.2, am_U, am_U]) (st' := [.long r7.1, .long (r7.1 - r7.2), .ref 0]) (s' := s4) rfl ?_
    refine fu_bind (fu_cVJ rfl rfl rfl rfl rfl (fu_recv fc_0 am_at_X11_tell rfl) (e_X11_tell d (by omega) s4 (r7.1 - r7.2) r7.1)) (fun r8 => ?_)
    show fu_J _ _ (fc_X d (some .boolean) k_X11_tongue 79 [.ref 0, am_U, .long r7.1, am_U, .long r7.2, am_U, am_U] [] r8)
    refine fu_go 1 (pc' := 80) (ls' := [.ref 0, am_U, .long r7.1, am_U, .long r7.2, am_U, am_U]) (st' := [.int (1 : Int32)]) (s' := r8) rfl ?_
    exact fu_bret (b := true) rfl rfl
  · refine fu_go 1 (pc' := 27) (ls' := [.ref 0, .int a1, am_U, am_U, am_U, am_U, am_U]) (st' := [.int (0 : Int32)]) (s' := s4) rfl ?_
    exact fu_bret (b := false) rfl rfl
/-! X11_live -/
set_option maxRecDepth 100000 in
theorem e_X11_live (d : Nat) (hd : 8 ≤ d) (s : fu_S) (a1 : Int32) : fu_J (f_X11_live s a1) (fun r => some (some (.int r.1), r.2)) (am_D (fu_ho fc_sh) am_m d 228 [.ref 0, .int a1] s) := by
  obtain ⟨d, rfl⟩ : ∃ e, d = e + 1 := ⟨d - 1, by omega⟩
  refine fu_enter (ls := [.ref 0, .int a1]) am_at_X11_live rfl rfl ?_
  show fu_J _ _ (fc_X d (some .int) k_X11_live 0 [.ref 0, .int a1] [] s)
  unfold f_X11_live
  refine fu_go 2 (pc' := 2) (ls' := [.ref 0, .int a1]) (st' := [.int a1, .ref 0]) (s' := s) rfl ?_
  refine fu_bind (V := fun j1 : Int32 => fc_X d (some .int) k_X11_live 32 [.ref 0, .int a1] [.int j1, .ref 0] s) ?_ (fun j1 => ?_)
  · refine fu_ite (fun h2 => fu_step (fu_if_lt_t rfl h2) ?_) (fun h2 => fu_step (fu_if_lt_f rfl h2) ?_)
    · refine fu_go 2 (pc' := 32) (ls' := [.ref 0, .int a1]) (st' := [.int (5 : Int32), .ref 0]) (s' := s) rfl ?_
      exact fu_leaf rfl ⟨.inr rfl, .inr rfl, trivial⟩
    · refine fu_go 2 (pc' := 9) (ls' := [.ref 0, .int a1]) (st' := [.int (9999 : Int32), .int a1, .ref 0]) (s' := s) rfl ?_
      refine fu_ite (fun h3 => fu_step (fu_ic_le_t rfl h3) ?_) (fun h3 => fu_step (fu_ic_le_f rfl h3) ?_)
      · refine fu_go 1 (pc' := 17) (ls' := [.ref 0, .int a1]) (st' := [.ref 0, .ref 0]) (s' := s) rfl ?_
        refine fu_step (fu_getR rfl fc_0 rfl rfl) ?_
        refine fu_step (fu_cV rfl rfl rfl rfl rfl (fu_recv fc_24 am_at_X5_isThere rfl) (fu_eq (e_X5_isThere d (by omega) s 24 fc_is4_24) rfl)) ?_
        show fu_J _ _ (fc_X d (some .int) k_X11_live 23 [.ref 0, .int a1] [.int (fu_b (f_X5_isThere s 24)), .ref 0] s)
        refine fu_ite (fun h4 => fu_step (fu_ib_ne_t rfl h4) ?_) (fun h4 => fu_step (fu_ib_ne_f rfl h4) ?_)
        · refine fu_go 1 (pc' := 32) (ls' := [.ref 0, .int a1]) (st' := [.int (0 : Int32), .ref 0]) (s' := s) rfl ?_
          exact fu_leaf rfl ⟨.inr rfl, .inr rfl, trivial⟩
        · refine fu_go 2 (pc' := 32) (ls' := [.ref 0, .int a1]) (st' := [.int (8 : Int32), .ref 0]) (s' := s) rfl ?_
          exact fu_leaf rfl ⟨.inr rfl, .inr rfl, trivial⟩
      · refine fu_go 2 (pc' := 32) (ls' := [.ref 0, .int a1]) (st' := [.int (5 : Int32), .ref 0]) (s' := s) rfl ?_
        exact fu_leaf rfl ⟨.inr rfl, .inr rfl, trivial⟩
  show fu_J _ _ (fc_X d (some .int) k_X11_live 32 [.ref 0, .int a1] [.int j1, .ref 0] s)
  refine fu_lets (b := (fu_pi s 0 15 j1)) (fu_putI rfl fc_0 rfl rfl) (fun s5 => ?_)
  refine fu_go 1 (pc' := 36) (ls' := [.ref 0, .int a1]) (st' := [.ref 0]) (s' := s5) rfl ?_
  refine fu_step (fu_getI rfl fc_0 rfl rfl) ?_
  refine fu_ite (fun h6 => fu_step (fu_if_eq_t rfl h6) ?_) (fun h6 => fu_step (fu_if_eq_f rfl h6) ?_)
  · refine fu_go 1 (pc' := 45) (ls' := [.ref 0, .int a1]) (st' := [.ref 0]) (s' := s5) rfl ?_
    refine fu_step (fu_getR rfl fc_0 rfl rfl) ?_
    refine fu_go 1 (pc' := 49) (ls' := [.ref 0, .int a1]) (st' := [.ref 0, .ref 106]) (s' := s5) rfl ?_
    refine fu_step (fu_getR rfl fc_0 rfl rfl) ?_
    refine fu_go 1 (pc' := 53) (ls' := [.ref 0, .int a1]) (st' := [.ref 0, .ref 24, .ref 106]) (s' := s5) rfl ?_
    refine fu_step (fu_getR rfl fc_0 rfl rfl) ?_
    refine fu_go 1 (pc' := 57) (ls' := [.ref 0, .int a1]) (st' := [.int a1, .ref 11, .ref 24, .ref 106]) (s' := s5) rfl ?_
    refine fu_bind (fu_cVJ rfl rfl rfl rfl rfl (fu_recv fc_106 am_at_X3_run rfl) (e_X3_run d (by omega) s5 106 fc_is2_106 24 fc_is4_24 11 fc_is3_11 a1)) (fun r7 => ?_)
    show fu_J _ _ (fc_X d (some .int) k_X11_live 60 [.ref 0, .int a1] [] r7)
    refine fu_go 1 (pc' := 61) (ls' := [.ref 0, .int a1]) (st' := [.ref 0]) (s' := r7) rfl ?_
    refine fu_step (fu_getR rfl fc_0 rfl rfl) ?_
    refine fu_step (fu_cV rfl rfl rfl rfl rfl (fu_recv fc_106 am_at_X3_steps rfl) (fu_eq (e_X3_steps d (by omega) r7 106 fc_is2_106) rfl)) ?_
    show fu_J _ _ (fc_X d (some .int) k_X11_live 67 [.ref 0, .int a1] [.int (f_X3_steps r7 106)] r7)
    exact fu_iret rfl rfl
  · refine fu_go 1 (pc' := 43) (ls' := [.ref 0, .int a1]) (st' := [.int (-1 : Int32)]) (s' := s5) rfl ?_
    exact fu_iret rfl rfl
/-! X11_lived -/
set_option maxRecDepth 100000 in
theorem e_X11_lived (d : Nat) (hd : 2 ≤ d) (s : fu_S) (a1 : Int32) : fu_J (some (f_X11_lived s a1)) (fun r => some (some (.int r.1), r.2)) (am_D (fu_ho fc_sh) am_m d 229 [.ref 0, .int a1] s) := by
  obtain ⟨d, rfl⟩ : ∃ e, d = e + 1 := ⟨d - 1, by omega⟩
  refine fu_enter (ls := [.ref 0, .int a1]) am_at_X11_lived rfl rfl ?_
  show fu_J _ _ (fc_X d (some .int) k_X11_lived 0 [.ref 0, .int a1] [] s)
  unfold f_X11_lived
  refine fu_go 2 (pc' := 2) (ls' := [.ref 0, .int a1]) (st' := [.int a1, .ref 0]) (s' := s) rfl ?_
  refine fu_letS (V := fun j1 : Int32 => fc_X d (some .int) k_X11_lived 30 [.ref 0, .int a1] [.int j1, .ref 0] s) ?_ (fun j1 => ?_)
  · refine fu_iteS (fun h2 => fu_step (fu_if_lt_t rfl h2) ?_) (fun h2 => fu_step (fu_if_lt_f rfl h2) ?_)
    · refine fu_go 2 (pc' := 30) (ls' := [.ref 0, .int a1]) (st' := [.int (5 : Int32), .ref 0]) (s' := s) rfl ?_
      exact fu_leaf rfl ⟨.inr rfl, .inr rfl, trivial⟩
    · refine fu_go 2 (pc' := 7) (ls' := [.ref 0, .int a1]) (st' := [.int (4 : Int32), .int a1, .ref 0]) (s' := s) rfl ?_
      refine fu_iteS (fun h3 => fu_step (fu_ic_le_t rfl h3) ?_) (fun h3 => fu_step (fu_ic_le_f rfl h3) ?_)
      · refine fu_go 1 (pc' := 15) (ls' := [.ref 0, .int a1]) (st' := [.ref 0, .ref 0]) (s' := s) rfl ?_
        refine fu_step (fu_getR rfl fc_0 rfl rfl) ?_
        refine fu_step (fu_cV rfl rfl rfl rfl rfl (fu_recv fc_106 am_at_X3_wasRun rfl) (fu_eq (e_X3_wasRun d (by omega) s 106 fc_is2_106) rfl)) ?_
        show fu_J _ _ (fc_X d (some .int) k_X11_lived 21 [.ref 0, .int a1] [.int (fu_b (f_X3_wasRun s 106)), .ref 0] s)
        refine fu_iteS (fun h4 => fu_step (fu_ib_ne_t rfl h4) ?_) (fun h4 => fu_step (fu_ib_ne_f rfl h4) ?_)
        · refine fu_go 1 (pc' := 30) (ls' := [.ref 0, .int a1]) (st' := [.int (0 : Int32), .ref 0]) (s' := s) rfl ?_
          exact fu_leaf rfl ⟨.inr rfl, .inr rfl, trivial⟩
        · refine fu_go 2 (pc' := 30) (ls' := [.ref 0, .int a1]) (st' := [.int (8 : Int32), .ref 0]) (s' := s) rfl ?_
          exact fu_leaf rfl ⟨.inr rfl, .inr rfl, trivial⟩
      · refine fu_go 2 (pc' := 30) (ls' := [.ref 0, .int a1]) (st' := [.int (5 : Int32), .ref 0]) (s' := s) rfl ?_
        exact fu_leaf rfl ⟨.inr rfl, .inr rfl, trivial⟩
  show fu_J _ _ (fc_X d (some .int) k_X11_lived 30 [.ref 0, .int a1] [.int j1, .ref 0] s)
  refine fu_letsS (b := (fu_pi s 0 15 j1)) (fu_putI rfl fc_0 rfl rfl) (fun s5 => ?_)
  refine fu_go 1 (pc' := 34) (ls' := [.ref 0, .int a1]) (st' := [.ref 0]) (s' := s5) rfl ?_
  refine fu_step (fu_getI rfl fc_0 rfl rfl) ?_
  refine fu_letS (V := fun j6 : Int32 => fc_X d (some .int) k_X11_lived 52 [am_U, am_U] [.int j6] s5) ?_ (fun j6 => ?_)
  · refine fu_iteS (fun h7 => fu_step (fu_if_ne_t rfl h7) ?_) (fun h7 => fu_step (fu_if_ne_f rfl h7) ?_)
    · refine fu_go 1 (pc' := 41) (ls' := [.ref 0, .int a1]) (st' := [.ref 0]) (s' := s5) rfl ?_
      refine fu_step (fu_getR rfl fc_0 rfl rfl) ?_
      refine fu_go 1 (pc' := 45) (ls' := [.ref 0, .int a1]) (st' := [.int a1, .ref 106]) (s' := s5) rfl ?_
      refine fu_step (fu_cV rfl rfl rfl rfl rfl (fu_recv fc_106 am_at_X3_tally rfl) (fu_eq (e_X3_tally d (by omega) s5 106 fc_is2_106 a1) rfl)) ?_
      show fu_J _ _ (fc_X d (some .int) k_X11_lived 48 [.ref 0, .int a1] [.int (f_X3_tally s5 106 a1)] s5)
      refine fu_go 1 (pc' := 52) (ls' := [.ref 0, .int a1]) (st' := [.int (f_X3_tally s5 106 a1)]) (s' := s5) rfl ?_
      exact fu_leaf rfl ⟨.inl rfl, .inl rfl, trivial⟩
    · refine fu_go 1 (pc' := 52) (ls' := [.ref 0, .int a1]) (st' := [.int (-1 : Int32)]) (s' := s5) rfl ?_
      exact fu_leaf rfl ⟨.inl rfl, .inl rfl, trivial⟩
  show fu_J _ _ (fc_X d (some .int) k_X11_lived 52 [am_U, am_U] [.int j6] s5)
  exact fu_iret rfl rfl
/-! X11_mean -/
theorem el_X11_mean_62 (d : Nat) (hd : 7 ≤ d) : ∀ (n : Nat) (s : fu_S) (x1 : Int32) (x2 : Int32) (x3 : Int64) (x5 : Int32), fu_J (l_X11_mean_62 n s x1 x2 x3 x5) (fun r => fc_X d (some .boolean) k_X11_mean 118 [.ref 0, am_U, .int x2, .long r.1, am_U, am_U] [] r.2) (fc_X d (some .boolean) k_X11_mean 62 [.ref 0, .int x1, .int x2, .long x3, am_U, .int x5] [] s) := by
  intro n
  induction n with
  | zero => intros; exact fu_none
  | succ n ih =>
    intro s x1 x2 x3 x5
    rw [l_X11_mean_62]
    refine fu_go 2 (pc' := 65) (ls' := [.ref 0, .int x1, .int x2, .long x3, am_U, .int x5]) (st' := [.int x2, .int x5]) (s' := s) rfl ?_
    refine fu_ite (fun h9 => fu_step (fu_ic_ge_t rfl h9) ?_) (fun h9 => fu_step (fu_ic_ge_f rfl h9) ?_)
    · refine fu_go 1 (pc' := 69) (ls' := [.ref 0, .int x1, .int x2, .long x3, am_U, .int x5]) (st' := [.ref 0]) (s' := s) rfl ?_
      refine fu_step (fu_getR rfl fc_0 rfl rfl) ?_
      refine fu_go 1 (pc' := 73) (ls' := [.ref 0, .int x1, .int x2, .long x3, am_U, .int x5]) (st' := [.ref 0, .ref 29]) (s' := s) rfl ?_
      refine fu_step (fu_getR rfl fc_0 rfl rfl) ?_
      refine fu_let (fu_cVJ rfl rfl rfl rfl rfl (fu_recv fc_29 am_at_X4_copyFrom rfl) (e_X4_copyFrom d (by omega) s 29 fc_is3_29 11 fc_is3_11)) (fun r10 => ?_)
      show fu_J _ _ (fc_X d (some .boolean) k_X11_mean 79 [.ref 0, .int x1, .int x2, .long x3, am_U, .int x5] [] r10)
      refine fu_go 1 (pc' := 80) (ls' := [.ref 0, .int x1, .int x2, .long x3, am_U, .int x5]) (st' := [.ref 0]) (s' := r10) rfl ?_
      refine fu_step (fu_getR rfl fc_0 rfl rfl) ?_
      refine fu_go 1 (pc' := 84) (ls' := [.ref 0, .int x1, .int x2, .long x3, am_U, .int x5]) (st' := [.ref 0, .ref 108]) (s' := r10) rfl ?_
      refine fu_step (fu_getR rfl fc_0 rfl rfl) ?_
      refine fu_go 1 (pc' := 88) (ls' := [.ref 0, .int x1, .int x2, .long x3, am_U, .int x5]) (st' := [.ref 0, .ref 24, .ref 108]) (s' := r10) rfl ?_
      refine fu_step (fu_getR rfl fc_0 rfl rfl) ?_
      refine fu_go 3 (pc' := 95) (ls' := [.ref 0, .int x1, .int x2, .long x3, am_U, .int x5]) (st' := [.int (x1 + x5), .ref 29, .ref 24, .ref 108]) (s' := r10) rfl ?_
      refine fu_bind (fu_cVJ rfl rfl rfl rfl rfl (fu_recv fc_108 am_at_X3_run rfl) (e_X3_run d (by omega) r10 108 fc_is2_108 24 fc_is4_24 29 fc_is3_29 (x1 + x5))) (fun r11 => ?_)
      show fu_J _ _ (fc_X d (some .boolean) k_X11_mean 98 [.ref 0, .int x1, .int x2, .long x3, am_U, .int x5] [] r11)
      refine fu_go 2 (pc' := 100) (ls' := [.ref 0, .int x1, .int x2, .long x3, am_U, .int x5]) (st' := [.ref 0, .long x3]) (s' := r11) rfl ?_
      refine fu_step (fu_getR rfl fc_0 rfl rfl) ?_
      refine fu_bind (fu_cVJ rfl rfl rfl rfl rfl (fu_recv fc_29 am_at_X4_foundSet rfl) (e_X4_foundSet d (by omega) r11 29 fc_is3_29)) (fun r12 => ?_)
      show fu_J _ _ (fc_X d (some .boolean) k_X11_mean 106 [.ref 0, .int x1, .int x2, .long x3, am_U, .int x5] [.int r12, .long x3] r11)
      refine fu_step (fu_cS rfl rfl rfl rfl rfl rfl (fu_eq (e_J6_bitCount_0f7a4 d (by omega) r11 r12) rfl)) ?_
      show fu_J _ _ (fc_X d (some .boolean) k_X11_mean 109 [.ref 0, .int x1, .int x2, .long x3, am_U, .int x5] [.int (f_J6_bitCount_0f7a4 r12), .long x3] r11)
      refine fu_go 5 (pc' := 62) (ls' := [.ref 0, .int x1, .int x2, .long (x3 + (Int32.toInt64 (f_J6_bitCount_0f7a4 r12))), am_U, .int (x5 + (1 : Int32))]) (st' := []) (s' := r11) rfl ?_
      exact fu_drop (ls' := [.ref 0, .int x1, .int x2, .long (x3 + (Int32.toInt64 (f_J6_bitCount_0f7a4 r12))), am_U, .int (x5 + (1 : Int32))]) ⟨.inr rfl, .inr rfl, .inr rfl, .inr rfl, .inl rfl, .inr rfl, trivial⟩ (ih r11 x1 x2 (x3 + (Int32.toInt64 (f_J6_bitCount_0f7a4 r12))) (x5 + (1 : Int32)))
    · exact fu_leaf rfl ⟨.inr rfl, .inl rfl, .inr rfl, .inr rfl, .inl rfl, .inl rfl, trivial⟩
set_option maxRecDepth 100000 in
theorem e_X11_mean (d : Nat) (hd : 8 ≤ d) (s : fu_S) (a1 : Int32) (a2 : Int32) : fu_J (f_X11_mean s a1 a2) (fun r => some (some (.int (fu_b r.1)), r.2)) (am_D (fu_ho fc_sh) am_m d 230 [.ref 0, .int a1, .int a2] s) := by
  obtain ⟨d, rfl⟩ : ∃ e, d = e + 1 := ⟨d - 1, by omega⟩
  refine fu_enter (ls := [.ref 0, .int a1, .int a2, am_U, am_U, am_U]) am_at_X11_mean rfl rfl ?_
  show fu_J _ _ (fc_X d (some .boolean) k_X11_mean 0 [.ref 0, .int a1, .int a2, am_U, am_U, am_U] [] s)
  unfold f_X11_mean
  refine fu_go 2 (pc' := 2) (ls' := [.ref 0, .int a1, .int a2, am_U, am_U, am_U]) (st' := [.int a1, .ref 0]) (s' := s) rfl ?_
  refine fu_bind (V := fun j1 : Int32 => fc_X d (some .boolean) k_X11_mean 45 [.ref 0, .int a1, .int a2, am_U, am_U, am_U] [.int j1, .ref 0] s) ?_ (fun j1 => ?_)
  · refine fu_ite (fun h2 => fu_step (fu_if_lt_t rfl h2) ?_) (fun h2 => fu_step (fu_if_lt_f rfl h2) ?_)
    · refine fu_go 2 (pc' := 45) (ls' := [.ref 0, .int a1, .int a2, am_U, am_U, am_U]) (st' := [.int (5 : Int32), .ref 0]) (s' := s) rfl ?_
      exact fu_leaf rfl ⟨.inr rfl, .inr rfl, .inr rfl, .inl rfl, .inl rfl, .inl rfl, trivial⟩
    · refine fu_go 2 (pc' := 7) (ls' := [.ref 0, .int a1, .int a2, am_U, am_U, am_U]) (st' := [.int (1 : Int32), .int a2, .ref 0]) (s' := s) rfl ?_
      refine fu_ite (fun h3 => fu_step (fu_ic_lt_t rfl h3) ?_) (fun h3 => fu_step (fu_ic_lt_f rfl h3) ?_)
      · refine fu_go 2 (pc' := 45) (ls' := [.ref 0, .int a1, .int a2, am_U, am_U, am_U]) (st' := [.int (5 : Int32), .ref 0]) (s' := s) rfl ?_
        exact fu_leaf rfl ⟨.inr rfl, .inr rfl, .inr rfl, .inl rfl, .inl rfl, .inl rfl, trivial⟩
      · refine fu_go 2 (pc' := 13) (ls' := [.ref 0, .int a1, .int a2, am_U, am_U, am_U]) (st' := [.int (20 : Int32), .int a2, .ref 0]) (s' := s) rfl ?_
        refine fu_ite (fun h4 => fu_step (fu_ic_gt_t rfl h4) ?_) (fun h4 => fu_step (fu_ic_gt_f rfl h4) ?_)
        · refine fu_go 4 (pc' := 22) (ls' := [.ref 0, .int a1, .int a2, am_U, am_U, am_U]) (st' := [.int ((10000 : Int32) - a2), .int a1, .ref 0]) (s' := s) rfl ?_
          refine fu_ite (fun h5 => fu_step (fu_ic_le_t rfl h5) ?_) (fun h5 => fu_step (fu_ic_le_f rfl h5) ?_)
          · refine fu_go 1 (pc' := 30) (ls' := [.ref 0, .int a1, .int a2, am_U, am_U, am_U]) (st' := [.ref 0, .ref 0]) (s' := s) rfl ?_
            refine fu_step (fu_getR rfl fc_0 rfl rfl) ?_
            refine fu_step (fu_cV rfl rfl rfl rfl rfl (fu_recv fc_24 am_at_X5_isThere rfl) (fu_eq (e_X5_isThere d (by omega) s 24 fc_is4_24) rfl)) ?_
            show fu_J _ _ (fc_X d (some .boolean) k_X11_mean 36 [.ref 0, .int a1, .int a2, am_U, am_U, am_U] [.int (fu_b (f_X5_isThere s 24)), .ref 0] s)
            refine fu_ite (fun h6 => fu_step (fu_ib_ne_t rfl h6) ?_) (fun h6 => fu_step (fu_ib_ne_f rfl h6) ?_)
            · refine fu_go 1 (pc' := 45) (ls' := [.ref 0, .int a1, .int a2, am_U, am_U, am_U]) (st' := [.int (0 : Int32), .ref 0]) (s' := s) rfl ?_
              exact fu_leaf rfl ⟨.inr rfl, .inr rfl, .inr rfl, .inl rfl, .inl rfl, .inl rfl, trivial⟩
            · refine fu_go 2 (pc' := 45) (ls' := [.ref 0, .int a1, .int a2, am_U, am_U, am_U]) (st' := [.int (8 : Int32), .ref 0]) (s' := s) rfl ?_
              exact fu_leaf rfl ⟨.inr rfl, .inr rfl, .inr rfl, .inl rfl, .inl rfl, .inl rfl, trivial⟩
          · refine fu_go 2 (pc' := 45) (ls' := [.ref 0, .int a1, .int a2, am_U, am_U, am_U]) (st' := [.int (5 : Int32), .ref 0]) (s' := s) rfl ?_
            exact fu_leaf rfl ⟨.inr rfl, .inr rfl, .inr rfl, .inl rfl, .inl rfl, .inl rfl, trivial⟩
        · refine fu_go 2 (pc' := 45) (ls' := [.ref 0, .int a1, .int a2, am_U, am_U, am_U]) (st' := [.int (5 : Int32), .ref 0]) (s' := s) rfl ?_
          exact fu_leaf rfl ⟨.inr rfl, .inr rfl, .inr rfl, .inl rfl, .inl rfl, .inl rfl, trivial⟩
  show fu_J _ _ (fc_X d (some .boolean) k_X11_mean 45 [.ref 0, .int a1, .int a2, am_U, am_U, am_U] [.int j1, .ref 0] s)
  refine fu_lets (b := (fu_pi s 0 15 j1)) (fu_putI rfl fc_0 rfl rfl) (fun s7 => ?_)
  refine fu_go 1 (pc' := 49) (ls' := [.ref 0, .int a1, .int a2, am_U, am_U, am_U]) (st' := [.ref 0]) (s' := s7) rfl ?_
  refine fu_step (fu_getI rfl fc_0 rfl rfl) ?_
  refine fu_ite (fun h8 => fu_step (fu_if_eq_t rfl h8) ?_) (fun h8 => fu_step (fu_if_eq_f rfl h8) ?_)
  · refine fu_go 4 (pc' := 62) (ls' := [.ref 0, .int a1, .int a2, .long (0 : Int64), am_U, .int (0 : Int32)]) (st' := []) (s' := s7) rfl ?_
    refine fu_drop (ls' := [.ref 0, .int a1, .int a2, .long (0 : Int64), am_U, .int (0 : Int32)]) ⟨.inr rfl, .inr rfl, .inr rfl, .inr rfl, .inl rfl, .inr rfl, trivial⟩ ?_
    refine fu_bind (el_X11_mean_62 d (by omega) fu_N s7 a1 a2 (0 : Int64) (0 : Int32)) (fun r13 => ?_)
    show fu_J _ _ (fc_X d (some .boolean) k_X11_mean 118 [.ref 0, am_U, .int a2, .long r13.1, am_U, am_U] [] r13.2)
    refine fu_go 4 (pc' := 122) (ls' := [.ref 0, am_U, .int a2, .long r13.1, am_U, am_U]) (st' := [.long (Int32.toInt64 a2), .long r13.1, .ref 0]) (s' := r13.2) rfl ?_
    refine fu_bind (fu_cVJ rfl rfl rfl rfl rfl (fu_recv fc_0 am_at_X11_tell rfl) (e_X11_tell d (by omega) r13.2 r13.1 (Int32.toInt64 a2))) (fun r14 => ?_)
    show fu_J _ _ (fc_X d (some .boolean) k_X11_mean 125 [.ref 0, am_U, .int a2, .long r13.1, am_U, am_U] [] r14)
    refine fu_go 1 (pc' := 126) (ls' := [.ref 0, am_U, .int a2, .long r13.1, am_U, am_U]) (st' := [.int (1 : Int32)]) (s' := r14) rfl ?_
    exact fu_bret (b := true) rfl rfl
  · refine fu_go 1 (pc' := 56) (ls' := [.ref 0, .int a1, .int a2, am_U, am_U, am_U]) (st' := [.int (0 : Int32)]) (s' := s7) rfl ?_
    exact fu_bret (b := false) rfl rfl
/-! X11_mark -/
set_option maxRecDepth 100000 in
theorem e_X11_mark (d : Nat) (hd : 2 ≤ d) (s : fu_S) : fu_J (f_X11_mark s) (fun r => some (some (.int r.1), r.2)) (am_D (fu_ho fc_sh) am_m d 231 [.ref 0] s) := by
  obtain ⟨d, rfl⟩ : ∃ e, d = e + 1 := ⟨d - 1, by omega⟩
  refine fu_enter (ls := [.ref 0]) am_at_X11_mark rfl rfl ?_
  show fu_J _ _ (fc_X d (some .int) k_X11_mark 0 [.ref 0] [] s)
  unfold f_X11_mark
  refine fu_go 2 (pc' := 2) (ls' := [.ref 0]) (st' := [.ref 0, .ref 0]) (s' := s) rfl ?_
  refine fu_step (fu_getI rfl fc_0 rfl rfl) ?_
  refine fu_go 1 (pc' := 6) (ls' := [.ref 0]) (st' := [.int (3 : Int32), .int (s.1 0 14), .ref 0]) (s' := s) rfl ?_
  refine fu_bind (V := fun j1 : Int32 => fc_X d (some .int) k_X11_mark 15 [.ref 0] [.int j1, .ref 0] s) ?_ (fun j1 => ?_)
  · refine fu_ite (fun h2 => fu_step (fu_ic_lt_t rfl h2) ?_) (fun h2 => fu_step (fu_ic_lt_f rfl h2) ?_)
    · refine fu_go 1 (pc' := 15) (ls' := [.ref 0]) (st' := [.int (0 : Int32), .ref 0]) (s' := s) rfl ?_
      exact fu_leaf rfl ⟨.inr rfl, trivial⟩
    · refine fu_go 2 (pc' := 15) (ls' := [.ref 0]) (st' := [.int (7 : Int32), .ref 0]) (s' := s) rfl ?_
      exact fu_leaf rfl ⟨.inr rfl, trivial⟩
  show fu_J _ _ (fc_X d (some .int) k_X11_mark 15 [.ref 0] [.int j1, .ref 0] s)
  refine fu_lets (b := (fu_pi s 0 15 j1)) (fu_putI rfl fc_0 rfl rfl) (fun s3 => ?_)
  refine fu_go 1 (pc' := 19) (ls' := [.ref 0]) (st' := [.ref 0]) (s' := s3) rfl ?_
  refine fu_step (fu_getI rfl fc_0 rfl rfl) ?_
  refine fu_ite (fun h4 => fu_step (fu_if_eq_t rfl h4) ?_) (fun h4 => fu_step (fu_if_eq_f rfl h4) ?_)
  · refine fu_go 1 (pc' := 28) (ls' := [.ref 0]) (st' := [.ref 0]) (s' := s3) rfl ?_
    refine fu_step (fu_getR rfl fc_0 rfl rfl) ?_
    refine fu_go 1 (pc' := 32) (ls' := [.ref 0]) (st' := [.ref 0, .ref 50]) (s' := s3) rfl ?_
    refine fu_step (fu_getI rfl fc_0 rfl rfl) ?_
    refine fu_guard (fun h5 => fu_step (fu_ldR3 rfl fc_50 h5) ?_)
    refine fu_go 1 (pc' := 37) (ls' := [.ref 0]) (st' := [.ref 0, .ref (fc_rr_50 (Int32.toNatClampNeg (s3.1 0 14)))]) (s' := s3) rfl ?_
    refine fu_step (fu_getR rfl fc_0 rfl rfl) ?_
    refine fu_let (fu_cVJ rfl rfl rfl rfl rfl (fu_recv (fc_rr_50_ok h5).1 am_at_X4_copyFrom rfl) (e_X4_copyFrom d (by omega) s3 (fc_rr_50 (Int32.toNatClampNeg (s3.1 0 14))) (fc_rr_50_ok h5) 11 fc_is3_11)) (fun r6 => ?_)
    show fu_J _ _ (fc_X d (some .int) k_X11_mark 43 [.ref 0] [] r6)
    refine fu_go 1 (pc' := 44) (ls' := [.ref 0]) (st' := [.ref 0]) (s' := r6) rfl ?_
    refine fu_step (fu_getR rfl fc_0 rfl rfl) ?_
    refine fu_go 1 (pc' := 48) (ls' := [.ref 0]) (st' := [.ref 0, .ref 90]) (s' := r6) rfl ?_
    refine fu_step (fu_getI rfl fc_0 rfl rfl) ?_
    refine fu_guard (fun h7 => fu_step (fu_ldR4 rfl fc_90 h7) ?_)
    refine fu_go 1 (pc' := 53) (ls' := [.ref 0]) (st' := [.ref 0, .ref (fc_rr_90 (Int32.toNatClampNeg (r6.1 0 14)))]) (s' := r6) rfl ?_
    refine fu_step (fu_getR rfl fc_0 rfl rfl) ?_
    refine fu_let (fu_cVJ rfl rfl rfl rfl rfl (fu_recv (fc_rr_90_ok h7).1 am_at_X5_copyFrom rfl) (e_X5_copyFrom d (by omega) r6 (fc_rr_90 (Int32.toNatClampNeg (r6.1 0 14))) (fc_rr_90_ok h7) 24 fc_is4_24)) (fun r8 => ?_)
    show fu_J _ _ (fc_X d (some .int) k_X11_mark 59 [.ref 0] [] r8)
    refine fu_go 2 (pc' := 61) (ls' := [.ref 0]) (st' := [.ref 0, .ref 0]) (s' := r8) rfl ?_
    refine fu_step (fu_getI rfl fc_0 rfl rfl) ?_
    refine fu_go 2 (pc' := 66) (ls' := [.ref 0]) (st' := [.int ((r8.1 0 14) + (1 : Int32)), .ref 0]) (s' := r8) rfl ?_
    refine fu_lets (b := (fu_pi r8 0 14 ((r8.1 0 14) + (1 : Int32)))) (fu_putI rfl fc_0 rfl rfl) (fun s9 => ?_)
    refine fu_go 1 (pc' := 70) (ls' := [.ref 0]) (st' := [.ref 0]) (s' := s9) rfl ?_
    refine fu_step (fu_getI rfl fc_0 rfl rfl) ?_
    exact fu_iret rfl rfl
  · refine fu_go 1 (pc' := 26) (ls' := [.ref 0]) (st' := [.int (-1 : Int32)]) (s' := s3) rfl ?_
    exact fu_iret rfl rfl
/-! X11_back -/
set_option maxRecDepth 100000 in
theorem e_X11_back (d : Nat) (hd : 2 ≤ d) (s : fu_S) : fu_J (f_X11_back s) (fun r => some (some (.int r.1), r.2)) (am_D (fu_ho fc_sh) am_m d 232 [.ref 0] s) := by
  obtain ⟨d, rfl⟩ : ∃ e, d = e + 1 := ⟨d - 1, by omega⟩
  refine fu_enter (ls := [.ref 0]) am_at_X11_back rfl rfl ?_
  show fu_J _ _ (fc_X d (some .int) k_X11_back 0 [.ref 0] [] s)
  unfold f_X11_back
  refine fu_go 2 (pc' := 2) (ls' := [.ref 0]) (st' := [.ref 0, .ref 0]) (s' := s) rfl ?_
  refine fu_step (fu_getI rfl fc_0 rfl rfl) ?_
  refine fu_bind (V := fun j1 : Int32 => fc_X d (some .int) k_X11_back 14 [.ref 0] [.int j1, .ref 0] s) ?_ (fun j1 => ?_)
  · refine fu_ite (fun h2 => fu_step (fu_if_gt_t rfl h2) ?_) (fun h2 => fu_step (fu_if_gt_f rfl h2) ?_)
    · refine fu_go 2 (pc' := 14) (ls' := [.ref 0]) (st' := [.int (8 : Int32), .ref 0]) (s' := s) rfl ?_
      exact fu_leaf rfl ⟨.inr rfl, trivial⟩
    · refine fu_go 1 (pc' := 14) (ls' := [.ref 0]) (st' := [.int (0 : Int32), .ref 0]) (s' := s) rfl ?_
      exact fu_leaf rfl ⟨.inr rfl, trivial⟩
  show fu_J _ _ (fc_X d (some .int) k_X11_back 14 [.ref 0] [.int j1, .ref 0] s)
  refine fu_lets (b := (fu_pi s 0 15 j1)) (fu_putI rfl fc_0 rfl rfl) (fun s3 => ?_)
  refine fu_go 1 (pc' := 18) (ls' := [.ref 0]) (st' := [.ref 0]) (s' := s3) rfl ?_
  refine fu_step (fu_getI rfl fc_0 rfl rfl) ?_
  refine fu_ite (fun h4 => fu_step (fu_if_eq_t rfl h4) ?_) (fun h4 => fu_step (fu_if_eq_f rfl h4) ?_)
  · refine fu_go 2 (pc' := 28) (ls' := [.ref 0]) (st' := [.ref 0, .ref 0]) (s' := s3) rfl ?_
    refine fu_step (fu_getI rfl fc_0 rfl rfl) ?_
    refine fu_go 2 (pc' := 33) (ls' := [.ref 0]) (st' := [.int ((s3.1 0 14) - (1 : Int32)), .ref 0]) (s' := s3) rfl ?_
    refine fu_lets (b := (fu_pi s3 0 14 ((s3.1 0 14) - (1 : Int32)))) (fu_putI rfl fc_0 rfl rfl) (fun s5 => ?_)
    refine fu_go 1 (pc' := 37) (ls' := [.ref 0]) (st' := [.ref 0]) (s' := s5) rfl ?_
    refine fu_step (fu_getR rfl fc_0 rfl rfl) ?_
    refine fu_go 1 (pc' := 41) (ls' := [.ref 0]) (st' := [.ref 0, .ref 11]) (s' := s5) rfl ?_
    refine fu_step (fu_getR rfl fc_0 rfl rfl) ?_
    refine fu_go 1 (pc' := 45) (ls' := [.ref 0]) (st' := [.ref 0, .ref 50, .ref 11]) (s' := s5) rfl ?_
    refine fu_step (fu_getI rfl fc_0 rfl rfl) ?_
    refine fu_guard (fun h6 => fu_step (fu_ldR3 rfl fc_50 h6) ?_)
    refine fu_let (fu_cVJ rfl rfl rfl rfl rfl (fu_recv fc_11 am_at_X4_copyFrom rfl) (e_X4_copyFrom d (by omega) s5 11 fc_is3_11 (fc_rr_50 (Int32.toNatClampNeg (s5.1 0 14))) (fc_rr_50_ok h6))) (fun r7 => ?_)
    show fu_J _ _ (fc_X d (some .int) k_X11_back 52 [.ref 0] [] r7)
    refine fu_go 1 (pc' := 53) (ls' := [.ref 0]) (st' := [.ref 0]) (s' := r7) rfl ?_
    refine fu_step (fu_getR rfl fc_0 rfl rfl) ?_
    refine fu_go 1 (pc' := 57) (ls' := [.ref 0]) (st' := [.ref 0, .ref 24]) (s' := r7) rfl ?_
    refine fu_step (fu_getR rfl fc_0 rfl rfl) ?_
    refine fu_go 1 (pc' := 61) (ls' := [.ref 0]) (st' := [.ref 0, .ref 90, .ref 24]) (s' := r7) rfl ?_
    refine fu_step (fu_getI rfl fc_0 rfl rfl) ?_
    refine fu_guard (fun h8 => fu_step (fu_ldR4 rfl fc_90 h8) ?_)
    refine fu_let (fu_cVJ rfl rfl rfl rfl rfl (fu_recv fc_24 am_at_X5_copyFrom rfl) (e_X5_copyFrom d (by omega) r7 24 fc_is4_24 (fc_rr_90 (Int32.toNatClampNeg (r7.1 0 14))) (fc_rr_90_ok h8))) (fun r9 => ?_)
    show fu_J _ _ (fc_X d (some .int) k_X11_back 68 [.ref 0] [] r9)
    refine fu_go 1 (pc' := 69) (ls' := [.ref 0]) (st' := [.ref 0]) (s' := r9) rfl ?_
    refine fu_step (fu_getI rfl fc_0 rfl rfl) ?_
    exact fu_iret rfl rfl
  · refine fu_go 1 (pc' := 25) (ls' := [.ref 0]) (st' := [.int (-1 : Int32)]) (s' := s3) rfl ?_
    exact fu_iret rfl rfl
