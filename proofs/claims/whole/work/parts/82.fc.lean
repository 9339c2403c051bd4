/-! printed by wip/whole/lift/lift.py: the small machine comes to what the functions answer -/
/-! X11_coupleStatus -/
set_option maxRecDepth 100000 in
theorem e_X11_coupleStatus (d : Nat) (hd : 2 ≤ d) (s : fu_S) (a1 : Int32) (a2 : Int32) : fu_J (some (f_X11_coupleStatus s a1 a2)) (fun r => some (some (.int r), s)) (am_D (fu_ho fc_sh) am_m d 196 [.ref 0, .int a1, .int a2] s) := by
  obtain ⟨d, rfl⟩ : ∃ e, d = e + 1 := ⟨d - 1, by omega⟩
  refine fu_enter (ls := [.ref 0, .int a1, .int a2]) am_at_X11_coupleStatus rfl rfl ?_
  show fu_J _ _ (fc_X d (some .int) k_X11_coupleStatus 0 [.ref 0, .int a1, .int a2] [] s)
  unfold f_X11_coupleStatus
  refine fu_go 1 (pc' := 1) (ls' := [.ref 0, .int a1, .int a2]) (st' := [.ref 0]) (s' := s) rfl ?_
  refine fu_step (fu_getR rfl fc_0 rfl rfl) ?_
  refine fu_go 1 (pc' := 5) (ls' := [.ref 0, .int a1, .int a2]) (st' := [.int a1, .ref 11]) (s' := s) rfl ?_
  refine fu_step (fu_cV rfl rfl rfl rfl rfl (fu_recv fc_11 am_at_X4_hasPerson rfl) (fu_eq (e_X4_hasPerson d (by omega) s 11 fc_is3_11 a1) rfl)) ?_
  show fu_J _ _ (fc_X d (some .int) k_X11_coupleStatus 8 [.ref 0, .int a1, .int a2] [.int (fu_b (f_X4_hasPerson s 11 a1))] s)
  refine fu_letS (V := fun j1 : Int32 => fc_X d (some .int) k_X11_coupleStatus 27 [am_U, am_U, am_U] [.int j1] s) ?_ (fun j1 => ?_)
  · refine fu_iteS (fun h2 => fu_step (fu_ib_eq_t rfl h2) ?_) (fun h2 => fu_step (fu_ib_eq_f rfl h2) ?_)
    · refine fu_go 1 (pc' := 12) (ls' := [.ref 0, .int a1, .int a2]) (st' := [.ref 0]) (s' := s) rfl ?_
      refine fu_step (fu_getR rfl fc_0 rfl rfl) ?_
      refine fu_go 1 (pc' := 16) (ls' := [.ref 0, .int a1, .int a2]) (st' := [.int a2, .ref 11]) (s' := s) rfl ?_
      refine fu_step (fu_cV rfl rfl rfl rfl rfl (fu_recv fc_11 am_at_X4_hasPerson rfl) (fu_eq (e_X4_hasPerson d (by omega) s 11 fc_is3_11 a2) rfl)) ?_
      show fu_J _ _ (fc_X d (some .int) k_X11_coupleStatus 19 [.ref 0, .int a1, .int a2] [.int (fu_b (f_X4_hasPerson s 11 a2))] s)
      refine fu_iteS (fun h3 => fu_step (fu_ib_eq_t rfl h3) ?_) (fun h3 => fu_step (fu_ib_eq_f rfl h3) ?_)
      · refine fu_go 2 (pc' := 27) (ls' := [.ref 0, .int a1, .int a2]) (st' := [.int (0 : Int32)]) (s' := s) rfl ?_
        exact fu_leaf rfl ⟨.inl rfl, .inl rfl, .inl rfl, trivial⟩
      · refine fu_go 1 (pc' := 27) (ls' := [.ref 0, .int a1, .int a2]) (st' := [.int (2 : Int32)]) (s' := s) rfl ?_
        exact fu_leaf rfl ⟨.inl rfl, .inl rfl, .inl rfl, trivial⟩
    · refine fu_go 1 (pc' := 27) (ls' := [.ref 0, .int a1, .int a2]) (st' := [.int (2 : Int32)]) (s' := s) rfl ?_
      exact fu_leaf rfl ⟨.inl rfl, .inl rfl, .inl rfl, trivial⟩
  show fu_J _ _ (fc_X d (some .int) k_X11_coupleStatus 27 [am_U, am_U, am_U] [.int j1] s)
  exact fu_iret rfl rfl
/-! X11_far -/
set_option maxRecDepth 100000 in
theorem e_X11_far (d : Nat) (hd : 3 ≤ d) (s : fu_S) (a1 : Int32) (a2 : Int32) : fu_J (f_X11_far s a1 a2) (fun r => some (some (.int r.1), r.2)) (am_D (fu_ho fc_sh) am_m d 195 [.ref 0, .int a1, .int a2] s) := by
  obtain ⟨d, rfl⟩ : ∃ e, d = e + 1 := ⟨d - 1, by omega⟩
  refine fu_enter (ls := [.ref 0, .int a1, .int a2]) am_at_X11_far rfl rfl ?_
  show fu_J _ _ (fc_X d (some .int) k_X11_far 0 [.ref 0, .int a1, .int a2] [] s)
  unfold f_X11_far
  refine fu_go 4 (pc' := 4) (ls' := [.ref 0, .int a1, .int a2]) (st' := [.int a2, .int a1, .ref 0, .ref 0]) (s' := s) rfl ?_
  refine fu_step (fu_cV rfl rfl rfl rfl rfl (fu_recv fc_0 am_at_X11_coupleStatus rfl) (fu_eq (e_X11_coupleStatus d (by omega) s a1 a2) rfl)) ?_
  show fu_J _ _ (fc_X d (some .int) k_X11_far 7 [.ref 0, .int a1, .int a2] [.int (f_X11_coupleStatus s a1 a2), .ref 0] s)
  refine fu_lets (b := (fu_pi s 0 15 (f_X11_coupleStatus s a1 a2))) (fu_putI rfl fc_0 rfl rfl) (fun s1 => ?_)
  refine fu_go 1 (pc' := 11) (ls' := [.ref 0, .int a1, .int a2]) (st' := [.ref 0]) (s' := s1) rfl ?_
  refine fu_step (fu_getI rfl fc_0 rfl rfl) ?_
  refine fu_bind (V := fun j2 : Int32 => fc_X d (some .int) k_X11_far 30 [am_U, am_U, am_U] [.int j2] s1) ?_ (fun j2 => ?_)
  · refine fu_ite (fun h3 => fu_step (fu_if_ne_t rfl h3) ?_) (fun h3 => fu_step (fu_if_ne_f rfl h3) ?_)
    · refine fu_go 1 (pc' := 18) (ls' := [.ref 0, .int a1, .int a2]) (st' := [.ref 0]) (s' := s1) rfl ?_
      refine fu_step (fu_getR rfl fc_0 rfl rfl) ?_
      refine fu_go 2 (pc' := 23) (ls' := [.ref 0, .int a1, .int a2]) (st' := [.int a2, .int a1, .ref 11]) (s' := s1) rfl ?_
      refine fu_bind (fu_cVJ rfl rfl rfl rfl rfl (fu_recv fc_11 am_at_X4_apart rfl) (e_X4_apart d (by omega) s1 11 fc_is3_11 a1 a2)) (fun r4 => ?_)
      show fu_J _ _ (fc_X d (some .int) k_X11_far 26 [.ref 0, .int a1, .int a2] [.int r4] s1)
      refine fu_go 1 (pc' := 30) (ls' := [.ref 0, .int a1, .int a2]) (st' := [.int r4]) (s' := s1) rfl ?_
      exact fu_leaf rfl ⟨.inl rfl, .inl rfl, .inl rfl, trivial⟩
    · refine fu_go 1 (pc' := 30) (ls' := [.ref 0, .int a1, .int a2]) (st' := [.int (-1 : Int32)]) (s' := s1) rfl ?_
      exact fu_leaf rfl ⟨.inl rfl, .inl rfl, .inl rfl, trivial⟩
  show fu_J _ _ (fc_X d (some .int) k_X11_far 30 [am_U, am_U, am_U] [.int j2] s1)
  exact fu_iret rfl rfl
/-! X11_copyHomes -/
theorem el_X11_copyHomes_71 (d : Nat) (hd : 4 ≤ d) : ∀ (n : Nat) (s : fu_S) (x1 : Int32) (x2 : Int32) (x3 : Int32), fu_J (l_X11_copyHomes_71 n s x1 x2 x3) (fun r => fc_X d (some .int) k_X11_copyHomes 100 [am_U, am_U, .int x2, am_U] [] r) (fc_X d (some .int) k_X11_copyHomes 71 [.ref 0, .int x1, .int x2, .int x3] [] s) := by
  intro n
  induction n with
  | zero => intros; exact fu_none
  | succ n ih =>
    intro s x1 x2 x3
    rw [l_X11_copyHomes_71]
    refine fu_go 2 (pc' := 73) (ls' := [.ref 0, .int x1, .int x2, .int x3]) (st' := [.int x2, .int x3]) (s' := s) rfl ?_
    refine fu_ite (fun h9 => fu_step (fu_ic_ge_t rfl h9) ?_) (fun h9 => fu_step (fu_ic_ge_f rfl h9) ?_)
    · refine fu_go 1 (pc' := 77) (ls' := [.ref 0, .int x1, .int x2, .int x3]) (st' := [.ref 0]) (s' := s) rfl ?_
      refine fu_step (fu_getR rfl fc_0 rfl rfl) ?_
      refine fu_go 3 (pc' := 83) (ls' := [.ref 0, .int x1, .int x2, .int x3]) (st' := [.ref 0, .int x3, .int x1, .ref 1]) (s' := s) rfl ?_
      refine fu_step (fu_getR rfl fc_0 rfl rfl) ?_
      refine fu_go 1 (pc' := 87) (ls' := [.ref 0, .int x1, .int x2, .int x3]) (st' := [.int x3, .ref 11, .int x3, .int x1, .ref 1]) (s' := s) rfl ?_
      refine fu_bind (fu_cVJ rfl rfl rfl rfl rfl (fu_recv fc_11 am_at_X4_homeOf rfl) (e_X4_homeOf d (by omega) s 11 fc_is3_11 x3)) (fun r10 => ?_)
      show fu_J _ _ (fc_X d (some .int) k_X11_copyHomes 90 [.ref 0, .int x1, .int x2, .int x3] [.int r10, .int x3, .int x1, .ref 1] s)
      refine fu_go 1 (pc' := 91) (ls' := [.ref 0, .int x1, .int x2, .int x3]) (st' := [.long (Int32.toInt64 r10), .int x3, .int x1, .ref 1]) (s' := s) rfl ?_
      refine fu_bind (fu_cVJ rfl rfl rfl rfl rfl (fu_recv fc_1 am_at_X7_put rfl) (e_X7_put d (by omega) s x1 x3 (Int32.toInt64 r10))) (fun r11 => ?_)
      show fu_J _ _ (fc_X d (some .int) k_X11_copyHomes 94 [.ref 0, .int x1, .int x2, .int x3] [] r11)
      refine fu_go 2 (pc' := 71) (ls' := [.ref 0, .int x1, .int x2, .int (x3 + (1 : Int32))]) (st' := []) (s' := r11) rfl ?_
      exact fu_drop (ls' := [.ref 0, .int x1, .int x2, .int (x3 + (1 : Int32))]) ⟨.inr rfl, .inr rfl, .inr rfl, .inr rfl, trivial⟩ (ih r11 x1 x2 (x3 + (1 : Int32)))
    · exact fu_leaf rfl ⟨.inl rfl, .inl rfl, .inr rfl, .inl rfl, trivial⟩
set_option maxRecDepth 100000 in
theorem e_X11_copyHomes (d : Nat) (hd : 5 ≤ d) (s : fu_S) (a1 : Int32) : fu_J (f_X11_copyHomes s a1) (fun r => some (some (.int r.1), r.2)) (am_D (fu_ho fc_sh) am_m d 197 [.ref 0, .int a1] s) := by
  obtain ⟨d, rfl⟩ : ∃ e, d = e + 1 := ⟨d - 1, by omega⟩
  refine fu_enter (ls := [.ref 0, .int a1, am_U, am_U]) am_at_X11_copyHomes rfl rfl ?_
  show fu_J _ _ (fc_X d (some .int) k_X11_copyHomes 0 [.ref 0, .int a1, am_U, am_U] [] s)
  unfold f_X11_copyHomes
  refine fu_go 1 (pc' := 1) (ls' := [.ref 0, .int a1, am_U, am_U]) (st' := [.ref 0]) (s' := s) rfl ?_
  refine fu_step (fu_getR rfl fc_0 rfl rfl) ?_
  refine fu_step (fu_cV rfl rfl rfl rfl rfl (fu_recv fc_11 am_at_X4_people rfl) (fu_eq (e_X4_people d (by omega) s 11 fc_is3_11) rfl)) ?_
  show fu_J _ _ (fc_X d (some .int) k_X11_copyHomes 7 [.ref 0, .int a1, am_U, am_U] [.int (f_X4_people s 11)] s)
  refine fu_go 3 (pc' := 10) (ls' := [.ref 0, .int a1, .int (f_X4_people s 11), am_U]) (st' := [.ref 0, .ref 0]) (s' := s) rfl ?_
  refine fu_step (fu_getR rfl fc_0 rfl rfl) ?_
  refine fu_go 1 (pc' := 14) (ls' := [.ref 0, .int a1, .int (f_X4_people s 11), am_U]) (st' := [.int a1, .ref 1, .ref 0]) (s' := s) rfl ?_
  refine fu_step (fu_cV rfl rfl rfl rfl rfl (fu_recv fc_1 am_at_X7_isTray rfl) (fu_eq (e_X7_isTray d (by omega) s a1) rfl)) ?_
  show fu_J _ _ (fc_X d (some .int) k_X11_copyHomes 17 [.ref 0, .int a1, .int (f_X4_people s 11), am_U] [.int (fu_b (f_X7_isTray a1)), .ref 0] s)
  refine fu_bind (V := fun j1 : Int32 => fc_X d (some .int) k_X11_copyHomes 57 [.ref 0, .int a1, .int (f_X4_people s 11), am_U] [.int j1, .ref 0] s) ?_ (fun j1 => ?_)
  · refine fu_ite (fun h2 => fu_step (fu_ib_ne_t rfl h2) ?_) (fun h2 => fu_step (fu_ib_ne_f rfl h2) ?_)
    · refine fu_go 1 (pc' := 25) (ls' := [.ref 0, .int a1, .int (f_X4_people s 11), am_U]) (st' := [.ref 0, .ref 0]) (s' := s) rfl ?_
      refine fu_step (fu_getR rfl fc_0 rfl rfl) ?_
      refine fu_go 1 (pc' := 29) (ls' := [.ref 0, .int a1, .int (f_X4_people s 11), am_U]) (st' := [.int a1, .ref 1, .ref 0]) (s' := s) rfl ?_
      refine fu_bind (fu_cVJ rfl rfl rfl rfl rfl (fu_recv fc_1 am_at_X7_isThere rfl) (e_X7_isThere d (by omega) s a1)) (fun r3 => ?_)
      show fu_J _ _ (fc_X d (some .int) k_X11_copyHomes 32 [.ref 0, .int a1, .int (f_X4_people s 11), am_U] [.int (fu_b r3), .ref 0] s)
      refine fu_ite (fun h4 => fu_step (fu_ib_ne_t rfl h4) ?_) (fun h4 => fu_step (fu_ib_ne_f rfl h4) ?_)
      · refine fu_go 1 (pc' := 40) (ls' := [.ref 0, .int a1, .int (f_X4_people s 11), am_U]) (st' := [.ref 0, .ref 0]) (s' := s) rfl ?_
        refine fu_step (fu_getR rfl fc_0 rfl rfl) ?_
        refine fu_go 3 (pc' := 46) (ls' := [.ref 0, .int a1, .int (f_X4_people s 11), am_U]) (st' := [.int (f_X4_people s 11), .int (0 : Int32), .int a1, .ref 1, .ref 0]) (s' := s) rfl ?_
        refine fu_bind (fu_cVJ rfl rfl rfl rfl rfl (fu_recv fc_1 am_at_X7_hasPlaces rfl) (e_X7_hasPlaces d (by omega) s a1 (0 : Int32) (f_X4_people s 11))) (fun r5 => ?_)
        show fu_J _ _ (fc_X d (some .int) k_X11_copyHomes 49 [.ref 0, .int a1, .int (f_X4_people s 11), am_U] [.int (fu_b r5), .ref 0] s)
        refine fu_ite (fun h6 => fu_step (fu_ib_ne_t rfl h6) ?_) (fun h6 => fu_step (fu_ib_ne_f rfl h6) ?_)
        · refine fu_go 1 (pc' := 57) (ls' := [.ref 0, .int a1, .int (f_X4_people s 11), am_U]) (st' := [.int (0 : Int32), .ref 0]) (s' := s) rfl ?_
          exact fu_leaf rfl ⟨.inr rfl, .inr rfl, .inr rfl, .inl rfl, trivial⟩
        · refine fu_go 2 (pc' := 57) (ls' := [.ref 0, .int a1, .int (f_X4_people s 11), am_U]) (st' := [.int (4 : Int32), .ref 0]) (s' := s) rfl ?_
          exact fu_leaf rfl ⟨.inr rfl, .inr rfl, .inr rfl, .inl rfl, trivial⟩
      · refine fu_go 2 (pc' := 57) (ls' := [.ref 0, .int a1, .int (f_X4_people s 11), am_U]) (st' := [.int (3 : Int32), .ref 0]) (s' := s) rfl ?_
        exact fu_leaf rfl ⟨.inr rfl, .inr rfl, .inr rfl, .inl rfl, trivial⟩
    · refine fu_go 2 (pc' := 57) (ls' := [.ref 0, .int a1, .int (f_X4_people s 11), am_U]) (st' := [.int (1 : Int32), .ref 0]) (s' := s) rfl ?_
      exact fu_leaf rfl ⟨.inr rfl, .inr rfl, .inr rfl, .inl rfl, trivial⟩
  show fu_J _ _ (fc_X d (some .int) k_X11_copyHomes 57 [.ref 0, .int a1, .int (f_X4_people s 11), am_U] [.int j1, .ref 0] s)
  refine fu_lets (b := (fu_pi s 0 15 j1)) (fu_putI rfl fc_0 rfl rfl) (fun s7 => ?_)
  refine fu_go 1 (pc' := 61) (ls' := [.ref 0, .int a1, .int (f_X4_people s 11), am_U]) (st' := [.ref 0]) (s' := s7) rfl ?_
  refine fu_step (fu_getI rfl fc_0 rfl rfl) ?_
  refine fu_ite (fun h8 => fu_step (fu_if_eq_t rfl h8) ?_) (fun h8 => fu_step (fu_if_eq_f rfl h8) ?_)
  · refine fu_go 2 (pc' := 71) (ls' := [.ref 0, .int a1, .int (f_X4_people s 11), .int (0 : Int32)]) (st' := []) (s' := s7) rfl ?_
    refine fu_drop (ls' := [.ref 0, .int a1, .int (f_X4_people s 11), .int (0 : Int32)]) ⟨.inr rfl, .inr rfl, .inr rfl, .inr rfl, trivial⟩ ?_
    refine fu_bind (el_X11_copyHomes_71 d (by omega) fu_N s7 a1 (f_X4_people s 11) (0 : Int32)) (fun r12 => ?_)
    show fu_J _ _ (fc_X d (some .int) k_X11_copyHomes 100 [am_U, am_U, .int (f_X4_people s 11), am_U] [] r12)
    refine fu_go 1 (pc' := 101) (ls' := [am_U, am_U, .int (f_X4_people s 11), am_U]) (st' := [.int (f_X4_people s 11)]) (s' := r12) rfl ?_
    exact fu_iret rfl rfl
  · refine fu_go 1 (pc' := 68) (ls' := [.ref 0, .int a1, .int (f_X4_people s 11), am_U]) (st' := [.int (-1 : Int32)]) (s' := s7) rfl ?_
    exact fu_iret rfl rfl
/-! X11_lose -/
set_option maxRecDepth 100000 in
theorem e_X11_lose (d : Nat) (hd : 2 ≤ d) (s : fu_S) (a1 : Int32) (a2 : Int32) (a3 : Int32) : fu_J (f_X11_lose s a1 a2 a3) (fun r => some (some (.int r.1), r.2)) (am_D (fu_ho fc_sh) am_m d 198 [.ref 0, .int a1, .int a2, .int a3] s) := by
  obtain ⟨d, rfl⟩ : ∃ e, d = e + 1 := ⟨d - 1, by omega⟩
  refine fu_enter (ls := [.ref 0, .int a1, .int a2, .int a3]) am_at_X11_lose rfl rfl ?_
  show fu_J _ _ (fc_X d (some .int) k_X11_lose 0 [.ref 0, .int a1, .int a2, .int a3] [] s)
  unfold f_X11_lose
  refine fu_go 2 (pc' := 2) (ls' := [.ref 0, .int a1, .int a2, .int a3]) (st' := [.ref 0, .ref 0]) (s' := s) rfl ?_
  refine fu_step (fu_getR rfl fc_0 rfl rfl) ?_
  refine fu_go 1 (pc' := 6) (ls' := [.ref 0, .int a1, .int a2, .int a3]) (st' := [.int a1, .ref 11, .ref 0]) (s' := s) rfl ?_
  refine fu_step (fu_cV rfl rfl rfl rfl rfl (fu_recv fc_11 am_at_X4_hasPerson rfl) (fu_eq (e_X4_hasPerson d (by omega) s 11 fc_is3_11 a1) rfl)) ?_
  show fu_J _ _ (fc_X d (some .int) k_X11_lose 9 [.ref 0, .int a1, .int a2, .int a3] [.int (fu_b (f_X4_hasPerson s 11 a1)), .ref 0] s)
  refine fu_bind (V := fun j1 : Int32 => fc_X d (some .int) k_X11_lose 60 [.ref 0, .int a1, .int a2, .int a3] [.int j1, .ref 0] s) ?_ (fun j1 => ?_)
  · refine fu_ite (fun h2 => fu_step (fu_ib_eq_t rfl h2) ?_) (fun h2 => fu_step (fu_ib_eq_f rfl h2) ?_)
    · refine fu_go 1 (pc' := 13) (ls' := [.ref 0, .int a1, .int a2, .int a3]) (st' := [.ref 0, .ref 0]) (s' := s) rfl ?_
      refine fu_step (fu_getR rfl fc_0 rfl rfl) ?_
      refine fu_go 1 (pc' := 17) (ls' := [.ref 0, .int a1, .int a2, .int a3]) (st' := [.int a2, .ref 11, .ref 0]) (s' := s) rfl ?_
      refine fu_step (fu_cV rfl rfl rfl rfl rfl (fu_recv fc_11 am_at_X4_hasKind rfl) (fu_eq (e_X4_hasKind d (by omega) s 11 fc_is3_11 a2) rfl)) ?_
      show fu_J _ _ (fc_X d (some .int) k_X11_lose 20 [.ref 0, .int a1, .int a2, .int a3] [.int (fu_b (f_X4_hasKind s 11 a2)), .ref 0] s)
      refine fu_ite (fun h3 => fu_step (fu_ib_ne_t rfl h3) ?_) (fun h3 => fu_step (fu_ib_ne_f rfl h3) ?_)
      · refine fu_go 2 (pc' := 29) (ls' := [.ref 0, .int a1, .int a2, .int a3]) (st' := [.int (1 : Int32), .int a3, .ref 0]) (s' := s) rfl ?_
        refine fu_ite (fun h4 => fu_step (fu_ic_lt_t rfl h4) ?_) (fun h4 => fu_step (fu_ic_lt_f rfl h4) ?_)
        · refine fu_go 2 (pc' := 60) (ls' := [.ref 0, .int a1, .int a2, .int a3]) (st' := [.int (5 : Int32), .ref 0]) (s' := s) rfl ?_
          exact fu_leaf rfl ⟨.inr rfl, .inr rfl, .inr rfl, .inr rfl, trivial⟩
        · refine fu_go 2 (pc' := 35) (ls' := [.ref 0, .int a1, .int a2, .int a3]) (st' := [.int (9 : Int32), .int a3, .ref 0]) (s' := s) rfl ?_
          refine fu_ite (fun h5 => fu_step (fu_ic_le_t rfl h5) ?_) (fun h5 => fu_step (fu_ic_le_f rfl h5) ?_)
          · refine fu_go 1 (pc' := 43) (ls' := [.ref 0, .int a1, .int a2, .int a3]) (st' := [.ref 0, .ref 0]) (s' := s) rfl ?_
            refine fu_step (fu_getR rfl fc_0 rfl rfl) ?_
            refine fu_step (fu_cV rfl rfl rfl rfl rfl (fu_recv fc_11 am_at_X4_things rfl) (fu_eq (e_X4_things d (by omega) s 11 fc_is3_11) rfl)) ?_
            show fu_J _ _ (fc_X d (some .int) k_X11_lose 49 [.ref 0, .int a1, .int a2, .int a3] [.int (f_X4_things s 11), .ref 0] s)
            refine fu_go 1 (pc' := 51) (ls' := [.ref 0, .int a1, .int a2, .int a3]) (st' := [.int (8 : Int32), .int (f_X4_things s 11), .ref 0]) (s' := s) rfl ?_
            refine fu_ite (fun h6 => fu_step (fu_ic_lt_t rfl h6) ?_) (fun h6 => fu_step (fu_ic_lt_f rfl h6) ?_)
            · refine fu_go 1 (pc' := 60) (ls' := [.ref 0, .int a1, .int a2, .int a3]) (st' := [.int (0 : Int32), .ref 0]) (s' := s) rfl ?_
              exact fu_leaf rfl ⟨.inr rfl, .inr rfl, .inr rfl, .inr rfl, trivial⟩
            · refine fu_go 2 (pc' := 60) (ls' := [.ref 0, .int a1, .int a2, .int a3]) (st' := [.int (7 : Int32), .ref 0]) (s' := s) rfl ?_
              exact fu_leaf rfl ⟨.inr rfl, .inr rfl, .inr rfl, .inr rfl, trivial⟩
          · refine fu_go 2 (pc' := 60) (ls' := [.ref 0, .int a1, .int a2, .int a3]) (st' := [.int (5 : Int32), .ref 0]) (s' := s) rfl ?_
            exact fu_leaf rfl ⟨.inr rfl, .inr rfl, .inr rfl, .inr rfl, trivial⟩
      · refine fu_go 2 (pc' := 60) (ls' := [.ref 0, .int a1, .int a2, .int a3]) (st' := [.int (2 : Int32), .ref 0]) (s' := s) rfl ?_
        exact fu_leaf rfl ⟨.inr rfl, .inr rfl, .inr rfl, .inr rfl, trivial⟩
    · refine fu_go 2 (pc' := 60) (ls' := [.ref 0, .int a1, .int a2, .int a3]) (st' := [.int (2 : Int32), .ref 0]) (s' := s) rfl ?_
      exact fu_leaf rfl ⟨.inr rfl, .inr rfl, .inr rfl, .inr rfl, trivial⟩
  show fu_J _ _ (fc_X d (some .int) k_X11_lose 60 [.ref 0, .int a1, .int a2, .int a3] [.int j1, .ref 0] s)
  refine fu_lets (b := (fu_pi s 0 15 j1)) (fu_putI rfl fc_0 rfl rfl) (fun s7 => ?_)
  refine fu_go 1 (pc' := 64) (ls' := [.ref 0, .int a1, .int a2, .int a3]) (st' := [.ref 0]) (s' := s7) rfl ?_
  refine fu_step (fu_getI rfl fc_0 rfl rfl) ?_
  refine fu_bind (V := fun j8 : Int32 × fu_S => fc_X d (some .int) k_X11_lose 84 [am_U, am_U, am_U, am_U] [.int j8.1] j8.2) ?_ (fun j8 => ?_)
  · refine fu_ite (fun h9 => fu_step (fu_if_ne_t rfl h9) ?_) (fun h9 => fu_step (fu_if_ne_f rfl h9) ?_)
    · refine fu_go 1 (pc' := 71) (ls' := [.ref 0, .int a1, .int a2, .int a3]) (st' := [.ref 0]) (s' := s7) rfl ?_
      refine fu_step (fu_getR rfl fc_0 rfl rfl) ?_
      refine fu_go 3 (pc' := 77) (ls' := [.ref 0, .int a1, .int a2, .int a3]) (st' := [.int a3, .int a2, .int a1, .ref 11]) (s' := s7) rfl ?_
      refine fu_bind (fu_cVJ rfl rfl rfl rfl rfl (fu_recv fc_11 am_at_X4_addThing rfl) (e_X4_addThing d (by omega) s7 11 fc_is3_11 a1 a2 a3)) (fun r10 => ?_)
      show fu_J _ _ (fc_X d (some .int) k_X11_lose 80 [.ref 0, .int a1, .int a2, .int a3] [.int r10.1] r10.2)
      refine fu_go 1 (pc' := 84) (ls' := [.ref 0, .int a1, .int a2, .int a3]) (st' := [.int r10.1]) (s' := r10.2) rfl ?_
      exact fu_leaf rfl ⟨.inl rfl, .inl rfl, .inl rfl, .inl rfl, trivial⟩
    · refine fu_go 1 (pc' := 84) (ls' := [.ref 0, .int a1, .int a2, .int a3]) (st' := [.int (-1 : Int32)]) (s' := s7) rfl ?_
      exact fu_leaf rfl ⟨.inl rfl, .inl rfl, .inl rfl, .inl rfl, trivial⟩
  show fu_J _ _ (fc_X d (some .int) k_X11_lose 84 [am_U, am_U, am_U, am_U] [.int j8.1] j8.2)
  exact fu_iret rfl rfl
/-! X11_pass -/
set_option maxRecDepth 100000 in
theorem e_X11_pass (d : Nat) (hd : 4 ≤ d) (s : fu_S) (a1 : Int32) : fu_J (f_X11_pass s a1) (fun r => some (some (.int r.1), r.2)) (am_D (fu_ho fc_sh) am_m d 199 [.ref 0, .int a1] s) := by
  obtain ⟨d, rfl⟩ : ∃ e, d = e + 1 := ⟨d - 1, by omega⟩
  refine fu_enter (ls := [.ref 0, .int a1]) am_at_X11_pass rfl rfl ?_
  show fu_J _ _ (fc_X d (some .int) k_X11_pass 0 [.ref 0, .int a1] [] s)
  unfold f_X11_pass
  refine fu_go 3 (pc' := 3) (ls' := [.ref 0, .int a1]) (st' := [.int (1 : Int32), .int a1, .ref 0]) (s' := s) rfl ?_
  refine fu_bind (V := fun j1 : Int32 => fc_X d (some .int) k_X11_pass 34 [.ref 0, .int a1] [.int j1, .ref 0] s) ?_ (fun j1 => ?_)
  · refine fu_ite (fun h2 => fu_step (fu_ic_lt_t rfl h2) ?_) (fun h2 => fu_step (fu_ic_lt_f rfl h2) ?_)
    · refine fu_go 2 (pc' := 34) (ls' := [.ref 0, .int a1]) (st' := [.int (5 : Int32), .ref 0]) (s' := s) rfl ?_
      exact fu_leaf rfl ⟨.inr rfl, .inr rfl, trivial⟩
    · refine fu_go 2 (pc' := 10) (ls' := [.ref 0, .int a1]) (st' := [.int (999 : Int32), .int a1, .ref 0]) (s' := s) rfl ?_
      refine fu_ite (fun h3 => fu_step (fu_ic_le_t rfl h3) ?_) (fun h3 => fu_step (fu_ic_le_f rfl h3) ?_)
      · refine fu_go 1 (pc' := 18) (ls' := [.ref 0, .int a1]) (st' := [.ref 0, .ref 0]) (s' := s) rfl ?_
        refine fu_step (fu_getR rfl fc_0 rfl rfl) ?_
        refine fu_go 1 (pc' := 22) (ls' := [.ref 0, .int a1]) (st' := [.int a1, .ref 11, .ref 0]) (s' := s) rfl ?_
        refine fu_step (fu_cV rfl rfl rfl rfl rfl (fu_recv fc_11 am_at_X4_canWait rfl) (fu_eq (e_X4_canWait d (by omega) s 11 fc_is3_11 a1) rfl)) ?_
        show fu_J _ _ (fc_X d (some .int) k_X11_pass 25 [.ref 0, .int a1] [.int (fu_b (f_X4_canWait s 11 a1)), .ref 0] s)
        refine fu_ite (fun h4 => fu_step (fu_ib_ne_t rfl h4) ?_) (fun h4 => fu_step (fu_ib_ne_f rfl h4) ?_)
        · refine fu_go 1 (pc' := 34) (ls' := [.ref 0, .int a1]) (st' := [.int (0 : Int32), .ref 0]) (s' := s) rfl ?_
          exact fu_leaf rfl ⟨.inr rfl, .inr rfl, trivial⟩
        · refine fu_go 2 (pc' := 34) (ls' := [.ref 0, .int a1]) (st' := [.int (7 : Int32), .ref 0]) (s' := s) rfl ?_
          exact fu_leaf rfl ⟨.inr rfl, .inr rfl, trivial⟩
      · refine fu_go 2 (pc' := 34) (ls' := [.ref 0, .int a1]) (st' := [.int (5 : Int32), .ref 0]) (s' := s) rfl ?_
        exact fu_leaf rfl ⟨.inr rfl, .inr rfl, trivial⟩
  show fu_J _ _ (fc_X d (some .int) k_X11_pass 34 [.ref 0, .int a1] [.int j1, .ref 0] s)
  refine fu_lets (b := (fu_pi s 0 15 j1)) (fu_putI rfl fc_0 rfl rfl) (fun s5 => ?_)
  refine fu_go 1 (pc' := 38) (ls' := [.ref 0, .int a1]) (st' := [.ref 0]) (s' := s5) rfl ?_
  refine fu_step (fu_getI rfl fc_0 rfl rfl) ?_
  refine fu_ite (fun h6 => fu_step (fu_if_eq_t rfl h6) ?_) (fun h6 => fu_step (fu_if_eq_f rfl h6) ?_)
  · refine fu_go 1 (pc' := 47) (ls' := [.ref 0, .int a1]) (st' := [.ref 0]) (s' := s5) rfl ?_
    refine fu_step (fu_getR rfl fc_0 rfl rfl) ?_
    refine fu_go 1 (pc' := 51) (ls' := [.ref 0, .int a1]) (st' := [.int a1, .ref 11]) (s' := s5) rfl ?_
    refine fu_let (fu_cVJ rfl rfl rfl rfl rfl (fu_recv fc_11 am_at_X4_goOn rfl) (e_X4_goOn d (by omega) s5 11 fc_is3_11 a1)) (fun r7 => ?_)
    show fu_J _ _ (fc_X d (some .int) k_X11_pass 54 [.ref 0, .int a1] [] r7)
    refine fu_go 1 (pc' := 55) (ls' := [.ref 0, .int a1]) (st' := [.ref 0]) (s' := r7) rfl ?_
    refine fu_step (fu_getR rfl fc_0 rfl rfl) ?_
    refine fu_bind (fu_cVJ rfl rfl rfl rfl rfl (fu_recv fc_11 am_at_X4_upSet rfl) (e_X4_upSet d (by omega) r7 11 fc_is3_11)) (fun r8 => ?_)
    show fu_J _ _ (fc_X d (some .int) k_X11_pass 61 [.ref 0, .int a1] [.int r8] r7)
    exact fu_iret rfl rfl
  · refine fu_go 1 (pc' := 45) (ls' := [.ref 0, .int a1]) (st' := [.int (-1 : Int32)]) (s' := s5) rfl ?_
    exact fu_iret rfl rfl
/-! X11_scratch -/
set_option maxRecDepth 100000 in
theorem e_X11_scratch (d : Nat) (hd : 5 ≤ d) (s : fu_S) (a1 : Int32) (a2 : Int32) : fu_J (f_X11_scratch s a1 a2) (fun r => some (some (.int r.1), r.2)) (am_D (fu_ho fc_sh) am_m d 200 [.ref 0, .int a1, .int a2] s) := by
  obtain ⟨d, rfl⟩ : ∃ e, d = e + 1 := ⟨d - 1, by omega⟩
  refine fu_enter (ls := [.ref 0, .int a1, .int a2]) am_at_X11_scratch rfl rfl ?_
  show fu_J _ _ (fc_X d (some .int) k_X11_scratch 0 [.ref 0, .int a1, .int a2] [] s)
  unfold f_X11_scratch
  refine fu_go 2 (pc' := 2) (ls' := [.ref 0, .int a1, .int a2]) (st' := [.ref 0, .ref 0]) (s' := s) rfl ?_
  refine fu_step (fu_getR rfl fc_0 rfl rfl) ?_
  refine fu_go 1 (pc' := 6) (ls' := [.ref 0, .int a1, .int a2]) (st' := [.int a1, .ref 11, .ref 0]) (s' := s) rfl ?_
  refine fu_step (fu_cV rfl rfl rfl rfl rfl (fu_recv fc_11 am_at_X4_hasPerson rfl) (fu_eq (e_X4_hasPerson d (by omega) s 11 fc_is3_11 a1) rfl)) ?_
  show fu_J _ _ (fc_X d (some .int) k_X11_scratch 9 [.ref 0, .int a1, .int a2] [.int (fu_b (f_X4_hasPerson s 11 a1)), .ref 0] s)
  refine fu_bind (V := fun j1 : Int32 => fc_X d (some .int) k_X11_scratch 45 [.ref 0, am_U, .int a2] [.int j1, .ref 0] s) ?_ (fun j1 => ?_)
  · refine fu_ite (fun h2 => fu_step (fu_ib_eq_t rfl h2) ?_) (fun h2 => fu_step (fu_ib_eq_f rfl h2) ?_)
    · refine fu_go 1 (pc' := 13) (ls' := [.ref 0, .int a1, .int a2]) (st' := [.ref 0, .ref 0]) (s' := s) rfl ?_
      refine fu_step (fu_getR rfl fc_0 rfl rfl) ?_
      refine fu_go 1 (pc' := 17) (ls' := [.ref 0, .int a1, .int a2]) (st' := [.int a2, .ref 11, .ref 0]) (s' := s) rfl ?_
      refine fu_step (fu_cV rfl rfl rfl rfl rfl (fu_recv fc_11 am_at_X4_hasThing rfl) (fu_eq (e_X4_hasThing d (by omega) s 11 fc_is3_11 a2) rfl)) ?_
      show fu_J _ _ (fc_X d (some .int) k_X11_scratch 20 [.ref 0, .int a1, .int a2] [.int (fu_b (f_X4_hasThing s 11 a2)), .ref 0] s)
      refine fu_ite (fun h3 => fu_step (fu_ib_ne_t rfl h3) ?_) (fun h3 => fu_step (fu_ib_ne_f rfl h3) ?_)
      · refine fu_go 1 (pc' := 28) (ls' := [.ref 0, .int a1, .int a2]) (st' := [.ref 0, .ref 0]) (s' := s) rfl ?_
        refine fu_step (fu_getR rfl fc_0 rfl rfl) ?_
        refine fu_go 2 (pc' := 33) (ls' := [.ref 0, .int a1, .int a2]) (st' := [.int a2, .int a1, .ref 11, .ref 0]) (s' := s) rfl ?_
        refine fu_bind (fu_cVJ rfl rfl rfl rfl rfl (fu_recv fc_11 am_at_X4_canScratchNow rfl) (e_X4_canScratchNow d (by omega) s 11 fc_is3_11 a1 a2)) (fun r4 => ?_)
        show fu_J _ _ (fc_X d (some .int) k_X11_scratch 36 [.ref 0, .int a1, .int a2] [.int (fu_b r4), .ref 0] s)
        refine fu_ite (fun h5 => fu_step (fu_ib_ne_t rfl h5) ?_) (fun h5 => fu_step (fu_ib_ne_f rfl h5) ?_)
        · refine fu_go 1 (pc' := 45) (ls' := [.ref 0, .int a1, .int a2]) (st' := [.int (0 : Int32), .ref 0]) (s' := s) rfl ?_
          exact fu_leaf rfl ⟨.inr rfl, .inl rfl, .inr rfl, trivial⟩
        · refine fu_go 2 (pc' := 45) (ls' := [.ref 0, .int a1, .int a2]) (st' := [.int (9 : Int32), .ref 0]) (s' := s) rfl ?_
          exact fu_leaf rfl ⟨.inr rfl, .inl rfl, .inr rfl, trivial⟩
      · refine fu_go 2 (pc' := 45) (ls' := [.ref 0, .int a1, .int a2]) (st' := [.int (2 : Int32), .ref 0]) (s' := s) rfl ?_
        exact fu_leaf rfl ⟨.inr rfl, .inl rfl, .inr rfl, trivial⟩
    · refine fu_go 2 (pc' := 45) (ls' := [.ref 0, .int a1, .int a2]) (st' := [.int (2 : Int32), .ref 0]) (s' := s) rfl ?_
      exact fu_leaf rfl ⟨.inr rfl, .inl rfl, .inr rfl, trivial⟩
  show fu_J _ _ (fc_X d (some .int) k_X11_scratch 45 [.ref 0, am_U, .int a2] [.int j1, .ref 0] s)
  refine fu_lets (b := (fu_pi s 0 15 j1)) (fu_putI rfl fc_0 rfl rfl) (fun s6 => ?_)
  refine fu_go 1 (pc' := 49) (ls' := [.ref 0, am_U, .int a2]) (st' := [.ref 0]) (s' := s6) rfl ?_
  refine fu_step (fu_getI rfl fc_0 rfl rfl) ?_
  refine fu_ite (fun h7 => fu_step (fu_if_eq_t rfl h7) ?_) (fun h7 => fu_step (fu_if_eq_f rfl h7) ?_)
  · refine fu_go 1 (pc' := 58) (ls' := [.ref 0, am_U, .int a2]) (st' := [.ref 0]) (s' := s6) rfl ?_
    refine fu_step (fu_getR rfl fc_0 rfl rfl) ?_
    refine fu_go 1 (pc' := 62) (ls' := [.ref 0, am_U, .int a2]) (st' := [.int a2, .ref 11]) (s' := s6) rfl ?_
    refine fu_bind (fu_cVJ rfl rfl rfl rfl rfl (fu_recv fc_11 am_at_X4_endItch rfl) (e_X4_endItch d (by omega) s6 11 fc_is3_11 a2)) (fun r8 => ?_)
    show fu_J _ _ (fc_X d (some .int) k_X11_scratch 65 [.ref 0, am_U, .int a2] [] r8)
    refine fu_go 1 (pc' := 66) (ls' := [.ref 0, am_U, .int a2]) (st' := [.ref 0]) (s' := r8) rfl ?_
    refine fu_step (fu_getR rfl fc_0 rfl rfl) ?_
    refine fu_go 1 (pc' := 70) (ls' := [.ref 0, am_U, .int a2]) (st' := [.int a2, .ref 11]) (s' := r8) rfl ?_
    refine fu_bind (fu_cVJ rfl rfl rfl rfl rfl (fu_recv fc_11 am_at_X4_foundAtOf rfl) (e_X4_foundAtOf d (by omega) r8 11 fc_is3_11 a2)) (fun r9 => ?_)
    show fu_J _ _ (fc_X d (some .int) k_X11_scratch 73 [.ref 0, am_U, .int a2] [.int r9] r8)
    exact fu_iret rfl rfl
  · refine fu_go 1 (pc' := 56) (ls' := [.ref 0, am_U, .int a2]) (st' := [.int (-1 : Int32)]) (s' := s6) rfl ?_
    exact fu_iret rfl rfl
/-! X11_teach -/
set_option maxRecDepth 100000 in
theorem e_X11_teach (d : Nat) (hd : 3 ≤ d) (s : fu_S) (a1 : Int32) (a2 : Int32) (a3 : Bool) : fu_J (f_X11_teach s a1 a2 a3) (fun r => some (some (.int (fu_b r.1)), r.2)) (am_D (fu_ho fc_sh) am_m d 201 [.ref 0, .int a1, .int a2, .int (fu_b a3)] s) := by
  obtain ⟨d, rfl⟩ : ∃ e, d = e + 1 := ⟨d - 1, by omega⟩
  refine fu_enter (ls := [.ref 0, .int a1, .int a2, .int (fu_b a3)]) am_at_X11_teach rfl rfl ?_
  show fu_J _ _ (fc_X d (some .boolean) k_X11_teach 0 [.ref 0, .int a1, .int a2, .int (fu_b a3)] [] s)
  unfold f_X11_teach
  refine fu_go 2 (pc' := 2) (ls' := [.ref 0, .int a1, .int a2, .int (fu_b a3)]) (st' := [.ref 0, .ref 0]) (s' := s) rfl ?_
  refine fu_step (fu_getR rfl fc_0 rfl rfl) ?_
  refine fu_go 1 (pc' := 6) (ls' := [.ref 0, .int a1, .int a2, .int (fu_b a3)]) (st' := [.int a1, .ref 11, .ref 0]) (s' := s) rfl ?_
  refine fu_step (fu_cV rfl rfl rfl rfl rfl (fu_recv fc_11 am_at_X4_hasPerson rfl) (fu_eq (e_X4_hasPerson d (by omega) s 11 fc_is3_11 a1) rfl)) ?_
  show fu_J _ _ (fc_X d (some .boolean) k_X11_teach 9 [.ref 0, .int a1, .int a2, .int (fu_b a3)] [.int (fu_b (f_X4_hasPerson s 11 a1)), .ref 0] s)
  refine fu_bind (V := fun j1 : Int32 => fc_X d (some .boolean) k_X11_teach 46 [.ref 0, .int a1, .int a2, am_U] [.int j1, .ref 0] s) ?_ (fun j1 => ?_)
  · refine fu_ite (fun h2 => fu_step (fu_ib_eq_t rfl h2) ?_) (fun h2 => fu_step (fu_ib_eq_f rfl h2) ?_)
    · refine fu_go 1 (pc' := 13) (ls' := [.ref 0, .int a1, .int a2, .int (fu_b a3)]) (st' := [.ref 0, .ref 0]) (s' := s) rfl ?_
      refine fu_step (fu_getR rfl fc_0 rfl rfl) ?_
      refine fu_go 1 (pc' := 17) (ls' := [.ref 0, .int a1, .int a2, .int (fu_b a3)]) (st' := [.int a2, .ref 11, .ref 0]) (s' := s) rfl ?_
      refine fu_step (fu_cV rfl rfl rfl rfl rfl (fu_recv fc_11 am_at_X4_isSpot rfl) (fu_eq (e_X4_isSpot d (by omega) s 11 fc_is3_11 a2) rfl)) ?_
      show fu_J _ _ (fc_X d (some .boolean) k_X11_teach 20 [.ref 0, .int a1, .int a2, .int (fu_b a3)] [.int (fu_b (f_X4_isSpot 11 a2)), .ref 0] s)
      refine fu_ite (fun h3 => fu_step (fu_ib_ne_t rfl h3) ?_) (fun h3 => fu_step (fu_ib_ne_f rfl h3) ?_)
      · refine fu_go 1 (pc' := 28) (ls' := [.ref 0, .int a1, .int a2, .int (fu_b a3)]) (st' := [.ref 0, .ref 0]) (s' := s) rfl ?_
        refine fu_step (fu_getR rfl fc_0 rfl rfl) ?_
        refine fu_go 2 (pc' := 33) (ls' := [.ref 0, .int a1, .int a2, .int (fu_b a3)]) (st' := [.int a2, .int a1, .ref 11, .ref 0]) (s' := s) rfl ?_
        refine fu_bind (fu_cVJ rfl rfl rfl rfl rfl (fu_recv fc_11 am_at_X4_reaches rfl) (e_X4_reaches d (by omega) s 11 fc_is3_11 a1 a2)) (fun r4 => ?_)
        show fu_J _ _ (fc_X d (some .boolean) k_X11_teach 36 [.ref 0, .int a1, .int a2, .int (fu_b a3)] [.int (fu_b r4), .ref 0] s)
        refine fu_go 1 (pc' := 37) (ls' := [.ref 0, .int a1, .int a2, .int (fu_b a3)]) (st' := [.int (fu_b a3), .int (fu_b r4), .ref 0]) (s' := s) rfl ?_
        refine fu_ite (fun h5 => fu_step (fu_ic_ne_t rfl h5) ?_) (fun h5 => fu_step (fu_ic_ne_f rfl h5) ?_)
        · refine fu_go 2 (pc' := 46) (ls' := [.ref 0, .int a1, .int a2, .int (fu_b a3)]) (st' := [.int (9 : Int32), .ref 0]) (s' := s) rfl ?_
          exact fu_leaf rfl ⟨.inr rfl, .inr rfl, .inr rfl, .inl rfl, trivial⟩
        · refine fu_go 1 (pc' := 46) (ls' := [.ref 0, .int a1, .int a2, .int (fu_b a3)]) (st' := [.int (0 : Int32), .ref 0]) (s' := s) rfl ?_
          exact fu_leaf rfl ⟨.inr rfl, .inr rfl, .inr rfl, .inl rfl, trivial⟩
      · refine fu_go 2 (pc' := 46) (ls' := [.ref 0, .int a1, .int a2, .int (fu_b a3)]) (st' := [.int (2 : Int32), .ref 0]) (s' := s) rfl ?_
        exact fu_leaf rfl ⟨.inr rfl, .inr rfl, .inr rfl, .inl rfl, trivial⟩
    · refine fu_go 2 (pc' := 46) (ls' := [.ref 0, .int a1, .int a2, .int (fu_b a3)]) (st' := [.int (2 : Int32), .ref 0]) (s' := s) rfl ?_
      exact fu_leaf rfl ⟨.inr rfl, .inr rfl, .inr rfl, .inl rfl, trivial⟩
  show fu_J _ _ (fc_X d (some .boolean) k_X11_teach 46 [.ref 0, .int a1, .int a2, am_U] [.int j1, .ref 0] s)
  refine fu_lets (b := (fu_pi s 0 15 j1)) (fu_putI rfl fc_0 rfl rfl) (fun s6 => ?_)
  refine fu_go 1 (pc' := 50) (ls' := [.ref 0, .int a1, .int a2, am_U]) (st' := [.ref 0]) (s' := s6) rfl ?_
  refine fu_step (fu_getI rfl fc_0 rfl rfl) ?_
  refine fu_bind (V := fun j7 : fu_S => fc_X d (some .boolean) k_X11_teach 65 [.ref 0, am_U, am_U, am_U] [] j7) ?_ (fun j7 => ?_)
  · refine fu_ite (fun h8 => fu_step (fu_if_ne_t rfl h8) ?_) (fun h8 => fu_step (fu_if_ne_f rfl h8) ?_)
    · refine fu_go 1 (pc' := 57) (ls' := [.ref 0, .int a1, .int a2, am_U]) (st' := [.ref 0]) (s' := s6) rfl ?_
      refine fu_step (fu_getR rfl fc_0 rfl rfl) ?_
      refine fu_go 2 (pc' := 62) (ls' := [.ref 0, .int a1, .int a2, am_U]) (st' := [.int a2, .int a1, .ref 11]) (s' := s6) rfl ?_
      refine fu_bind (fu_cVJ rfl rfl rfl rfl rfl (fu_recv fc_11 am_at_X4_toggleReach rfl) (e_X4_toggleReach d (by omega) s6 11 fc_is3_11 a1 a2)) (fun r9 => ?_)
      show fu_J _ _ (fc_X d (some .boolean) k_X11_teach 65 [.ref 0, .int a1, .int a2, am_U] [] r9)
      exact fu_leaf rfl ⟨.inr rfl, .inl rfl, .inl rfl, .inl rfl, trivial⟩
    · exact fu_leaf rfl ⟨.inr rfl, .inl rfl, .inl rfl, .inl rfl, trivial⟩
  show fu_J _ _ (fc_X d (some .boolean) k_X11_teach 65 [.ref 0, am_U, am_U, am_U] [] j7)
  refine fu_go 1 (pc' := 66) (ls' := [.ref 0, am_U, am_U, am_U]) (st' := [.ref 0]) (s' := j7) rfl ?_
  refine fu_step (fu_getI rfl fc_0 rfl rfl) ?_
  refine fu_bind (V := fun j10 : Bool => fc_X d (some .boolean) k_X11_teach 77 [am_U, am_U, am_U, am_U] [.int (fu_b j10)] j7) ?_ (fun j10 => ?_)
  · refine fu_ite (fun h11 => fu_step (fu_if_ne_t rfl h11) ?_) (fun h11 => fu_step (fu_if_ne_f rfl h11) ?_)
    · refine fu_go 2 (pc' := 77) (ls' := [.ref 0, am_U, am_U, am_U]) (st' := [.int (1 : Int32)]) (s' := j7) rfl ?_
      exact fu_leaf rfl ⟨.inl rfl, .inl rfl, .inl rfl, .inl rfl, trivial⟩
    · refine fu_go 1 (pc' := 77) (ls' := [.ref 0, am_U, am_U, am_U]) (st' := [.int (0 : Int32)]) (s' := j7) rfl ?_
      exact fu_leaf rfl ⟨.inl rfl, .inl rfl, .inl rfl, .inl rfl, trivial⟩
  show fu_J _ _ (fc_X d (some .boolean) k_X11_teach 77 [am_U, am_U, am_U, am_U] [.int (fu_b j10)] j7)
  exact fu_bret (b := j10) rfl rfl
/-! X11_move -/
set_option maxRecDepth 100000 in
theorem e_X11_move (d : Nat) (hd : 3 ≤ d) (s : fu_S) (a1 : Int32) (a2 : Int32) : fu_J (f_X11_move s a1 a2) (fun r => some (some (.int r.1), r.2)) (am_D (fu_ho fc_sh) am_m d 202 [.ref 0, .int a1, .int a2] s) := by
  obtain ⟨d, rfl⟩ : ∃ e, d = e + 1 := ⟨d - 1, by omega⟩
  refine fu_enter (ls := [.ref 0, .int a1, .int a2, am_U]) am_at_X11_move rfl rfl ?_
  show fu_J _ _ (fc_X d (some .int) k_X11_move 0 [.ref 0, .int a1, .int a2, am_U] [] s)
  unfold f_X11_move
  refine fu_go 2 (pc' := 2) (ls' := [.ref 0, .int a1, .int a2, am_U]) (st' := [.ref 0, .ref 0]) (s' := s) rfl ?_
  refine fu_step (fu_getR rfl fc_0 rfl rfl) ?_
  refine fu_go 1 (pc' := 6) (ls' := [.ref 0, .int a1, .int a2, am_U]) (st' := [.int a1, .ref 11, .ref 0]) (s' := s) rfl ?_
  refine fu_step (fu_cV rfl rfl rfl rfl rfl (fu_recv fc_11 am_at_X4_hasPerson rfl) (fu_eq (e_X4_hasPerson d (by omega) s 11 fc_is3_11 a1) rfl)) ?_
  show fu_J _ _ (fc_X d (some .int) k_X11_move 9 [.ref 0, .int a1, .int a2, am_U] [.int (fu_b (f_X4_hasPerson s 11 a1)), .ref 0] s)
  refine fu_bind (V := fun j1 : Int32 => fc_X d (some .int) k_X11_move 32 [.ref 0, .int a1, .int a2, am_U] [.int j1, .ref 0] s) ?_ (fun j1 => ?_)
  · refine fu_ite (fun h2 => fu_step (fu_ib_ne_t rfl h2) ?_) (fun h2 => fu_step (fu_ib_ne_f rfl h2) ?_)
    · refine fu_go 1 (pc' := 17) (ls' := [.ref 0, .int a1, .int a2, am_U]) (st' := [.ref 0, .ref 0]) (s' := s) rfl ?_
      refine fu_step (fu_getR rfl fc_0 rfl rfl) ?_
      refine fu_go 1 (pc' := 21) (ls' := [.ref 0, .int a1, .int a2, am_U]) (st' := [.int a2, .ref 11, .ref 0]) (s' := s) rfl ?_
      refine fu_step (fu_cV rfl rfl rfl rfl rfl (fu_recv fc_11 am_at_X4_isHome rfl) (fu_eq (e_X4_isHome d (by omega) s 11 fc_is3_11 a2) rfl)) ?_
      show fu_J _ _ (fc_X d (some .int) k_X11_move 24 [.ref 0, .int a1, .int a2, am_U] [.int (fu_b (f_X4_isHome 11 a2)), .ref 0] s)
      refine fu_ite (fun h3 => fu_step (fu_ib_ne_t rfl h3) ?_) (fun h3 => fu_step (fu_ib_ne_f rfl h3) ?_)
      · refine fu_go 1 (pc' := 32) (ls' := [.ref 0, .int a1, .int a2, am_U]) (st' := [.int (0 : Int32), .ref 0]) (s' := s) rfl ?_
        exact fu_leaf rfl ⟨.inr rfl, .inr rfl, .inr rfl, .inl rfl, trivial⟩
      · refine fu_go 2 (pc' := 32) (ls' := [.ref 0, .int a1, .int a2, am_U]) (st' := [.int (5 : Int32), .ref 0]) (s' := s) rfl ?_
        exact fu_leaf rfl ⟨.inr rfl, .inr rfl, .inr rfl, .inl rfl, trivial⟩
    · refine fu_go 2 (pc' := 32) (ls' := [.ref 0, .int a1, .int a2, am_U]) (st' := [.int (2 : Int32), .ref 0]) (s' := s) rfl ?_
      exact fu_leaf rfl ⟨.inr rfl, .inr rfl, .inr rfl, .inl rfl, trivial⟩
  show fu_J _ _ (fc_X d (some .int) k_X11_move 32 [.ref 0, .int a1, .int a2, am_U] [.int j1, .ref 0] s)
  refine fu_lets (b := (fu_pi s 0 15 j1)) (fu_putI rfl fc_0 rfl rfl) (fun s4 => ?_)
  refine fu_go 1 (pc' := 36) (ls' := [.ref 0, .int a1, .int a2, am_U]) (st' := [.ref 0]) (s' := s4) rfl ?_
  refine fu_step (fu_getI rfl fc_0 rfl rfl) ?_
  refine fu_ite (fun h5 => fu_step (fu_if_eq_t rfl h5) ?_) (fun h5 => fu_step (fu_if_eq_f rfl h5) ?_)
  · refine fu_go 1 (pc' := 45) (ls' := [.ref 0, .int a1, .int a2, am_U]) (st' := [.ref 0]) (s' := s4) rfl ?_
    refine fu_step (fu_getR rfl fc_0 rfl rfl) ?_
    refine fu_go 1 (pc' := 49) (ls' := [.ref 0, .int a1, .int a2, am_U]) (st' := [.int a1, .ref 11]) (s' := s4) rfl ?_
    refine fu_bind (fu_cVJ rfl rfl rfl rfl rfl (fu_recv fc_11 am_at_X4_homeOf rfl) (e_X4_homeOf d (by omega) s4 11 fc_is3_11 a1)) (fun r6 => ?_)
    show fu_J _ _ (fc_X d (some .int) k_X11_move 52 [.ref 0, .int a1, .int a2, am_U] [.int r6] s4)
    refine fu_go 2 (pc' := 54) (ls' := [.ref 0, .int a1, .int a2, .int r6]) (st' := [.ref 0]) (s' := s4) rfl ?_
    refine fu_step (fu_getR rfl fc_0 rfl rfl) ?_
    refine fu_go 2 (pc' := 59) (ls' := [.ref 0, .int a1, .int a2, .int r6]) (st' := [.int a2, .int a1, .ref 11]) (s' := s4) rfl ?_
    refine fu_bind (fu_cVJ rfl rfl rfl rfl rfl (fu_recv fc_11 am_at_X4_settle rfl) (e_X4_settle d (by omega) s4 11 fc_is3_11 a1 a2)) (fun r7 => ?_)
    show fu_J _ _ (fc_X d (some .int) k_X11_move 62 [.ref 0, .int a1, .int a2, .int r6] [] r7)
    refine fu_go 1 (pc' := 63) (ls' := [.ref 0, .int a1, .int a2, .int r6]) (st' := [.int r6]) (s' := r7) rfl ?_
    exact fu_iret rfl rfl
  · refine fu_go 1 (pc' := 43) (ls' := [.ref 0, .int a1, .int a2, am_U]) (st' := [.int (-1 : Int32)]) (s' := s4) rfl ?_
    exact fu_iret rfl rfl
/-! X11_come -/
set_option maxRecDepth 100000 in
theorem e_X11_come (d : Nat) (hd : 2 ≤ d) (s : fu_S) (a1 : Int32) : fu_J (f_X11_come s a1) (fun r => some (some (.int r.1), r.2)) (am_D (fu_ho fc_sh) am_m d 203 [.ref 0, .int a1] s) := by
  obtain ⟨d, rfl⟩ : ∃ e, d = e + 1 := ⟨d - 1, by omega⟩
  refine fu_enter (ls := [.ref 0, .int a1]) am_at_X11_come rfl rfl ?_
  show fu_J _ _ (fc_X d (some .int) k_X11_come 0 [.ref 0, .int a1] [] s)
  unfold f_X11_come
  refine fu_go 2 (pc' := 2) (ls' := [.ref 0, .int a1]) (st' := [.ref 0, .ref 0]) (s' := s) rfl ?_
  refine fu_step (fu_getR rfl fc_0 rfl rfl) ?_
  refine fu_go 1 (pc' := 6) (ls' := [.ref 0, .int a1]) (st' := [.int a1, .ref 11, .ref 0]) (s' := s) rfl ?_
  refine fu_step (fu_cV rfl rfl rfl rfl rfl (fu_recv fc_11 am_at_X4_isHome rfl) (fu_eq (e_X4_isHome d (by omega) s 11 fc_is3_11 a1) rfl)) ?_
  show fu_J _ _ (fc_X d (some .int) k_X11_come 9 [.ref 0, .int a1] [.int (fu_b (f_X4_isHome 11 a1)), .ref 0] s)
  refine fu_bind (V := fun j1 : Int32 => fc_X d (some .int) k_X11_come 34 [.ref 0, .int a1] [.int j1, .ref 0] s) ?_ (fun j1 => ?_)
  · refine fu_ite (fun h2 => fu_step (fu_ib_ne_t rfl h2) ?_) (fun h2 => fu_step (fu_ib_ne_f rfl h2) ?_)
    · refine fu_go 1 (pc' := 17) (ls' := [.ref 0, .int a1]) (st' := [.ref 0, .ref 0]) (s' := s) rfl ?_
      refine fu_step (fu_getR rfl fc_0 rfl rfl) ?_
      refine fu_step (fu_cV rfl rfl rfl rfl rfl (fu_recv fc_11 am_at_X4_people rfl) (fu_eq (e_X4_people d (by omega) s 11 fc_is3_11) rfl)) ?_
      show fu_J _ _ (fc_X d (some .int) k_X11_come 23 [.ref 0, .int a1] [.int (f_X4_people s 11), .ref 0] s)
      refine fu_go 1 (pc' := 25) (ls' := [.ref 0, .int a1]) (st' := [.int (7 : Int32), .int (f_X4_people s 11), .ref 0]) (s' := s) rfl ?_
      refine fu_ite (fun h3 => fu_step (fu_ic_lt_t rfl h3) ?_) (fun h3 => fu_step (fu_ic_lt_f rfl h3) ?_)
      · refine fu_go 1 (pc' := 34) (ls' := [.ref 0, .int a1]) (st' := [.int (0 : Int32), .ref 0]) (s' := s) rfl ?_
        exact fu_leaf rfl ⟨.inr rfl, .inr rfl, trivial⟩
      · refine fu_go 2 (pc' := 34) (ls' := [.ref 0, .int a1]) (st' := [.int (7 : Int32), .ref 0]) (s' := s) rfl ?_
        exact fu_leaf rfl ⟨.inr rfl, .inr rfl, trivial⟩
    · refine fu_go 2 (pc' := 34) (ls' := [.ref 0, .int a1]) (st' := [.int (5 : Int32), .ref 0]) (s' := s) rfl ?_
      exact fu_leaf rfl ⟨.inr rfl, .inr rfl, trivial⟩
  show fu_J _ _ (fc_X d (some .int) k_X11_come 34 [.ref 0, .int a1] [.int j1, .ref 0] s)
  refine fu_lets (b := (fu_pi s 0 15 j1)) (fu_putI rfl fc_0 rfl rfl) (fun s4 => ?_)
  refine fu_go 1 (pc' := 38) (ls' := [.ref 0, .int a1]) (st' := [.ref 0]) (s' := s4) rfl ?_
  refine fu_step (fu_getI rfl fc_0 rfl rfl) ?_
  refine fu_bind (V := fun j5 : Int32 × fu_S => fc_X d (some .int) k_X11_come 58 [am_U, am_U] [.int j5.1] j5.2) ?_ (fun j5 => ?_)
  · refine fu_ite (fun h6 => fu_step (fu_if_ne_t rfl h6) ?_) (fun h6 => fu_step (fu_if_ne_f rfl h6) ?_)
    · refine fu_go 1 (pc' := 45) (ls' := [.ref 0, .int a1]) (st' := [.ref 0]) (s' := s4) rfl ?_
      refine fu_step (fu_getR rfl fc_0 rfl rfl) ?_
      refine fu_go 3 (pc' := 51) (ls' := [.ref 0, .int a1]) (st' := [.int (0 : Int32), .int a1, .long (0 : Int64), .ref 11]) (s' := s4) rfl ?_
      refine fu_bind (fu_cVJ rfl rfl rfl rfl rfl (fu_recv fc_11 am_at_X4_addPerson rfl) (e_X4_addPerson d (by omega) s4 11 fc_is3_11 (0 : Int64) a1 (0 : Int32))) (fun r7 => ?_)
      show fu_J _ _ (fc_X d (some .int) k_X11_come 54 [.ref 0, .int a1] [.int r7.1] r7.2)
      refine fu_go 1 (pc' := 58) (ls' := [.ref 0, .int a1]) (st' := [.int r7.1]) (s' := r7.2) rfl ?_
      exact fu_leaf rfl ⟨.inl rfl, .inl rfl, trivial⟩
    · refine fu_go 1 (pc' := 58) (ls' := [.ref 0, .int a1]) (st' := [.int (-1 : Int32)]) (s' := s4) rfl ?_
      exact fu_leaf rfl ⟨.inl rfl, .inl rfl, trivial⟩
  show fu_J _ _ (fc_X d (some .int) k_X11_come 58 [am_U, am_U] [.int j5.1] j5.2)
  exact fu_iret rfl rfl
/-! X11_rewrite -/
set_option maxRecDepth 100000 in
theorem e_X11_rewrite (d : Nat) (hd : 3 ≤ d) (s : fu_S) (a1 : Int32) (a2 : Int32) (a3 : Int32) : fu_J (f_X11_rewrite s a1 a2 a3) (fun r => some (some (.int r.1), r.2)) (am_D (fu_ho fc_sh) am_m d 204 [.ref 0, .int a1, .int a2, .int a3] s) := by
  obtain ⟨d, rfl⟩ : ∃ e, d = e + 1 := ⟨d - 1, by omega⟩
  refine fu_enter (ls := [.ref 0, .int a1, .int a2, .int a3, am_U]) am_at_X11_rewrite rfl rfl ?_
  show fu_J _ _ (fc_X d (some .int) k_X11_rewrite 0 [.ref 0, .int a1, .int a2, .int a3, am_U] [] s)
  unfold f_X11_rewrite
  refine fu_go 2 (pc' := 2) (ls' := [.ref 0, .int a1, .int a2, .int a3, am_U]) (st' := [.ref 0, .ref 0]) (s' := s) rfl ?_
  refine fu_step (fu_getR rfl fc_0 rfl rfl) ?_
  refine fu_go 1 (pc' := 6) (ls' := [.ref 0, .int a1, .int a2, .int a3, am_U]) (st' := [.int a1, .ref 11, .ref 0]) (s' := s) rfl ?_
  refine fu_step (fu_cV rfl rfl rfl rfl rfl (fu_recv fc_11 am_at_X4_hasKind rfl) (fu_eq (e_X4_hasKind d (by omega) s 11 fc_is3_11 a1) rfl)) ?_
  show fu_J _ _ (fc_X d (some .int) k_X11_rewrite 9 [.ref 0, .int a1, .int a2, .int a3, am_U] [.int (fu_b (f_X4_hasKind s 11 a1)), .ref 0] s)
  refine fu_bind (V := fun j1 : Int32 => fc_X d (some .int) k_X11_rewrite 33 [.ref 0, .int a1, .int a2, .int a3, am_U] [.int j1, .ref 0] s) ?_ (fun j1 => ?_)
  · refine fu_ite (fun h2 => fu_step (fu_ib_ne_t rfl h2) ?_) (fun h2 => fu_step (fu_ib_ne_f rfl h2) ?_)
    · refine fu_go 1 (pc' := 17) (ls' := [.ref 0, .int a1, .int a2, .int a3, am_U]) (st' := [.ref 0, .ref 0]) (s' := s) rfl ?_
      refine fu_step (fu_getR rfl fc_0 rfl rfl) ?_
      refine fu_go 2 (pc' := 22) (ls' := [.ref 0, .int a1, .int a2, .int a3, am_U]) (st' := [.int a3, .int a2, .ref 11, .ref 0]) (s' := s) rfl ?_
      refine fu_step (fu_cV rfl rfl rfl rfl rfl (fu_recv fc_11 am_at_X4_isForKind rfl) (fu_eq (e_X4_isForKind d (by omega) s 11 fc_is3_11 a2 a3) rfl)) ?_
      show fu_J _ _ (fc_X d (some .int) k_X11_rewrite 25 [.ref 0, .int a1, .int a2, .int a3, am_U] [.int (fu_b (f_X4_isForKind 11 a2 a3)), .ref 0] s)
      refine fu_ite (fun h3 => fu_step (fu_ib_ne_t rfl h3) ?_) (fun h3 => fu_step (fu_ib_ne_f rfl h3) ?_)
      · refine fu_go 1 (pc' := 33) (ls' := [.ref 0, .int a1, .int a2, .int a3, am_U]) (st' := [.int (0 : Int32), .ref 0]) (s' := s) rfl ?_
        exact fu_leaf rfl ⟨.inr rfl, .inr rfl, .inr rfl, .inr rfl, .inl rfl, trivial⟩
      · refine fu_go 2 (pc' := 33) (ls' := [.ref 0, .int a1, .int a2, .int a3, am_U]) (st' := [.int (5 : Int32), .ref 0]) (s' := s) rfl ?_
        exact fu_leaf rfl ⟨.inr rfl, .inr rfl, .inr rfl, .inr rfl, .inl rfl, trivial⟩
    · refine fu_go 2 (pc' := 33) (ls' := [.ref 0, .int a1, .int a2, .int a3, am_U]) (st' := [.int (2 : Int32), .ref 0]) (s' := s) rfl ?_
      exact fu_leaf rfl ⟨.inr rfl, .inr rfl, .inr rfl, .inr rfl, .inl rfl, trivial⟩
  show fu_J _ _ (fc_X d (some .int) k_X11_rewrite 33 [.ref 0, .int a1, .int a2, .int a3, am_U] [.int j1, .ref 0] s)
  refine fu_lets (b := (fu_pi s 0 15 j1)) (fu_putI rfl fc_0 rfl rfl) (fun s4 => ?_)
  refine fu_go 1 (pc' := 37) (ls' := [.ref 0, .int a1, .int a2, .int a3, am_U]) (st' := [.ref 0]) (s' := s4) rfl ?_
  refine fu_step (fu_getI rfl fc_0 rfl rfl) ?_
  refine fu_ite (fun h5 => fu_step (fu_if_eq_t rfl h5) ?_) (fun h5 => fu_step (fu_if_eq_f rfl h5) ?_)
  · refine fu_go 1 (pc' := 46) (ls' := [.ref 0, .int a1, .int a2, .int a3, am_U]) (st' := [.ref 0]) (s' := s4) rfl ?_
    refine fu_step (fu_getR rfl fc_0 rfl rfl) ?_
    refine fu_go 2 (pc' := 51) (ls' := [.ref 0, .int a1, .int a2, .int a3, am_U]) (st' := [.int a2, .int a1, .ref 11]) (s' := s4) rfl ?_
    refine fu_bind (fu_cVJ rfl rfl rfl rfl rfl (fu_recv fc_11 am_at_X4_ofKind rfl) (e_X4_ofKind d (by omega) s4 11 fc_is3_11 a1 a2)) (fun r6 => ?_)
    show fu_J _ _ (fc_X d (some .int) k_X11_rewrite 54 [.ref 0, .int a1, .int a2, .int a3, am_U] [.int r6] s4)
    refine fu_go 2 (pc' := 57) (ls' := [.ref 0, .int a1, .int a2, .int a3, .int r6]) (st' := [.ref 0]) (s' := s4) rfl ?_
    refine fu_step (fu_getR rfl fc_0 rfl rfl) ?_
    refine fu_go 3 (pc' := 63) (ls' := [.ref 0, .int a1, .int a2, .int a3, .int r6]) (st' := [.int a3, .int a2, .int a1, .ref 11]) (s' := s4) rfl ?_
    refine fu_bind (fu_cVJ rfl rfl rfl rfl rfl (fu_recv fc_11 am_at_X4_changeKind rfl) (e_X4_changeKind d (by omega) s4 11 fc_is3_11 a1 a2 a3)) (fun r7 => ?_)
    show fu_J _ _ (fc_X d (some .int) k_X11_rewrite 66 [.ref 0, .int a1, .int a2, .int a3, .int r6] [] r7)
    refine fu_go 1 (pc' := 68) (ls' := [.ref 0, .int a1, .int a2, .int a3, .int r6]) (st' := [.int r6]) (s' := r7) rfl ?_
    exact fu_iret rfl rfl
  · refine fu_go 1 (pc' := 44) (ls' := [.ref 0, .int a1, .int a2, .int a3, am_U]) (st' := [.int (-1 : Int32)]) (s' := s4) rfl ?_
    exact fu_iret rfl rfl
/-! X11_rule -/
set_option maxRecDepth 100000 in
theorem e_X11_rule (d : Nat) (hd : 2 ≤ d) (s : fu_S) (a1 : Int32) (a2 : Int32) : fu_J (some (f_X11_rule s a1 a2)) (fun r => some (some (.int (fu_b r.1)), r.2)) (am_D (fu_ho fc_sh) am_m d 205 [.ref 0, .int a1, .int a2] s) := by
  obtain ⟨d, rfl⟩ : ∃ e, d = e + 1 := ⟨d - 1, by omega⟩
  refine fu_enter (ls := [.ref 0, .int a1, .int a2, am_U, am_U]) am_at_X11_rule rfl rfl ?_
  show fu_J _ _ (fc_X d (some .boolean) k_X11_rule 0 [.ref 0, .int a1, .int a2, am_U, am_U] [] s)
  unfold f_X11_rule
  refine fu_go 2 (pc' := 2) (ls' := [.ref 0, .int a1, .int a2, am_U, am_U]) (st' := [.int (3 : Int32), .int a1]) (s' := s) rfl ?_
  refine fu_letS (V := fun j1 : Bool => fc_X d (some .boolean) k_X11_rule 20 [.ref 0, .int a1, .int a2, am_U, am_U] [.int (fu_b j1)] s) ?_ (fun j1 => ?_)
  · refine fu_iteS (fun h2 => fu_step (fu_ic_ne_t rfl h2) ?_) (fun h2 => fu_step (fu_ic_ne_f rfl h2) ?_)
    · refine fu_go 1 (pc' := 6) (ls' := [.ref 0, .int a1, .int a2, am_U, am_U]) (st' := [.int a2]) (s' := s) rfl ?_
      refine fu_iteS (fun h3 => fu_step (fu_if_lt_t rfl h3) ?_) (fun h3 => fu_step (fu_if_lt_f rfl h3) ?_)
      · refine fu_go 1 (pc' := 20) (ls' := [.ref 0, .int a1, .int a2, am_U, am_U]) (st' := [.int (0 : Int32)]) (s' := s) rfl ?_
        exact fu_leaf rfl ⟨.inr rfl, .inr rfl, .inr rfl, .inl rfl, .inl rfl, trivial⟩
      · refine fu_go 2 (pc' := 12) (ls' := [.ref 0, .int a1, .int a2, am_U, am_U]) (st' := [.int (16 : Int32), .int a2]) (s' := s) rfl ?_
        refine fu_iteS (fun h4 => fu_step (fu_ic_gt_t rfl h4) ?_) (fun h4 => fu_step (fu_ic_gt_f rfl h4) ?_)
        · refine fu_go 2 (pc' := 20) (ls' := [.ref 0, .int a1, .int a2, am_U, am_U]) (st' := [.int (1 : Int32)]) (s' := s) rfl ?_
          exact fu_leaf rfl ⟨.inr rfl, .inr rfl, .inr rfl, .inl rfl, .inl rfl, trivial⟩
        · refine fu_go 1 (pc' := 20) (ls' := [.ref 0, .int a1, .int a2, am_U, am_U]) (st' := [.int (0 : Int32)]) (s' := s) rfl ?_
          exact fu_leaf rfl ⟨.inr rfl, .inr rfl, .inr rfl, .inl rfl, .inl rfl, trivial⟩
    · refine fu_go 1 (pc' := 20) (ls' := [.ref 0, .int a1, .int a2, am_U, am_U]) (st' := [.int (0 : Int32)]) (s' := s) rfl ?_
      exact fu_leaf rfl ⟨.inr rfl, .inr rfl, .inr rfl, .inl rfl, .inl rfl, trivial⟩
  show fu_J _ _ (fc_X d (some .boolean) k_X11_rule 20 [.ref 0, .int a1, .int a2, am_U, am_U] [.int (fu_b j1)] s)
  refine fu_go 3 (pc' := 23) (ls' := [.ref 0, .int a1, .int a2, .int (fu_b j1), am_U]) (st' := [.int (4 : Int32), .int a1]) (s' := s) rfl ?_
  refine fu_letS (V := fun j5 : Bool => fc_X d (some .boolean) k_X11_rule 41 [.ref 0, am_U, .int a2, .int (fu_b j1), am_U] [.int (fu_b j5)] s) ?_ (fun j5 => ?_)
  · refine fu_iteS (fun h6 => fu_step (fu_ic_ne_t rfl h6) ?_) (fun h6 => fu_step (fu_ic_ne_f rfl h6) ?_)
    · refine fu_go 1 (pc' := 27) (ls' := [.ref 0, .int a1, .int a2, .int (fu_b j1), am_U]) (st' := [.int a2]) (s' := s) rfl ?_
      refine fu_iteS (fun h7 => fu_step (fu_if_lt_t rfl h7) ?_) (fun h7 => fu_step (fu_if_lt_f rfl h7) ?_)
      · refine fu_go 1 (pc' := 41) (ls' := [.ref 0, .int a1, .int a2, .int (fu_b j1), am_U]) (st' := [.int (0 : Int32)]) (s' := s) rfl ?_
        exact fu_leaf rfl ⟨.inr rfl, .inl rfl, .inr rfl, .inr rfl, .inl rfl, trivial⟩
      · refine fu_go 2 (pc' := 33) (ls' := [.ref 0, .int a1, .int a2, .int (fu_b j1), am_U]) (st' := [.int (59 : Int32), .int a2]) (s' := s) rfl ?_
        refine fu_iteS (fun h8 => fu_step (fu_ic_gt_t rfl h8) ?_) (fun h8 => fu_step (fu_ic_gt_f rfl h8) ?_)
        · refine fu_go 2 (pc' := 41) (ls' := [.ref 0, .int a1, .int a2, .int (fu_b j1), am_U]) (st' := [.int (1 : Int32)]) (s' := s) rfl ?_
          exact fu_leaf rfl ⟨.inr rfl, .inl rfl, .inr rfl, .inr rfl, .inl rfl, trivial⟩
        · refine fu_go 1 (pc' := 41) (ls' := [.ref 0, .int a1, .int a2, .int (fu_b j1), am_U]) (st' := [.int (0 : Int32)]) (s' := s) rfl ?_
          exact fu_leaf rfl ⟨.inr rfl, .inl rfl, .inr rfl, .inr rfl, .inl rfl, trivial⟩
    · refine fu_go 1 (pc' := 41) (ls' := [.ref 0, .int a1, .int a2, .int (fu_b j1), am_U]) (st' := [.int (0 : Int32)]) (s' := s) rfl ?_
      exact fu_leaf rfl ⟨.inr rfl, .inl rfl, .inr rfl, .inr rfl, .inl rfl, trivial⟩
  show fu_J _ _ (fc_X d (some .boolean) k_X11_rule 41 [.ref 0, am_U, .int a2, .int (fu_b j1), am_U] [.int (fu_b j5)] s)
  refine fu_go 3 (pc' := 45) (ls' := [.ref 0, am_U, .int a2, .int (fu_b j1), .int (fu_b j5)]) (st' := [.int (fu_b j1), .ref 0]) (s' := s) rfl ?_
  refine fu_letS (V := fun j9 : Int32 => fc_X d (some .boolean) k_X11_rule 58 [.ref 0, am_U, .int a2, .int (fu_b j1), .int (fu_b j5)] [.int j9, .ref 0] s) ?_ (fun j9 => ?_)
  · refine fu_iteS (fun h10 => fu_step (fu_ib_ne_t rfl h10) ?_) (fun h10 => fu_step (fu_ib_ne_f rfl h10) ?_)
    · refine fu_go 2 (pc' := 58) (ls' := [.ref 0, am_U, .int a2, .int (fu_b j1), .int (fu_b j5)]) (st' := [.int (0 : Int32), .ref 0]) (s' := s) rfl ?_
      exact fu_leaf rfl ⟨.inr rfl, .inl rfl, .inr rfl, .inr rfl, .inr rfl, trivial⟩
    · refine fu_go 1 (pc' := 50) (ls' := [.ref 0, am_U, .int a2, .int (fu_b j1), .int (fu_b j5)]) (st' := [.int (fu_b j5), .ref 0]) (s' := s) rfl ?_
      refine fu_iteS (fun h11 => fu_step (fu_ib_eq_t rfl h11) ?_) (fun h11 => fu_step (fu_ib_eq_f rfl h11) ?_)
      · refine fu_go 2 (pc' := 58) (ls' := [.ref 0, am_U, .int a2, .int (fu_b j1), .int (fu_b j5)]) (st' := [.int (0 : Int32), .ref 0]) (s' := s) rfl ?_
        exact fu_leaf rfl ⟨.inr rfl, .inl rfl, .inr rfl, .inr rfl, .inr rfl, trivial⟩
      · refine fu_go 1 (pc' := 58) (ls' := [.ref 0, am_U, .int a2, .int (fu_b j1), .int (fu_b j5)]) (st' := [.int (5 : Int32), .ref 0]) (s' := s) rfl ?_
        exact fu_leaf rfl ⟨.inr rfl, .inl rfl, .inr rfl, .inr rfl, .inr rfl, trivial⟩
  show fu_J _ _ (fc_X d (some .boolean) k_X11_rule 58 [.ref 0, am_U, .int a2, .int (fu_b j1), .int (fu_b j5)] [.int j9, .ref 0] s)
  refine fu_letsS (b := (fu_pi s 0 15 j9)) (fu_putI rfl fc_0 rfl rfl) (fun s12 => ?_)
  refine fu_go 1 (pc' := 62) (ls' := [.ref 0, am_U, .int a2, .int (fu_b j1), .int (fu_b j5)]) (st' := [.int (fu_b j1)]) (s' := s12) rfl ?_
  refine fu_letS (V := fun j13 : fu_S => fc_X d (some .boolean) k_X11_rule 73 [.ref 0, am_U, .int a2, am_U, .int (fu_b j5)] [] j13) ?_ (fun j13 => ?_)
  · refine fu_iteS (fun h14 => fu_step (fu_ib_eq_t rfl h14) ?_) (fun h14 => fu_step (fu_ib_eq_f rfl h14) ?_)
    · refine fu_go 1 (pc' := 66) (ls' := [.ref 0, am_U, .int a2, .int (fu_b j1), .int (fu_b j5)]) (st' := [.ref 0]) (s' := s12) rfl ?_
      refine fu_step (fu_getR rfl fc_0 rfl rfl) ?_
      refine fu_go 1 (pc' := 70) (ls' := [.ref 0, am_U, .int a2, .int (fu_b j1), .int (fu_b j5)]) (st' := [.int a2, .ref 11]) (s' := s12) rfl ?_
      refine fu_letS (fu_cVJ rfl rfl rfl rfl rfl (fu_recv fc_11 am_at_X4_setOdds rfl) (e_X4_setOdds d (by omega) s12 11 fc_is3_11 a2)) (fun r15 => ?_)
      show fu_J _ _ (fc_X d (some .boolean) k_X11_rule 73 [.ref 0, am_U, .int a2, .int (fu_b j1), .int (fu_b j5)] [] r15)
      exact fu_leaf rfl ⟨.inr rfl, .inl rfl, .inr rfl, .inl rfl, .inr rfl, trivial⟩
    · exact fu_leaf rfl ⟨.inr rfl, .inl rfl, .inr rfl, .inl rfl, .inr rfl, trivial⟩
  show fu_J _ _ (fc_X d (some .boolean) k_X11_rule 73 [.ref 0, am_U, .int a2, am_U, .int (fu_b j5)] [] j13)
  refine fu_go 1 (pc' := 75) (ls' := [.ref 0, am_U, .int a2, am_U, .int (fu_b j5)]) (st' := [.int (fu_b j5)]) (s' := j13) rfl ?_
  refine fu_letS (V := fun j16 : fu_S => fc_X d (some .boolean) k_X11_rule 86 [.ref 0, am_U, am_U, am_U, am_U] [] j16) ?_ (fun j16 => ?_)
  · refine fu_iteS (fun h17 => fu_step (fu_ib_eq_t rfl h17) ?_) (fun h17 => fu_step (fu_ib_eq_f rfl h17) ?_)
    · refine fu_go 1 (pc' := 79) (ls' := [.ref 0, am_U, .int a2, am_U, .int (fu_b j5)]) (st' := [.ref 0]) (s' := j13) rfl ?_
      refine fu_step (fu_getR rfl fc_0 rfl rfl) ?_
      refine fu_go 1 (pc' := 83) (ls' := [.ref 0, am_U, .int a2, am_U, .int (fu_b j5)]) (st' := [.int a2, .ref 11]) (s' := j13) rfl ?_
      refine fu_letS (fu_cVJ rfl rfl rfl rfl rfl (fu_recv fc_11 am_at_X4_setArm rfl) (e_X4_setArm d (by omega) j13 11 fc_is3_11 a2)) (fun r18 => ?_)
      show fu_J _ _ (fc_X d (some .boolean) k_X11_rule 86 [.ref 0, am_U, .int a2, am_U, .int (fu_b j5)] [] r18)
      exact fu_leaf rfl ⟨.inr rfl, .inl rfl, .inl rfl, .inl rfl, .inl rfl, trivial⟩
    · exact fu_leaf rfl ⟨.inr rfl, .inl rfl, .inl rfl, .inl rfl, .inl rfl, trivial⟩
  show fu_J _ _ (fc_X d (some .boolean) k_X11_rule 86 [.ref 0, am_U, am_U, am_U, am_U] [] j16)
  refine fu_go 1 (pc' := 87) (ls' := [.ref 0, am_U, am_U, am_U, am_U]) (st' := [.ref 0]) (s' := j16) rfl ?_
  refine fu_step (fu_getI rfl fc_0 rfl rfl) ?_
  refine fu_letS (V := fun j19 : Bool => fc_X d (some .boolean) k_X11_rule 98 [am_U, am_U, am_U, am_U, am_U] [.int (fu_b j19)] j16) ?_ (fun j19 => ?_)
  · refine fu_iteS (fun h20 => fu_step (fu_if_ne_t rfl h20) ?_) (fun h20 => fu_step (fu_if_ne_f rfl h20) ?_)
    · refine fu_go 2 (pc' := 98) (ls' := [.ref 0, am_U, am_U, am_U, am_U]) (st' := [.int (1 : Int32)]) (s' := j16) rfl ?_
      exact fu_leaf rfl ⟨.inl rfl, .inl rfl, .inl rfl, .inl rfl, .inl rfl, trivial⟩
    · refine fu_go 1 (pc' := 98) (ls' := [.ref 0, am_U, am_U, am_U, am_U]) (st' := [.int (0 : Int32)]) (s' := j16) rfl ?_
      exact fu_leaf rfl ⟨.inl rfl, .inl rfl, .inl rfl, .inl rfl, .inl rfl, trivial⟩
  show fu_J _ _ (fc_X d (some .boolean) k_X11_rule 98 [am_U, am_U, am_U, am_U, am_U] [.int (fu_b j19)] j16)
  exact fu_bret (b := j19) rfl rfl
/-! X11_soonest -/
set_option maxRecDepth 100000 in
theorem e_X11_soonest (d : Nat) (hd : 5 ≤ d) (s : fu_S) (a1 : Int32) : fu_J (f_X11_soonest s a1) (fun r => some (some (.int r.1), r.2)) (am_D (fu_ho fc_sh) am_m d 206 [.ref 0, .int a1] s) := by
  obtain ⟨d, rfl⟩ : ∃ e, d = e + 1 := ⟨d - 1, by omega⟩
  refine fu_enter (ls := [.ref 0, .int a1]) am_at_X11_soonest rfl rfl ?_
  show fu_J _ _ (fc_X d (some .int) k_X11_soonest 0 [.ref 0, .int a1] [] s)
  unfold f_X11_soonest
  refine fu_go 2 (pc' := 2) (ls' := [.ref 0, .int a1]) (st' := [.ref 0, .ref 0]) (s' := s) rfl ?_
  refine fu_step (fu_getR rfl fc_0 rfl rfl) ?_
  refine fu_go 1 (pc' := 6) (ls' := [.ref 0, .int a1]) (st' := [.int a1, .ref 11, .ref 0]) (s' := s) rfl ?_
  refine fu_step (fu_cV rfl rfl rfl rfl rfl (fu_recv fc_11 am_at_X4_hasThing rfl) (fu_eq (e_X4_hasThing d (by omega) s 11 fc_is3_11 a1) rfl)) ?_
  show fu_J _ _ (fc_X d (some .int) k_X11_soonest 9 [.ref 0, .int a1] [.int (fu_b (f_X4_hasThing s 11 a1)), .ref 0] s)
  refine fu_bind (V := fun j1 : Int32 => fc_X d (some .int) k_X11_soonest 44 [.ref 0, .int a1] [.int j1, .ref 0] s) ?_ (fun j1 => ?_)
  · refine fu_ite (fun h2 => fu_step (fu_ib_ne_t rfl h2) ?_) (fun h2 => fu_step (fu_ib_ne_f rfl h2) ?_)
    · refine fu_go 1 (pc' := 17) (ls' := [.ref 0, .int a1]) (st' := [.ref 0, .ref 0]) (s' := s) rfl ?_
      refine fu_step (fu_getR rfl fc_0 rfl rfl) ?_
      refine fu_go 1 (pc' := 21) (ls' := [.ref 0, .int a1]) (st' := [.int a1, .ref 11, .ref 0]) (s' := s) rfl ?_
      refine fu_bind (fu_cVJ rfl rfl rfl rfl rfl (fu_recv fc_11 am_at_X4_isScratched rfl) (e_X4_isScratched d (by omega) s 11 fc_is3_11 a1)) (fun r3 => ?_)
      show fu_J _ _ (fc_X d (some .int) k_X11_soonest 24 [.ref 0, .int a1] [.int (fu_b r3), .ref 0] s)
      refine fu_ite (fun h4 => fu_step (fu_ib_ne_t rfl h4) ?_) (fun h4 => fu_step (fu_ib_ne_f rfl h4) ?_)
      · refine fu_go 1 (pc' := 44) (ls' := [.ref 0, .int a1]) (st' := [.int (0 : Int32), .ref 0]) (s' := s) rfl ?_
        exact fu_leaf rfl ⟨.inr rfl, .inr rfl, trivial⟩
      · refine fu_go 1 (pc' := 28) (ls' := [.ref 0, .int a1]) (st' := [.ref 0, .ref 0]) (s' := s) rfl ?_
        refine fu_step (fu_getR rfl fc_0 rfl rfl) ?_
        refine fu_go 1 (pc' := 32) (ls' := [.ref 0, .int a1]) (st' := [.int a1, .ref 11, .ref 0]) (s' := s) rfl ?_
        refine fu_bind (fu_cVJ rfl rfl rfl rfl rfl (fu_recv fc_11 am_at_X4_ableSetFor rfl) (e_X4_ableSetFor d (by omega) s 11 fc_is3_11 a1)) (fun r5 => ?_)
        show fu_J _ _ (fc_X d (some .int) k_X11_soonest 35 [.ref 0, .int a1] [.int r5, .ref 0] s)
        refine fu_ite (fun h6 => fu_step (fu_if_ne_t rfl h6) ?_) (fun h6 => fu_step (fu_if_ne_f rfl h6) ?_)
        · refine fu_go 2 (pc' := 44) (ls' := [.ref 0, .int a1]) (st' := [.int (8 : Int32), .ref 0]) (s' := s) rfl ?_
          exact fu_leaf rfl ⟨.inr rfl, .inr rfl, trivial⟩
        · refine fu_go 1 (pc' := 44) (ls' := [.ref 0, .int a1]) (st' := [.int (0 : Int32), .ref 0]) (s' := s) rfl ?_
          exact fu_leaf rfl ⟨.inr rfl, .inr rfl, trivial⟩
    · refine fu_go 2 (pc' := 44) (ls' := [.ref 0, .int a1]) (st' := [.int (2 : Int32), .ref 0]) (s' := s) rfl ?_
      exact fu_leaf rfl ⟨.inr rfl, .inr rfl, trivial⟩
  show fu_J _ _ (fc_X d (some .int) k_X11_soonest 44 [.ref 0, .int a1] [.int j1, .ref 0] s)
  refine fu_lets (b := (fu_pi s 0 15 j1)) (fu_putI rfl fc_0 rfl rfl) (fun s7 => ?_)
  refine fu_go 1 (pc' := 48) (ls' := [.ref 0, .int a1]) (st' := [.ref 0]) (s' := s7) rfl ?_
  refine fu_step (fu_getI rfl fc_0 rfl rfl) ?_
  refine fu_bind (V := fun j8 : Int32 => fc_X d (some .int) k_X11_soonest 66 [am_U, am_U] [.int j8] s7) ?_ (fun j8 => ?_)
  · refine fu_ite (fun h9 => fu_step (fu_if_ne_t rfl h9) ?_) (fun h9 => fu_step (fu_if_ne_f rfl h9) ?_)
    · refine fu_go 1 (pc' := 55) (ls' := [.ref 0, .int a1]) (st' := [.ref 0]) (s' := s7) rfl ?_
      refine fu_step (fu_getR rfl fc_0 rfl rfl) ?_
      refine fu_go 1 (pc' := 59) (ls' := [.ref 0, .int a1]) (st' := [.int a1, .ref 11]) (s' := s7) rfl ?_
      refine fu_bind (fu_cVJ rfl rfl rfl rfl rfl (fu_recv fc_11 am_at_X4_soonestFound rfl) (e_X4_soonestFound d (by omega) s7 11 fc_is3_11 a1)) (fun r10 => ?_)
      show fu_J _ _ (fc_X d (some .int) k_X11_soonest 62 [.ref 0, .int a1] [.int r10] s7)
      refine fu_go 1 (pc' := 66) (ls' := [.ref 0, .int a1]) (st' := [.int r10]) (s' := s7) rfl ?_
      exact fu_leaf rfl ⟨.inl rfl, .inl rfl, trivial⟩
    · refine fu_go 1 (pc' := 66) (ls' := [.ref 0, .int a1]) (st' := [.int (-1 : Int32)]) (s' := s7) rfl ?_
      exact fu_leaf rfl ⟨.inl rfl, .inl rfl, trivial⟩
  show fu_J _ _ (fc_X d (some .int) k_X11_soonest 66 [am_U, am_U] [.int j8] s7)
  exact fu_iret rfl rfl
/-! X11_round -/
set_option maxRecDepth 100000 in
theorem e_X11_round (d : Nat) (hd : 6 ≤ d) (s : fu_S) : fu_J (f_X11_round s) (fun r => some (some (.int r.1), r.2)) (am_D (fu_ho fc_sh) am_m d 207 [.ref 0] s) := by
  obtain ⟨d, rfl⟩ : ∃ e, d = e + 1 := ⟨d - 1, by omega⟩
  refine fu_enter (ls := [.ref 0]) am_at_X11_round rfl rfl ?_
  show fu_J _ _ (fc_X d (some .int) k_X11_round 0 [.ref 0] [] s)
  unfold f_X11_round
  refine fu_go 2 (pc' := 2) (ls' := [.ref 0]) (st' := [.int (0 : Int32), .ref 0]) (s' := s) rfl ?_
  refine fu_lets (b := (fu_pi s 0 15 (0 : Int32))) (fu_putI rfl fc_0 rfl rfl) (fun s1 => ?_)
  refine fu_go 1 (pc' := 6) (ls' := [.ref 0]) (st' := [.ref 0]) (s' := s1) rfl ?_
  refine fu_step (fu_getR rfl fc_0 rfl rfl) ?_
  refine fu_go 1 (pc' := 10) (ls' := [.ref 0]) (st' := [.ref 0, .ref 110]) (s' := s1) rfl ?_
  refine fu_step (fu_getR rfl fc_0 rfl rfl) ?_
  refine fu_bind (fu_cVJ rfl rfl rfl rfl rfl (fu_recv fc_110 am_at_X10_assign rfl) (e_X10_assign d (by omega) s1 11 fc_is3_11)) (fun r2 => ?_)
  show fu_J _ _ (fc_X d (some .int) k_X11_round 16 [.ref 0] [.int r2.1] r2.2)
  exact fu_iret rfl rfl
/-! X11_works -/
set_option maxRecDepth 100000 in
theorem e_X11_works (d : Nat) (hd : 6 ≤ d) (s : fu_S) (a1 : Int32) : fu_J (f_X11_works s a1) (fun r => some (some (.int r.1), r.2)) (am_D (fu_ho fc_sh) am_m d 208 [.ref 0, .int a1] s) := by
  obtain ⟨d, rfl⟩ : ∃ e, d = e + 1 := ⟨d - 1, by omega⟩
  refine fu_enter (ls := [.ref 0, .int a1, am_U]) am_at_X11_works rfl rfl ?_
  show fu_J _ _ (fc_X d (some .int) k_X11_works 0 [.ref 0, .int a1, am_U] [] s)
  unfold f_X11_works
  refine fu_go 2 (pc' := 2) (ls' := [.ref 0, .int a1, am_U]) (st' := [.ref 0, .ref 0]) (s' := s) rfl ?_
  refine fu_step (fu_getR rfl fc_0 rfl rfl) ?_
  refine fu_go 1 (pc' := 6) (ls' := [.ref 0, .int a1, am_U]) (st' := [.int a1, .ref 11, .ref 0]) (s' := s) rfl ?_
  refine fu_step (fu_cV rfl rfl rfl rfl rfl (fu_recv fc_11 am_at_X4_hasThing rfl) (fu_eq (e_X4_hasThing d (by omega) s 11 fc_is3_11 a1) rfl)) ?_
  show fu_J _ _ (fc_X d (some .int) k_X11_works 9 [.ref 0, .int a1, am_U] [.int (fu_b (f_X4_hasThing s 11 a1)), .ref 0] s)
  refine fu_bind (V := fun j1 : Int32 => fc_X d (some .int) k_X11_works 17 [.ref 0, .int a1, am_U] [.int j1, .ref 0] s) ?_ (fun j1 => ?_)
  · refine fu_ite (fun h2 => fu_step (fu_ib_eq_t rfl h2) ?_) (fun h2 => fu_step (fu_ib_eq_f rfl h2) ?_)
    · refine fu_go 2 (pc' := 17) (ls' := [.ref 0, .int a1, am_U]) (st' := [.int (0 : Int32), .ref 0]) (s' := s) rfl ?_
      exact fu_leaf rfl ⟨.inr rfl, .inr rfl, .inl rfl, trivial⟩
    · refine fu_go 1 (pc' := 17) (ls' := [.ref 0, .int a1, am_U]) (st' := [.int (2 : Int32), .ref 0]) (s' := s) rfl ?_
      exact fu_leaf rfl ⟨.inr rfl, .inr rfl, .inl rfl, trivial⟩
  show fu_J _ _ (fc_X d (some .int) k_X11_works 17 [.ref 0, .int a1, am_U] [.int j1, .ref 0] s)
  refine fu_lets (b := (fu_pi s 0 15 j1)) (fu_putI rfl fc_0 rfl rfl) (fun s3 => ?_)
  refine fu_go 1 (pc' := 21) (ls' := [.ref 0, .int a1, am_U]) (st' := [.ref 0]) (s' := s3) rfl ?_
  refine fu_step (fu_getI rfl fc_0 rfl rfl) ?_
  refine fu_ite (fun h4 => fu_step (fu_if_eq_t rfl h4) ?_) (fun h4 => fu_step (fu_if_eq_f rfl h4) ?_)
  · refine fu_go 1 (pc' := 30) (ls' := [.ref 0, .int a1, am_U]) (st' := [.ref 0]) (s' := s3) rfl ?_
    refine fu_step (fu_getR rfl fc_0 rfl rfl) ?_
    refine fu_go 1 (pc' := 34) (ls' := [.ref 0, .int a1, am_U]) (st' := [.ref 0, .ref 110]) (s' := s3) rfl ?_
    refine fu_step (fu_getR rfl fc_0 rfl rfl) ?_
    refine fu_bind (fu_cVJ rfl rfl rfl rfl rfl (fu_recv fc_110 am_at_X10_assign rfl) (e_X10_assign d (by omega) s3 11 fc_is3_11)) (fun r5 => ?_)
    show fu_J _ _ (fc_X d (some .int) k_X11_works 40 [.ref 0, .int a1, am_U] [.int r5.1] r5.2)
    refine fu_go 2 (pc' := 42) (ls' := [.ref 0, .int a1, am_U]) (st' := [.ref 0]) (s' := r5.2) rfl ?_
    refine fu_step (fu_getR rfl fc_0 rfl rfl) ?_
    refine fu_go 1 (pc' := 46) (ls' := [.ref 0, .int a1, am_U]) (st' := [.int a1, .ref 110]) (s' := r5.2) rfl ?_
    refine fu_bind (fu_cVJ rfl rfl rfl rfl rfl (fu_recv fc_110 am_at_X10_workerOn rfl) (e_X10_workerOn d (by omega) r5.2 a1)) (fun r6 => ?_)
    show fu_J _ _ (fc_X d (some .int) k_X11_works 49 [.ref 0, .int a1, am_U] [.int r6] r5.2)
    refine fu_go 4 (pc' := 53) (ls' := [.ref 0, .int a1, .int r6]) (st' := [.int (-1 : Int32), .int r6, .ref 0]) (s' := r5.2) rfl ?_
    refine fu_bind (V := fun j7 : Int32 => fc_X d (some .int) k_X11_works 62 [am_U, am_U, .int r6] [.int j7, .ref 0] r5.2) ?_ (fun j7 => ?_)
    · refine fu_ite (fun h8 => fu_step (fu_ic_ne_t rfl h8) ?_) (fun h8 => fu_step (fu_ic_ne_f rfl h8) ?_)
      · refine fu_go 2 (pc' := 62) (ls' := [.ref 0, .int a1, .int r6]) (st' := [.int (8 : Int32), .ref 0]) (s' := r5.2) rfl ?_
        exact fu_leaf rfl ⟨.inl rfl, .inl rfl, .inr rfl, trivial⟩
      · refine fu_go 1 (pc' := 62) (ls' := [.ref 0, .int a1, .int r6]) (st' := [.int (0 : Int32), .ref 0]) (s' := r5.2) rfl ?_
        exact fu_leaf rfl ⟨.inl rfl, .inl rfl, .inr rfl, trivial⟩
    show fu_J _ _ (fc_X d (some .int) k_X11_works 62 [am_U, am_U, .int r6] [.int j7, .ref 0] r5.2)
    refine fu_lets (b := (fu_pi r5.2 0 15 j7)) (fu_putI rfl fc_0 rfl rfl) (fun s9 => ?_)
    refine fu_go 1 (pc' := 66) (ls' := [am_U, am_U, .int r6]) (st' := [.int r6]) (s' := s9) rfl ?_
    exact fu_iret rfl rfl
  · refine fu_go 1 (pc' := 28) (ls' := [.ref 0, .int a1, am_U]) (st' := [.int (-1 : Int32)]) (s' := s3) rfl ?_
    exact fu_iret rfl rfl
/-! X11_needs -/
set_option maxRecDepth 100000 in
theorem e_X11_needs (d : Nat) (hd : 4 ≤ d) (s : fu_S) (a1 : Int32) : fu_J (f_X11_needs s a1) (fun r => some (some (.int r.1), r.2)) (am_D (fu_ho fc_sh) am_m d 209 [.ref 0, .int a1] s) := by
  obtain ⟨d, rfl⟩ : ∃ e, d = e + 1 := ⟨d - 1, by omega⟩
  refine fu_enter (ls := [.ref 0, .int a1]) am_at_X11_needs rfl rfl ?_
  show fu_J _ _ (fc_X d (some .int) k_X11_needs 0 [.ref 0, .int a1] [] s)
  unfold f_X11_needs
  refine fu_go 2 (pc' := 2) (ls' := [.ref 0, .int a1]) (st' := [.ref 0, .ref 0]) (s' := s) rfl ?_
  refine fu_step (fu_getR rfl fc_0 rfl rfl) ?_
  refine fu_go 1 (pc' := 6) (ls' := [.ref 0, .int a1]) (st' := [.int a1, .ref 11, .ref 0]) (s' := s) rfl ?_
  refine fu_step (fu_cV rfl rfl rfl rfl rfl (fu_recv fc_11 am_at_X4_hasPerson rfl) (fu_eq (e_X4_hasPerson d (by omega) s 11 fc_is3_11 a1) rfl)) ?_
  show fu_J _ _ (fc_X d (some .int) k_X11_needs 9 [.ref 0, .int a1] [.int (fu_b (f_X4_hasPerson s 11 a1)), .ref 0] s)
  refine fu_bind (V := fun j1 : Int32 => fc_X d (some .int) k_X11_needs 17 [.ref 0, .int a1] [.int j1, .ref 0] s) ?_ (fun j1 => ?_)
  · refine fu_ite (fun h2 => fu_step (fu_ib_eq_t rfl h2) ?_) (fun h2 => fu_step (fu_ib_eq_f rfl h2) ?_)
    · refine fu_go 2 (pc' := 17) (ls' := [.ref 0, .int a1]) (st' := [.int (0 : Int32), .ref 0]) (s' := s) rfl ?_
      exact fu_leaf rfl ⟨.inr rfl, .inr rfl, trivial⟩
    · refine fu_go 1 (pc' := 17) (ls' := [.ref 0, .int a1]) (st' := [.int (2 : Int32), .ref 0]) (s' := s) rfl ?_
      exact fu_leaf rfl ⟨.inr rfl, .inr rfl, trivial⟩
  show fu_J _ _ (fc_X d (some .int) k_X11_needs 17 [.ref 0, .int a1] [.int j1, .ref 0] s)
  refine fu_lets (b := (fu_pi s 0 15 j1)) (fu_putI rfl fc_0 rfl rfl) (fun s3 => ?_)
  refine fu_go 1 (pc' := 21) (ls' := [.ref 0, .int a1]) (st' := [.ref 0]) (s' := s3) rfl ?_
  refine fu_step (fu_getI rfl fc_0 rfl rfl) ?_
  refine fu_ite (fun h4 => fu_step (fu_if_eq_t rfl h4) ?_) (fun h4 => fu_step (fu_if_eq_f rfl h4) ?_)
  · refine fu_go 1 (pc' := 30) (ls' := [.ref 0, .int a1]) (st' := [.ref 0]) (s' := s3) rfl ?_
    refine fu_step (fu_getR rfl fc_0 rfl rfl) ?_
    refine fu_go 1 (pc' := 34) (ls' := [.ref 0, .int a1]) (st' := [.ref 0, .ref 114]) (s' := s3) rfl ?_
    refine fu_step (fu_getR rfl fc_0 rfl rfl) ?_
    refine fu_go 1 (pc' := 38) (ls' := [.ref 0, .int a1]) (st' := [.int (0 : Int32), .ref 11, .ref 114]) (s' := s3) rfl ?_
    refine fu_bind (fu_cVJ rfl rfl rfl rfl rfl (fu_recv fc_114 am_at_X0_drawNeeds rfl) (e_X0_drawNeeds d (by omega) s3 11 fc_is3_11 (0 : Int32))) (fun r5 => ?_)
    show fu_J _ _ (fc_X d (some .int) k_X11_needs 41 [.ref 0, .int a1] [] r5)
    refine fu_go 1 (pc' := 42) (ls' := [.ref 0, .int a1]) (st' := [.ref 0]) (s' := r5) rfl ?_
    refine fu_step (fu_getR rfl fc_0 rfl rfl) ?_
    refine fu_go 1 (pc' := 46) (ls' := [.ref 0, .int a1]) (st' := [.int a1, .ref 114]) (s' := r5) rfl ?_
    refine fu_bind (fu_cVJ rfl rfl rfl rfl rfl (fu_recv fc_114 am_at_X0_from rfl) (e_X0_from d (by omega) r5 a1)) (fun r6 => ?_)
    show fu_J _ _ (fc_X d (some .int) k_X11_needs 49 [.ref 0, .int a1] [.int r6] r5)
    exact fu_iret rfl rfl
  · refine fu_go 1 (pc' := 28) (ls' := [.ref 0, .int a1]) (st' := [.int (-1 : Int32)]) (s' := s3) rfl ?_
    exact fu_iret rfl rfl
/-! X11_ring -/
set_option maxRecDepth 100000 in
theorem e_X11_ring (d : Nat) (hd : 4 ≤ d) (s : fu_S) : fu_J (f_X11_ring s) (fun r => some (some (.int r.1), r.2)) (am_D (fu_ho fc_sh) am_m d 210 [.ref 0] s) := by
  obtain ⟨d, rfl⟩ : ∃ e, d = e + 1 := ⟨d - 1, by omega⟩
  refine fu_enter (ls := [.ref 0, am_U]) am_at_X11_ring rfl rfl ?_
  show fu_J _ _ (fc_X d (some .int) k_X11_ring 0 [.ref 0, am_U] [] s)
  unfold f_X11_ring
  refine fu_go 1 (pc' := 1) (ls' := [.ref 0, am_U]) (st' := [.ref 0]) (s' := s) rfl ?_
  refine fu_step (fu_getR rfl fc_0 rfl rfl) ?_
  refine fu_go 1 (pc' := 5) (ls' := [.ref 0, am_U]) (st' := [.ref 0, .ref 114]) (s' := s) rfl ?_
  refine fu_step (fu_getR rfl fc_0 rfl rfl) ?_
  refine fu_go 1 (pc' := 9) (ls' := [.ref 0, am_U]) (st' := [.int (0 : Int32), .ref 11, .ref 114]) (s' := s) rfl ?_
  refine fu_bind (fu_cVJ rfl rfl rfl rfl rfl (fu_recv fc_114 am_at_X0_drawNeeds rfl) (e_X0_drawNeeds d (by omega) s 11 fc_is3_11 (0 : Int32))) (fun r1 => ?_)
  show fu_J _ _ (fc_X d (some .int) k_X11_ring 12 [.ref 0, am_U] [] r1)
  refine fu_go 1 (pc' := 13) (ls' := [.ref 0, am_U]) (st' := [.ref 0]) (s' := r1) rfl ?_
  refine fu_step (fu_getR rfl fc_0 rfl rfl) ?_
  refine fu_bind (fu_cVJ rfl rfl rfl rfl rfl (fu_recv fc_114 am_at_X0_shortestRing rfl) (e_X0_shortestRing d (by omega) r1)) (fun r2 => ?_)
  show fu_J _ _ (fc_X d (some .int) k_X11_ring 19 [.ref 0, am_U] [.int r2] r1)
  refine fu_go 4 (pc' := 23) (ls' := [.ref 0, .int r2]) (st' := [.int (-1 : Int32), .int r2, .ref 0]) (s' := r1) rfl ?_
  refine fu_bind (V := fun j3 : Int32 => fc_X d (some .int) k_X11_ring 32 [am_U, .int r2] [.int j3, .ref 0] r1) ?_ (fun j3 => ?_)
  · refine fu_ite (fun h4 => fu_step (fu_ic_ne_t rfl h4) ?_) (fun h4 => fu_step (fu_ic_ne_f rfl h4) ?_)
    · refine fu_go 2 (pc' := 32) (ls' := [.ref 0, .int r2]) (st' := [.int (8 : Int32), .ref 0]) (s' := r1) rfl ?_
      exact fu_leaf rfl ⟨.inl rfl, .inr rfl, trivial⟩
    · refine fu_go 1 (pc' := 32) (ls' := [.ref 0, .int r2]) (st' := [.int (0 : Int32), .ref 0]) (s' := r1) rfl ?_
      exact fu_leaf rfl ⟨.inl rfl, .inr rfl, trivial⟩
  show fu_J _ _ (fc_X d (some .int) k_X11_ring 32 [am_U, .int r2] [.int j3, .ref 0] r1)
  refine fu_lets (b := (fu_pi r1 0 15 j3)) (fu_putI rfl fc_0 rfl rfl) (fun s5 => ?_)
  refine fu_go 1 (pc' := 36) (ls' := [am_U, .int r2]) (st' := [.int r2]) (s' := s5) rfl ?_
  exact fu_iret rfl rfl
/-! X11_ending -/
set_option maxRecDepth 100000 in
theorem e_X11_ending (d : Nat) (hd : 5 ≤ d) (s : fu_S) : fu_J (f_X11_ending s) (fun r => some (some (.int r.1), r.2)) (am_D (fu_ho fc_sh) am_m d 211 [.ref 0] s) := by
  obtain ⟨d, rfl⟩ : ∃ e, d = e + 1 := ⟨d - 1, by omega⟩
  refine fu_enter (ls := [.ref 0]) am_at_X11_ending rfl rfl ?_
  show fu_J _ _ (fc_X d (some .int) k_X11_ending 0 [.ref 0] [] s)
  unfold f_X11_ending
  refine fu_go 2 (pc' := 2) (ls' := [.ref 0]) (st' := [.int (0 : Int32), .ref 0]) (s' := s) rfl ?_
  refine fu_lets (b := (fu_pi s 0 15 (0 : Int32))) (fu_putI rfl fc_0 rfl rfl) (fun s1 => ?_)
  refine fu_go 1 (pc' := 6) (ls' := [.ref 0]) (st' := [.ref 0]) (s' := s1) rfl ?_
  refine fu_step (fu_getR rfl fc_0 rfl rfl) ?_
  refine fu_go 1 (pc' := 10) (ls' := [.ref 0]) (st' := [.ref 0, .ref 114]) (s' := s1) rfl ?_
  refine fu_step (fu_getR rfl fc_0 rfl rfl) ?_
  refine fu_bind (fu_cVJ rfl rfl rfl rfl rfl (fu_recv fc_114 am_at_X0_leastEnding rfl) (e_X0_leastEnding d (by omega) s1 11 fc_is3_11)) (fun r2 => ?_)
  show fu_J _ _ (fc_X d (some .int) k_X11_ending 16 [.ref 0] [.int r2.1] r2.2)
  refine fu_step (fu_cS rfl rfl rfl rfl rfl rfl (fu_eq (e_J6_bitCount_0f7a4 d (by omega) r2.2 r2.1) rfl)) ?_
  show fu_J _ _ (fc_X d (some .int) k_X11_ending 19 [.ref 0] [.int (f_J6_bitCount_0f7a4 r2.1)] r2.2)
  exact fu_iret rfl rfl
/-! X11_endingSet -/
set_option maxRecDepth 100000 in
theorem e_X11_endingSet (d : Nat) (hd : 5 ≤ d) (s : fu_S) : fu_J (f_X11_endingSet s) (fun r => some (some (.int r.1), r.2)) (am_D (fu_ho fc_sh) am_m d 212 [.ref 0] s) := by
  obtain ⟨d, rfl⟩ : ∃ e, d = e + 1 := ⟨d - 1, by omega⟩
  refine fu_enter (ls := [.ref 0]) am_at_X11_endingSet rfl rfl ?_
  show fu_J _ _ (fc_X d (some .int) k_X11_endingSet 0 [.ref 0] [] s)
  unfold f_X11_endingSet
  refine fu_go 2 (pc' := 2) (ls' := [.ref 0]) (st' := [.int (0 : Int32), .ref 0]) (s' := s) rfl ?_
  refine fu_lets (b := (fu_pi s 0 15 (0 : Int32))) (fu_putI rfl fc_0 rfl rfl) (fun s1 => ?_)
  refine fu_go 1 (pc' := 6) (ls' := [.ref 0]) (st' := [.ref 0]) (s' := s1) rfl ?_
  refine fu_step (fu_getR rfl fc_0 rfl rfl) ?_
  refine fu_go 1 (pc' := 10) (ls' := [.ref 0]) (st' := [.ref 0, .ref 114]) (s' := s1) rfl ?_
  refine fu_step (fu_getR rfl fc_0 rfl rfl) ?_
  refine fu_bind (fu_cVJ rfl rfl rfl rfl rfl (fu_recv fc_114 am_at_X0_leastEnding rfl) (e_X0_leastEnding d (by omega) s1 11 fc_is3_11)) (fun r2 => ?_)
  show fu_J _ _ (fc_X d (some .int) k_X11_endingSet 16 [.ref 0] [.int r2.1] r2.2)
  exact fu_iret rfl rfl
/-! X11_couples -/
set_option maxRecDepth 100000 in
theorem e_X11_couples (d : Nat) (hd : 5 ≤ d) (s : fu_S) (a1 : Int32) (a2 : Int32) : fu_J (f_X11_couples s a1 a2) (fun r => some (some (.int r.1), r.2)) (am_D (fu_ho fc_sh) am_m d 213 [.ref 0, .int a1, .int a2] s) := by
  obtain ⟨d, rfl⟩ : ∃ e, d = e + 1 := ⟨d - 1, by omega⟩
  refine fu_enter (ls := [.ref 0, .int a1, .int a2]) am_at_X11_couples rfl rfl ?_
  show fu_J _ _ (fc_X d (some .int) k_X11_couples 0 [.ref 0, .int a1, .int a2] [] s)
  unfold f_X11_couples
  refine fu_go 2 (pc' := 2) (ls' := [.ref 0, .int a1, .int a2]) (st' := [.ref 0, .ref 0]) (s' := s) rfl ?_
  refine fu_step (fu_getR rfl fc_0 rfl rfl) ?_
  refine fu_go 1 (pc' := 6) (ls' := [.ref 0, .int a1, .int a2]) (st' := [.int a1, .ref 11, .ref 0]) (s' := s) rfl ?_
  refine fu_step (fu_cV rfl rfl rfl rfl rfl (fu_recv fc_11 am_at_X4_hasPerson rfl) (fu_eq (e_X4_hasPerson d (by omega) s 11 fc_is3_11 a1) rfl)) ?_
  show fu_J _ _ (fc_X d (some .int) k_X11_couples 9 [.ref 0, .int a1, .int a2] [.int (fu_b (f_X4_hasPerson s 11 a1)), .ref 0] s)
  refine fu_bind (V := fun j1 : Int32 => fc_X d (some .int) k_X11_couples 28 [.ref 0, .int a1, .int a2] [.int j1, .ref 0] s) ?_ (fun j1 => ?_)
  · refine fu_ite (fun h2 => fu_step (fu_ib_eq_t rfl h2) ?_) (fun h2 => fu_step (fu_ib_eq_f rfl h2) ?_)
    · refine fu_go 1 (pc' := 13) (ls' := [.ref 0, .int a1, .int a2]) (st' := [.ref 0, .ref 0]) (s' := s) rfl ?_
      refine fu_step (fu_getR rfl fc_0 rfl rfl) ?_
      refine fu_go 1 (pc' := 17) (ls' := [.ref 0, .int a1, .int a2]) (st' := [.int a2, .ref 11, .ref 0]) (s' := s) rfl ?_
      refine fu_step (fu_cV rfl rfl rfl rfl rfl (fu_recv fc_11 am_at_X4_isSpot rfl) (fu_eq (e_X4_isSpot d (by omega) s 11 fc_is3_11 a2) rfl)) ?_
      show fu_J _ _ (fc_X d (some .int) k_X11_couples 20 [.ref 0, .int a1, .int a2] [.int (fu_b (f_X4_isSpot 11 a2)), .ref 0] s)
      refine fu_ite (fun h3 => fu_step (fu_ib_eq_t rfl h3) ?_) (fun h3 => fu_step (fu_ib_eq_f rfl h3) ?_)
      · refine fu_go 2 (pc' := 28) (ls' := [.ref 0, .int a1, .int a2]) (st' := [.int (0 : Int32), .ref 0]) (s' := s) rfl ?_
        exact fu_leaf rfl ⟨.inr rfl, .inr rfl, .inr rfl, trivial⟩
      · refine fu_go 1 (pc' := 28) (ls' := [.ref 0, .int a1, .int a2]) (st' := [.int (2 : Int32), .ref 0]) (s' := s) rfl ?_
        exact fu_leaf rfl ⟨.inr rfl, .inr rfl, .inr rfl, trivial⟩
    · refine fu_go 1 (pc' := 28) (ls' := [.ref 0, .int a1, .int a2]) (st' := [.int (2 : Int32), .ref 0]) (s' := s) rfl ?_
      exact fu_leaf rfl ⟨.inr rfl, .inr rfl, .inr rfl, trivial⟩
  show fu_J _ _ (fc_X d (some .int) k_X11_couples 28 [.ref 0, .int a1, .int a2] [.int j1, .ref 0] s)
  refine fu_lets (b := (fu_pi s 0 15 j1)) (fu_putI rfl fc_0 rfl rfl) (fun s4 => ?_)
  refine fu_go 1 (pc' := 32) (ls' := [.ref 0, .int a1, .int a2]) (st' := [.ref 0]) (s' := s4) rfl ?_
  refine fu_step (fu_getI rfl fc_0 rfl rfl) ?_
  refine fu_bind (V := fun j5 : Int32 => fc_X d (some .int) k_X11_couples 51 [am_U, am_U, am_U] [.int j5] s4) ?_ (fun j5 => ?_)
  · refine fu_ite (fun h6 => fu_step (fu_if_ne_t rfl h6) ?_) (fun h6 => fu_step (fu_if_ne_f rfl h6) ?_)
    · refine fu_go 1 (pc' := 39) (ls' := [.ref 0, .int a1, .int a2]) (st' := [.ref 0]) (s' := s4) rfl ?_
      refine fu_step (fu_getR rfl fc_0 rfl rfl) ?_
      refine fu_go 2 (pc' := 44) (ls' := [.ref 0, .int a1, .int a2]) (st' := [.int a2, .int a1, .ref 11]) (s' := s4) rfl ?_
      refine fu_bind (fu_cSJ rfl rfl rfl rfl rfl rfl (e_X1_countCouples d (by omega) s4 11 fc_is3_11 a1 a2)) (fun r7 => ?_)
      show fu_J _ _ (fc_X d (some .int) k_X11_couples 47 [.ref 0, .int a1, .int a2] [.int r7] s4)
      refine fu_go 1 (pc' := 51) (ls' := [.ref 0, .int a1, .int a2]) (st' := [.int r7]) (s' := s4) rfl ?_
      exact fu_leaf rfl ⟨.inl rfl, .inl rfl, .inl rfl, trivial⟩
    · refine fu_go 1 (pc' := 51) (ls' := [.ref 0, .int a1, .int a2]) (st' := [.int (-1 : Int32)]) (s' := s4) rfl ?_
      exact fu_leaf rfl ⟨.inl rfl, .inl rfl, .inl rfl, trivial⟩
  show fu_J _ _ (fc_X d (some .int) k_X11_couples 51 [am_U, am_U, am_U] [.int j5] s4)
  exact fu_iret rfl rfl
/-! X11_tell -/
theorem el_X11_tell_9 (d : Nat) (hd : 0 ≤ d) : ∀ (n : Nat) (s : fu_S) (x1 : Int64) (x3 : Int64) (x5 : Int64) (x7 : Int64) (x9 : Int32), fu_J (l_X11_tell_9 n s x1 x3 x5 x7 x9) (fun r => fc_X d none k_X11_tell 45 [.ref 0, .long x1, am_U, .long x3, am_U, .long r, am_U, am_U, am_U, am_U, am_U, am_U] [] s) (fc_X d none k_X11_tell 9 [.ref 0, .long x1, am_U, .long x3, am_U, .long x5, am_U, .long x7, am_U, .int x9, am_U, am_U] [] s) := by
  intro n
  induction n with
  | zero => intros; exact fu_none
  | succ n ih =>
    intro s x1 x3 x5 x7 x9
    rw [l_X11_tell_9]
    refine fu_go 2 (pc' := 14) (ls' := [.ref 0, .long x1, am_U, .long x3, am_U, .long x5, am_U, .long x7, am_U, .int x9, am_U, am_U]) (st' := [.int (200 : Int32), .int x9]) (s' := s) rfl ?_
    refine fu_ite (fun h1 => fu_step (fu_ic_ge_t rfl h1) ?_) (fun h1 => fu_step (fu_ic_ge_f rfl h1) ?_)
    · refine fu_go 2 (pc' := 20) (ls' := [.ref 0, .long x1, am_U, .long x3, am_U, .long x5, am_U, .long x7, am_U, .int x9, am_U, am_U]) (st' := [.long (0 : Int64), .long x7]) (s' := s) rfl ?_
      refine fu_ite (fun h2 => fu_step (fu_lc_eq_t rfl rfl h2) ?_) (fun h2 => fu_step (fu_lc_eq_f rfl rfl h2) ?_)
      · exact fu_leaf rfl ⟨.inr rfl, .inr rfl, .inl rfl, .inr rfl, .inl rfl, .inr rfl, .inl rfl, .inl rfl, .inl rfl, .inl rfl, .inl rfl, .inl rfl, trivial⟩
      · refine fu_go 2 (pc' := 28) (ls' := [.ref 0, .long x1, am_U, .long x3, am_U, .long x5, am_U, .long x7, am_U, .int x9, am_U, am_U]) (st' := [.long x7, .long x5]) (s' := s) rfl ?_
        refine fu_ite (fun _ => fu_none) (fun h3 => fu_step (fu_lrem rfl h3) ?_)
        refine fu_go 7 (pc' := 9) (ls' := [.ref 0, .long x1, am_U, .long x3, am_U, .long x7, am_U, .long (x5 - x5 / x7 * x7), am_U, .int (x9 + (1 : Int32)), .long (x5 - x5 / x7 * x7), am_U]) (st' := []) (s' := s) rfl ?_
        exact fu_drop (ls' := [.ref 0, .long x1, am_U, .long x3, am_U, .long x7, am_U, .long (x5 - x5 / x7 * x7), am_U, .int (x9 + (1 : Int32)), am_U, am_U]) ⟨.inr rfl, .inr rfl, .inl rfl, .inr rfl, .inl rfl, .inr rfl, .inl rfl, .inr rfl, .inl rfl, .inr rfl, .inl rfl, .inl rfl, trivial⟩ (ih s x1 x3 x7 (x5 - x5 / x7 * x7) (x9 + (1 : Int32)))
    · exact fu_leaf rfl ⟨.inr rfl, .inr rfl, .inl rfl, .inr rfl, .inl rfl, .inr rfl, .inl rfl, .inl rfl, .inl rfl, .inl rfl, .inl rfl, .inl rfl, trivial⟩
set_option maxRecDepth 100000 in
theorem e_X11_tell (d : Nat) (hd : 1 ≤ d) (s : fu_S) (a1 : Int64) (a2 : Int64) : fu_J (f_X11_tell s a1 a2) (fun r => some (none, r)) (am_D (fu_ho fc_sh) am_m d 227 [.ref 0, .long a1, .long a2] s) := by
  obtain ⟨d, rfl⟩ : ∃ e, d = e + 1 := ⟨d - 1, by omega⟩
  refine fu_enter (ls := [.ref 0, .long a1, am_U, .long a2, am_U, am_U, am_U, am_U, am_U, am_U, am_U, am_U]) am_at_X11_tell rfl rfl ?_
  show fu_J _ _ (fc_X d none k_X11_tell 0 [.ref 0, .long a1, am_U, .long a2, am_U, am_U, am_U, am_U, am_U, am_U, am_U, am_U] [] s)
  unfold f_X11_tell
  refine fu_go 6 (pc' := 9) (ls' := [.ref 0, .long a1, am_U, .long a2, am_U, .long a2, am_U, .long a1, am_U, .int (0 : Int32), am_U, am_U]) (st' := []) (s' := s) rfl ?_
  refine fu_drop (ls' := [.ref 0, .long a1, am_U, .long a2, am_U, .long a2, am_U, .long a1, am_U, .int (0 : Int32), am_U, am_U]) ⟨.inr rfl, .inr rfl, .inl rfl, .inr rfl, .inl rfl, .inr rfl, .inl rfl, .inr rfl, .inl rfl, .inr rfl, .inl rfl, .inl rfl, trivial⟩ ?_
  refine fu_bind (el_X11_tell_9 d (by omega) fu_N s a1 a2 a2 a1 (0 : Int32)) (fun r4 => ?_)
  show fu_J _ _ (fc_X d none k_X11_tell 45 [.ref 0, .long a1, am_U, .long a2, am_U, .long r4, am_U, am_U, am_U, am_U, am_U, am_U] [] s)
  refine fu_go 2 (pc' := 48) (ls' := [.ref 0, .long a1, am_U, .long a2, am_U, .long r4, am_U, am_U, am_U, am_U, am_U, am_U]) (st' := [.long (0 : Int64), .long r4]) (s' := s) rfl ?_
  refine fu_bind (V := fun j5 : fu_S => fc_X d none k_X11_tell 68 [am_U, am_U, am_U, am_U, am_U, am_U, am_U, am_U, am_U, am_U, am_U, am_U] [] j5) ?_ (fun j5 => ?_)
  · refine fu_ite (fun h6 => fu_step (fu_lc_eq_t rfl rfl h6) ?_) (fun h6 => fu_step (fu_lc_eq_f rfl rfl h6) ?_)
    · exact fu_leaf rfl ⟨.inl rfl, .inl rfl, .inl rfl, .inl rfl, .inl rfl, .inl rfl, .inl rfl, .inl rfl, .inl rfl, .inl rfl, .inl rfl, .inl rfl, trivial⟩
    · refine fu_go 3 (pc' := 56) (ls' := [.ref 0, .long a1, am_U, .long a2, am_U, .long r4, am_U, am_U, am_U, am_U, am_U, am_U]) (st' := [.long r4, .long a1, .ref 0]) (s' := s) rfl ?_
      refine fu_ite (fun _ => fu_none) (fun h7 => fu_step (fu_ldiv rfl h7) ?_)
      refine fu_lets (b := (fu_pl s 0 16 (a1 / r4))) (fu_putL rfl fc_0 rfl rfl) (fun s8 => ?_)
      refine fu_go 3 (pc' := 64) (ls' := [.ref 0, .long a1, am_U, .long a2, am_U, .long r4, am_U, am_U, am_U, am_U, am_U, am_U]) (st' := [.long r4, .long a2, .ref 0]) (s' := s8) rfl ?_
      refine fu_ite (fun _ => fu_none) (fun h9 => fu_step (fu_ldiv rfl h9) ?_)
      refine fu_lets (b := (fu_pl s8 0 17 (a2 / r4))) (fu_putL rfl fc_0 rfl rfl) (fun s10 => ?_)
      exact fu_leaf rfl ⟨.inl rfl, .inl rfl, .inl rfl, .inl rfl, .inl rfl, .inl rfl, .inl rfl, .inl rfl, .inl rfl, .inl rfl, .inl rfl, .inl rfl, trivial⟩
  show fu_J _ _ (fc_X d none k_X11_tell 68 [am_U, am_U, am_U, am_U, am_U, am_U, am_U, am_U, am_U, am_U, am_U, am_U] [] j5)
  exact fu_vret rfl rfl
/-! X11_whose -/
theorem el_X11_whose_74 (d : Nat) (hd : 4 ≤ d) : ∀ (n : Nat) (s : fu_S) (x1 : Int32) (x2 : Int32) (x3 : Int32) (x4 : Int32) (x5 : Int32), fu_J (l_X11_whose_74 n s x1 x2 x3 x4 x5) (fun r => fc_X d (some .boolean) k_X11_whose 108 [.ref 0, .int x1, .int x2, .int x3, .int r, am_U] [] s) (fc_X d (some .boolean) k_X11_whose 74 [.ref 0, .int x1, .int x2, .int x3, .int x4, .int x5] [] s) := by
  intro n
  induction n with
  | zero => intros; exact fu_none
  | succ n ih =>
    intro s x1 x2 x3 x4 x5
    rw [l_X11_whose_74]
    refine fu_go 2 (pc' := 77) (ls' := [.ref 0, .int x1, .int x2, .int x3, .int x4, .int x5]) (st' := [.ref 0, .int x5]) (s' := s) rfl ?_
    refine fu_step (fu_getR rfl fc_0 rfl rfl) ?_
    refine fu_step (fu_cV rfl rfl rfl rfl rfl (fu_recv fc_11 am_at_X4_people rfl) (fu_eq (e_X4_people d (by omega) s 11 fc_is3_11) rfl)) ?_
    show fu_J _ _ (fc_X d (some .boolean) k_X11_whose 83 [.ref 0, .int x1, .int x2, .int x3, .int x4, .int x5] [.int (f_X4_people s 11), .int x5] s)
    refine fu_ite (fun h9 => fu_step (fu_ic_ge_t rfl h9) ?_) (fun h9 => fu_step (fu_ic_ge_f rfl h9) ?_)
    · refine fu_go 2 (pc' := 89) (ls' := [.ref 0, .int x1, .int x2, .int x3, .int x4, .int x5]) (st' := [.ref 0, .int x4]) (s' := s) rfl ?_
      refine fu_step (fu_getR rfl fc_0 rfl rfl) ?_
      refine fu_go 3 (pc' := 96) (ls' := [.ref 0, .int x1, .int x2, .int x3, .int x4, .int x5]) (st' := [.int x5, .int x2, .int x1, .ref 11, .int x4]) (s' := s) rfl ?_
      refine fu_bind (fu_cSJ rfl rfl rfl rfl rfl rfl (e_X1_weightOf d (by omega) s 11 fc_is3_11 x1 x2 x5)) (fun r10 => ?_)
      show fu_J _ _ (fc_X d (some .boolean) k_X11_whose 99 [.ref 0, .int x1, .int x2, .int x3, .int x4, .int x5] [.int r10, .int x4] s)
      refine fu_go 4 (pc' := 74) (ls' := [.ref 0, .int x1, .int x2, .int x3, .int (x4 + r10), .int (x5 + (1 : Int32))]) (st' := []) (s' := s) rfl ?_
      exact fu_drop (ls' := [.ref 0, .int x1, .int x2, .int x3, .int (x4 + r10), .int (x5 + (1 : Int32))]) ⟨.inr rfl, .inr rfl, .inr rfl, .inr rfl, .inr rfl, .inr rfl, trivial⟩ (ih s x1 x2 x3 (x4 + r10) (x5 + (1 : Int32)))
    · exact fu_leaf rfl ⟨.inr rfl, .inr rfl, .inr rfl, .inr rfl, .inr rfl, .inl rfl, trivial⟩
set_option maxRecDepth 100000 in
theorem e_X11_whose (d : Nat) (hd : 5 ≤ d) (s : fu_S) (a1 : Int32) (a2 : Int32) (a3 : Int32) : fu_J (f_X11_whose s a1 a2 a3) (fun r => some (some (.int (fu_b r.1)), r.2)) (am_D (fu_ho fc_sh) am_m d 214 [.ref 0, .int a1, .int a2, .int a3] s) := by
  obtain ⟨d, rfl⟩ : ∃ e, d = e + 1 := ⟨d - 1, by omega⟩
  refine fu_enter (ls := [.ref 0, .int a1, .int a2, .int a3, am_U, am_U]) am_at_X11_whose rfl rfl ?_
  show fu_J _ _ (fc_X d (some .boolean) k_X11_whose 0 [.ref 0, .int a1, .int a2, .int a3, am_U, am_U] [] s)
  unfold f_X11_whose
  refine fu_go 2 (pc' := 2) (ls' := [.ref 0, .int a1, .int a2, .int a3, am_U, am_U]) (st' := [.ref 0, .ref 0]) (s' := s) rfl ?_
  refine fu_step (fu_getR rfl fc_0 rfl rfl) ?_
  refine fu_go 1 (pc' := 6) (ls' := [.ref 0, .int a1, .int a2, .int a3, am_U, am_U]) (st' := [.int a1, .ref 11, .ref 0]) (s' := s) rfl ?_
  refine fu_step (fu_cV rfl rfl rfl rfl rfl (fu_recv fc_11 am_at_X4_hasPerson rfl) (fu_eq (e_X4_hasPerson d (by omega) s 11 fc_is3_11 a1) rfl)) ?_
  show fu_J _ _ (fc_X d (some .boolean) k_X11_whose 9 [.ref 0, .int a1, .int a2, .int a3, am_U, am_U] [.int (fu_b (f_X4_hasPerson s 11 a1)), .ref 0] s)
  refine fu_bind (V := fun j1 : Int32 => fc_X d (some .boolean) k_X11_whose 56 [.ref 0, .int a1, .int a2, .int a3, am_U, am_U] [.int j1, .ref 0] s) ?_ (fun j1 => ?_)
  · refine fu_ite (fun h2 => fu_step (fu_ib_eq_t rfl h2) ?_) (fun h2 => fu_step (fu_ib_eq_f rfl h2) ?_)
    · refine fu_go 1 (pc' := 13) (ls' := [.ref 0, .int a1, .int a2, .int a3, am_U, am_U]) (st' := [.ref 0, .ref 0]) (s' := s) rfl ?_
      refine fu_step (fu_getR rfl fc_0 rfl rfl) ?_
      refine fu_go 1 (pc' := 17) (ls' := [.ref 0, .int a1, .int a2, .int a3, am_U, am_U]) (st' := [.int a2, .ref 11, .ref 0]) (s' := s) rfl ?_
      refine fu_step (fu_cV rfl rfl rfl rfl rfl (fu_recv fc_11 am_at_X4_isSpot rfl) (fu_eq (e_X4_isSpot d (by omega) s 11 fc_is3_11 a2) rfl)) ?_
      show fu_J _ _ (fc_X d (some .boolean) k_X11_whose 20 [.ref 0, .int a1, .int a2, .int a3, am_U, am_U] [.int (fu_b (f_X4_isSpot 11 a2)), .ref 0] s)
      refine fu_ite (fun h3 => fu_step (fu_ib_eq_t rfl h3) ?_) (fun h3 => fu_step (fu_ib_eq_f rfl h3) ?_)
      · refine fu_go 1 (pc' := 24) (ls' := [.ref 0, .int a1, .int a2, .int a3, am_U, am_U]) (st' := [.ref 0, .ref 0]) (s' := s) rfl ?_
        refine fu_step (fu_getR rfl fc_0 rfl rfl) ?_
        refine fu_go 1 (pc' := 28) (ls' := [.ref 0, .int a1, .int a2, .int a3, am_U, am_U]) (st' := [.int a3, .ref 11, .ref 0]) (s' := s) rfl ?_
        refine fu_step (fu_cV rfl rfl rfl rfl rfl (fu_recv fc_11 am_at_X4_hasPerson rfl) (fu_eq (e_X4_hasPerson d (by omega) s 11 fc_is3_11 a3) rfl)) ?_
        show fu_J _ _ (fc_X d (some .boolean) k_X11_whose 31 [.ref 0, .int a1, .int a2, .int a3, am_U, am_U] [.int (fu_b (f_X4_hasPerson s 11 a3)), .ref 0] s)
        refine fu_ite (fun h4 => fu_step (fu_ib_ne_t rfl h4) ?_) (fun h4 => fu_step (fu_ib_ne_f rfl h4) ?_)
        · refine fu_go 1 (pc' := 39) (ls' := [.ref 0, .int a1, .int a2, .int a3, am_U, am_U]) (st' := [.ref 0, .ref 0]) (s' := s) rfl ?_
          refine fu_step (fu_getR rfl fc_0 rfl rfl) ?_
          refine fu_go 2 (pc' := 44) (ls' := [.ref 0, .int a1, .int a2, .int a3, am_U, am_U]) (st' := [.int a2, .int a1, .ref 11, .ref 0]) (s' := s) rfl ?_
          refine fu_bind (fu_cSJ rfl rfl rfl rfl rfl rfl (e_X1_countCouples d (by omega) s 11 fc_is3_11 a1 a2)) (fun r5 => ?_)
          show fu_J _ _ (fc_X d (some .boolean) k_X11_whose 47 [.ref 0, .int a1, .int a2, .int a3, am_U, am_U] [.int r5, .ref 0] s)
          refine fu_ite (fun h6 => fu_step (fu_if_ne_t rfl h6) ?_) (fun h6 => fu_step (fu_if_ne_f rfl h6) ?_)
          · refine fu_go 2 (pc' := 56) (ls' := [.ref 0, .int a1, .int a2, .int a3, am_U, am_U]) (st' := [.int (8 : Int32), .ref 0]) (s' := s) rfl ?_
            exact fu_leaf rfl ⟨.inr rfl, .inr rfl, .inr rfl, .inr rfl, .inl rfl, .inl rfl, trivial⟩
          · refine fu_go 1 (pc' := 56) (ls' := [.ref 0, .int a1, .int a2, .int a3, am_U, am_U]) (st' := [.int (0 : Int32), .ref 0]) (s' := s) rfl ?_
            exact fu_leaf rfl ⟨.inr rfl, .inr rfl, .inr rfl, .inr rfl, .inl rfl, .inl rfl, trivial⟩
        · refine fu_go 2 (pc' := 56) (ls' := [.ref 0, .int a1, .int a2, .int a3, am_U, am_U]) (st' := [.int (2 : Int32), .ref 0]) (s' := s) rfl ?_
          exact fu_leaf rfl ⟨.inr rfl, .inr rfl, .inr rfl, .inr rfl, .inl rfl, .inl rfl, trivial⟩
      · refine fu_go 2 (pc' := 56) (ls' := [.ref 0, .int a1, .int a2, .int a3, am_U, am_U]) (st' := [.int (2 : Int32), .ref 0]) (s' := s) rfl ?_
        exact fu_leaf rfl ⟨.inr rfl, .inr rfl, .inr rfl, .inr rfl, .inl rfl, .inl rfl, trivial⟩
    · refine fu_go 2 (pc' := 56) (ls' := [.ref 0, .int a1, .int a2, .int a3, am_U, am_U]) (st' := [.int (2 : Int32), .ref 0]) (s' := s) rfl ?_
      exact fu_leaf rfl ⟨.inr rfl, .inr rfl, .inr rfl, .inr rfl, .inl rfl, .inl rfl, trivial⟩
  show fu_J _ _ (fc_X d (some .boolean) k_X11_whose 56 [.ref 0, .int a1, .int a2, .int a3, am_U, am_U] [.int j1, .ref 0] s)
  refine fu_lets (b := (fu_pi s 0 15 j1)) (fu_putI rfl fc_0 rfl rfl) (fun s7 => ?_)
  refine fu_go 1 (pc' := 60) (ls' := [.ref 0, .int a1, .int a2, .int a3, am_U, am_U]) (st' := [.ref 0]) (s' := s7) rfl ?_
  refine fu_step (fu_getI rfl fc_0 rfl rfl) ?_
  refine fu_ite (fun h8 => fu_step (fu_if_eq_t rfl h8) ?_) (fun h8 => fu_step (fu_if_eq_f rfl h8) ?_)
  · refine fu_go 4 (pc' := 74) (ls' := [.ref 0, .int a1, .int a2, .int a3, .int (0 : Int32), .int (0 : Int32)]) (st' := []) (s' := s7) rfl ?_
    refine fu_drop (ls' := [.ref 0, .int a1, .int a2, .int a3, .int (0 : Int32), .int (0 : Int32)]) ⟨.inr rfl, .inr rfl, .inr rfl, .inr rfl, .inr rfl, .inr rfl, trivial⟩ ?_
    refine fu_bind (el_X11_whose_74 d (by omega) fu_N s7 a1 a2 a3 (0 : Int32) (0 : Int32)) (fun r11 => ?_)
    show fu_J _ _ (fc_X d (some .boolean) k_X11_whose 108 [.ref 0, .int a1, .int a2, .int a3, .int r11, am_U] [] s7)
    refine fu_go 2 (pc' := 110) (ls' := [.ref 0, .int a1, .int a2, .int a3, .int r11, am_U]) (st' := [.ref 0, .ref 0]) (s' := s7) rfl ?_
    refine fu_step (fu_getR rfl fc_0 rfl rfl) ?_
    refine fu_go 3 (pc' := 116) (ls' := [.ref 0, .int a1, .int a2, .int a3, .int r11, am_U]) (st' := [.int a3, .int a2, .int a1, .ref 11, .ref 0]) (s' := s7) rfl ?_
    refine fu_bind (fu_cSJ rfl rfl rfl rfl rfl rfl (e_X1_weightOf d (by omega) s7 11 fc_is3_11 a1 a2 a3)) (fun r12 => ?_)
    show fu_J _ _ (fc_X d (some .boolean) k_X11_whose 119 [.ref 0, .int a1, .int a2, .int a3, .int r11, am_U] [.int r12, .ref 0] s7)
    refine fu_go 3 (pc' := 123) (ls' := [.ref 0, .int a1, .int a2, .int a3, .int r11, am_U]) (st' := [.long (Int32.toInt64 r11), .long (Int32.toInt64 r12), .ref 0]) (s' := s7) rfl ?_
    refine fu_bind (fu_cVJ rfl rfl rfl rfl rfl (fu_recv fc_0 am_at_X11_tell rfl) (e_X11_tell d (by omega) s7 (Int32.toInt64 r12) (Int32.toInt64 r11))) (fun r13 => ?_)
    show fu_J _ _ (fc_X d (some .boolean) k_X11_whose 126 [.ref 0, .int a1, .int a2, .int a3, .int r11, am_U] [] r13)
    refine fu_go 1 (pc' := 127) (ls' := [.ref 0, .int a1, .int a2, .int a3, .int r11, am_U]) (st' := [.int (1 : Int32)]) (s' := r13) rfl ?_
    exact fu_bret (b := true) rfl rfl
  · refine fu_go 1 (pc' := 67) (ls' := [.ref 0, .int a1, .int a2, .int a3, am_U, am_U]) (st' := [.int (0 : Int32)]) (s' := s7) rfl ?_
    exact fu_bret (b := false) rfl rfl
/-! X11_lawStatus -/
set_option maxRecDepth 100000 in
theorem e_X11_lawStatus (d : Nat) (hd : 6 ≤ d) (s : fu_S) (a1 : Int32) (a2 : Int32) : fu_J (f_X11_lawStatus s a1 a2) (fun r => some (some (.int r), s)) (am_D (fu_ho fc_sh) am_m d 217 [.ref 0, .int a1, .int a2] s) := by
  obtain ⟨d, rfl⟩ : ∃ e, d = e + 1 := ⟨d - 1, by omega⟩
  refine fu_enter (ls := [.ref 0, .int a1, .int a2]) am_at_X11_lawStatus rfl rfl ?_
  show fu_J _ _ (fc_X d (some .int) k_X11_lawStatus 0 [.ref 0, .int a1, .int a2] [] s)
  unfold f_X11_lawStatus
  refine fu_go 1 (pc' := 1) (ls' := [.ref 0, .int a1, .int a2]) (st' := [.ref 0]) (s' := s) rfl ?_
  refine fu_step (fu_getR rfl fc_0 rfl rfl) ?_
  refine fu_go 1 (pc' := 5) (ls' := [.ref 0, .int a1, .int a2]) (st' := [.int a1, .ref 1]) (s' := s) rfl ?_
  refine fu_step (fu_cV rfl rfl rfl rfl rfl (fu_recv fc_1 am_at_X7_isTray rfl) (fu_eq (e_X7_isTray d (by omega) s a1) rfl)) ?_
  show fu_J _ _ (fc_X d (some .int) k_X11_lawStatus 8 [.ref 0, .int a1, .int a2] [.int (fu_b (f_X7_isTray a1))] s)
  refine fu_bind (V := fun j1 : Int32 => fc_X d (some .int) k_X11_lawStatus 79 [am_U, am_U, am_U] [.int j1] s) ?_ (fun j1 => ?_)
  · refine fu_ite (fun h2 => fu_step (fu_ib_ne_t rfl h2) ?_) (fun h2 => fu_step (fu_ib_ne_f rfl h2) ?_)
    · refine fu_go 1 (pc' := 16) (ls' := [.ref 0, .int a1, .int a2]) (st' := [.ref 0]) (s' := s) rfl ?_
      refine fu_step (fu_getR rfl fc_0 rfl rfl) ?_
      refine fu_go 1 (pc' := 20) (ls' := [.ref 0, .int a1, .int a2]) (st' := [.int a1, .ref 1]) (s' := s) rfl ?_
      refine fu_bind (fu_cVJ rfl rfl rfl rfl rfl (fu_recv fc_1 am_at_X7_isThere rfl) (e_X7_isThere d (by omega) s a1)) (fun r3 => ?_)
      show fu_J _ _ (fc_X d (some .int) k_X11_lawStatus 23 [.ref 0, .int a1, .int a2] [.int (fu_b r3)] s)
      refine fu_ite (fun h4 => fu_step (fu_ib_ne_t rfl h4) ?_) (fun h4 => fu_step (fu_ib_ne_f rfl h4) ?_)
      · refine fu_go 2 (pc' := 32) (ls' := [.ref 0, .int a1, .int a2]) (st' := [.ref 0, .int a2]) (s' := s) rfl ?_
        refine fu_step (fu_getR rfl fc_0 rfl rfl) ?_
        refine fu_go 1 (pc' := 36) (ls' := [.ref 0, .int a1, .int a2]) (st' := [.int a1, .ref 1, .int a2]) (s' := s) rfl ?_
        refine fu_bind (fu_cVJ rfl rfl rfl rfl rfl (fu_recv fc_1 am_at_X7_lengthOf rfl) (e_X7_lengthOf d (by omega) s a1)) (fun r5 => ?_)
        show fu_J _ _ (fc_X d (some .int) k_X11_lawStatus 39 [.ref 0, .int a1, .int a2] [.int r5, .int a2] s)
        refine fu_go 1 (pc' := 40) (ls' := [.ref 0, .int a1, .int a2]) (st' := [.int (3 : Int32), .int r5, .int a2]) (s' := s) rfl ?_
        refine fu_step (fu_div rfl (by decide)) ?_
        refine fu_ite (fun h6 => fu_step (fu_ic_le_t rfl h6) ?_) (fun h6 => fu_step (fu_ic_le_f rfl h6) ?_)
        · refine fu_go 1 (pc' := 49) (ls' := [.ref 0, .int a1, .int a2]) (st' := [.int a2]) (s' := s) rfl ?_
          refine fu_ite (fun h7 => fu_step (fu_if_lt_t rfl h7) ?_) (fun h7 => fu_step (fu_if_lt_f rfl h7) ?_)
          · refine fu_go 2 (pc' := 79) (ls' := [.ref 0, .int a1, .int a2]) (st' := [.int (5 : Int32)]) (s' := s) rfl ?_
            exact fu_leaf rfl ⟨.inl rfl, .inl rfl, .inl rfl, trivial⟩
          · refine fu_go 2 (pc' := 55) (ls' := [.ref 0, .int a1, .int a2]) (st' := [.int (15 : Int32), .int a2]) (s' := s) rfl ?_
            refine fu_ite (fun h8 => fu_step (fu_ic_gt_t rfl h8) ?_) (fun h8 => fu_step (fu_ic_gt_f rfl h8) ?_)
            · refine fu_go 1 (pc' := 59) (ls' := [.ref 0, .int a1, .int a2]) (st' := [.ref 0]) (s' := s) rfl ?_
              refine fu_step (fu_getR rfl fc_0 rfl rfl) ?_
              refine fu_go 1 (pc' := 63) (ls' := [.ref 0, .int a1, .int a2]) (st' := [.ref 0, .ref 11]) (s' := s) rfl ?_
              refine fu_step (fu_getR rfl fc_0 rfl rfl) ?_
              refine fu_go 2 (pc' := 68) (ls' := [.ref 0, .int a1, .int a2]) (st' := [.int a2, .int a1, .ref 1, .ref 11]) (s' := s) rfl ?_
              refine fu_bind (fu_cSJ rfl rfl rfl rfl rfl rfl (e_X1_areThrees d (by omega) s 11 fc_is3_11 a1 a2)) (fun r9 => ?_)
              show fu_J _ _ (fc_X d (some .int) k_X11_lawStatus 71 [.ref 0, .int a1, .int a2] [.int (fu_b r9)] s)
              refine fu_ite (fun h10 => fu_step (fu_ib_ne_t rfl h10) ?_) (fun h10 => fu_step (fu_ib_ne_f rfl h10) ?_)
              · refine fu_go 1 (pc' := 79) (ls' := [.ref 0, .int a1, .int a2]) (st' := [.int (0 : Int32)]) (s' := s) rfl ?_
                exact fu_leaf rfl ⟨.inl rfl, .inl rfl, .inl rfl, trivial⟩
              · refine fu_go 2 (pc' := 79) (ls' := [.ref 0, .int a1, .int a2]) (st' := [.int (5 : Int32)]) (s' := s) rfl ?_
                exact fu_leaf rfl ⟨.inl rfl, .inl rfl, .inl rfl, trivial⟩
            · refine fu_go 2 (pc' := 79) (ls' := [.ref 0, .int a1, .int a2]) (st' := [.int (5 : Int32)]) (s' := s) rfl ?_
              exact fu_leaf rfl ⟨.inl rfl, .inl rfl, .inl rfl, trivial⟩
        · refine fu_go 2 (pc' := 79) (ls' := [.ref 0, .int a1, .int a2]) (st' := [.int (4 : Int32)]) (s' := s) rfl ?_
          exact fu_leaf rfl ⟨.inl rfl, .inl rfl, .inl rfl, trivial⟩
      · refine fu_go 2 (pc' := 79) (ls' := [.ref 0, .int a1, .int a2]) (st' := [.int (3 : Int32)]) (s' := s) rfl ?_
        exact fu_leaf rfl ⟨.inl rfl, .inl rfl, .inl rfl, trivial⟩
    · refine fu_go 2 (pc' := 79) (ls' := [.ref 0, .int a1, .int a2]) (st' := [.int (1 : Int32)]) (s' := s) rfl ?_
      exact fu_leaf rfl ⟨.inl rfl, .inl rfl, .inl rfl, trivial⟩
  show fu_J _ _ (fc_X d (some .int) k_X11_lawStatus 79 [am_U, am_U, am_U] [.int j1] s)
  exact fu_iret rfl rfl
/-! X11_laws -/
set_option maxRecDepth 100000 in
theorem e_X11_laws (d : Nat) (hd : 7 ≤ d) (s : fu_S) (a1 : Int32) (a2 : Int32) : fu_J (f_X11_laws s a1 a2) (fun r => some (some (.int r.1), r.2)) (am_D (fu_ho fc_sh) am_m d 215 [.ref 0, .int a1, .int a2] s) := by
  obtain ⟨d, rfl⟩ : ∃ e, d = e + 1 := ⟨d - 1, by omega⟩
  refine fu_enter (ls := [.ref 0, .int a1, .int a2]) am_at_X11_laws rfl rfl ?_
  show fu_J _ _ (fc_X d (some .int) k_X11_laws 0 [.ref 0, .int a1, .int a2] [] s)
  unfold f_X11_laws
  refine fu_go 4 (pc' := 4) (ls' := [.ref 0, .int a1, .int a2]) (st' := [.int a2, .int a1, .ref 0, .ref 0]) (s' := s) rfl ?_
  refine fu_bind (fu_cVJ rfl rfl rfl rfl rfl (fu_recv fc_0 am_at_X11_lawStatus rfl) (e_X11_lawStatus d (by omega) s a1 a2)) (fun r1 => ?_)
  show fu_J _ _ (fc_X d (some .int) k_X11_laws 7 [.ref 0, .int a1, .int a2] [.int r1, .ref 0] s)
  refine fu_lets (b := (fu_pi s 0 15 r1)) (fu_putI rfl fc_0 rfl rfl) (fun s2 => ?_)
  refine fu_go 1 (pc' := 11) (ls' := [.ref 0, .int a1, .int a2]) (st' := [.ref 0]) (s' := s2) rfl ?_
  refine fu_step (fu_getI rfl fc_0 rfl rfl) ?_
  refine fu_bind (V := fun j3 : Int32 => fc_X d (some .int) k_X11_laws 34 [am_U, am_U, am_U] [.int j3] s2) ?_ (fun j3 => ?_)
  · refine fu_ite (fun h4 => fu_step (fu_if_ne_t rfl h4) ?_) (fun h4 => fu_step (fu_if_ne_f rfl h4) ?_)
    · refine fu_go 1 (pc' := 18) (ls' := [.ref 0, .int a1, .int a2]) (st' := [.ref 0]) (s' := s2) rfl ?_
      refine fu_step (fu_getR rfl fc_0 rfl rfl) ?_
      refine fu_go 1 (pc' := 22) (ls' := [.ref 0, .int a1, .int a2]) (st' := [.ref 0, .ref 11]) (s' := s2) rfl ?_
      refine fu_step (fu_getR rfl fc_0 rfl rfl) ?_
      refine fu_go 2 (pc' := 27) (ls' := [.ref 0, .int a1, .int a2]) (st' := [.int a2, .int a1, .ref 1, .ref 11]) (s' := s2) rfl ?_
      refine fu_bind (fu_cSJ rfl rfl rfl rfl rfl rfl (e_X1_countLaws d (by omega) s2 11 fc_is3_11 a1 a2)) (fun r5 => ?_)
      show fu_J _ _ (fc_X d (some .int) k_X11_laws 30 [.ref 0, .int a1, .int a2] [.int r5] s2)
      refine fu_go 1 (pc' := 34) (ls' := [.ref 0, .int a1, .int a2]) (st' := [.int r5]) (s' := s2) rfl ?_
      exact fu_leaf rfl ⟨.inl rfl, .inl rfl, .inl rfl, trivial⟩
    · refine fu_go 1 (pc' := 34) (ls' := [.ref 0, .int a1, .int a2]) (st' := [.int (-1 : Int32)]) (s' := s2) rfl ?_
      exact fu_leaf rfl ⟨.inl rfl, .inl rfl, .inl rfl, trivial⟩
  show fu_J _ _ (fc_X d (some .int) k_X11_laws 34 [am_U, am_U, am_U] [.int j3] s2)
  exact fu_iret rfl rfl
/-! X11_lawOf -/
set_option maxRecDepth 100000 in
theorem e_X11_lawOf (d : Nat) (hd : 7 ≤ d) (s : fu_S) (a1 : Int32) (a2 : Int32) (a3 : Int32) : fu_J (f_X11_lawOf s a1 a2 a3) (fun r => some (some (.int r.1), r.2)) (am_D (fu_ho fc_sh) am_m d 216 [.ref 0, .int a1, .int a2, .int a3] s) := by
  obtain ⟨d, rfl⟩ : ∃ e, d = e + 1 := ⟨d - 1, by omega⟩
  refine fu_enter (ls := [.ref 0, .int a1, .int a2, .int a3, am_U]) am_at_X11_lawOf rfl rfl ?_
  show fu_J _ _ (fc_X d (some .int) k_X11_lawOf 0 [.ref 0, .int a1, .int a2, .int a3, am_U] [] s)
  unfold f_X11_lawOf
  refine fu_go 4 (pc' := 4) (ls' := [.ref 0, .int a1, .int a2, .int a3, am_U]) (st' := [.int a2, .int a1, .ref 0, .ref 0]) (s' := s) rfl ?_
  refine fu_bind (fu_cVJ rfl rfl rfl rfl rfl (fu_recv fc_0 am_at_X11_lawStatus rfl) (e_X11_lawStatus d (by omega) s a1 a2)) (fun r1 => ?_)
  show fu_J _ _ (fc_X d (some .int) k_X11_lawOf 7 [.ref 0, .int a1, .int a2, .int a3, am_U] [.int r1, .ref 0] s)
  refine fu_lets (b := (fu_pi s 0 15 r1)) (fu_putI rfl fc_0 rfl rfl) (fun s2 => ?_)
  refine fu_go 1 (pc' := 11) (ls' := [.ref 0, .int a1, .int a2, .int a3, am_U]) (st' := [.ref 0]) (s' := s2) rfl ?_
  refine fu_step (fu_getI rfl fc_0 rfl rfl) ?_
  refine fu_bind (V := fun j3 : fu_S => fc_X d (some .int) k_X11_lawOf 31 [.ref 0, .int a1, .int a2, .int a3, am_U] [] j3) ?_ (fun j3 => ?_)
  · refine fu_ite (fun h4 => fu_step (fu_if_ne_t rfl h4) ?_) (fun h4 => fu_step (fu_if_ne_f rfl h4) ?_)
    · refine fu_go 1 (pc' := 18) (ls' := [.ref 0, .int a1, .int a2, .int a3, am_U]) (st' := [.int a3]) (s' := s2) rfl ?_
      refine fu_ite (fun h5 => fu_step (fu_if_eq_t rfl h5) ?_) (fun h5 => fu_step (fu_if_eq_f rfl h5) ?_)
      · exact fu_leaf rfl ⟨.inr rfl, .inr rfl, .inr rfl, .inr rfl, .inl rfl, trivial⟩
      · refine fu_go 2 (pc' := 23) (ls' := [.ref 0, .int a1, .int a2, .int a3, am_U]) (st' := [.int (1 : Int32), .int a3]) (s' := s2) rfl ?_
        refine fu_ite (fun h6 => fu_step (fu_ic_eq_t rfl h6) ?_) (fun h6 => fu_step (fu_ic_eq_f rfl h6) ?_)
        · exact fu_leaf rfl ⟨.inr rfl, .inr rfl, .inr rfl, .inr rfl, .inl rfl, trivial⟩
        · refine fu_go 2 (pc' := 28) (ls' := [.ref 0, .int a1, .int a2, .int a3, am_U]) (st' := [.int (5 : Int32), .ref 0]) (s' := s2) rfl ?_
          refine fu_lets (b := (fu_pi s2 0 15 (5 : Int32))) (fu_putI rfl fc_0 rfl rfl) (fun s7 => ?_)
          exact fu_leaf rfl ⟨.inr rfl, .inr rfl, .inr rfl, .inr rfl, .inl rfl, trivial⟩
    · exact fu_leaf rfl ⟨.inr rfl, .inr rfl, .inr rfl, .inr rfl, .inl rfl, trivial⟩
  show fu_J _ _ (fc_X d (some .int) k_X11_lawOf 31 [.ref 0, .int a1, .int a2, .int a3, am_U] [] j3)
  refine fu_go 1 (pc' := 32) (ls' := [.ref 0, .int a1, .int a2, .int a3, am_U]) (st' := [.ref 0]) (s' := j3) rfl ?_
  refine fu_step (fu_getI rfl fc_0 rfl rfl) ?_
  refine fu_ite (fun h8 => fu_step (fu_if_eq_t rfl h8) ?_) (fun h8 => fu_step (fu_if_eq_f rfl h8) ?_)
  · refine fu_go 1 (pc' := 41) (ls' := [.ref 0, .int a1, .int a2, .int a3, am_U]) (st' := [.ref 0]) (s' := j3) rfl ?_
    refine fu_step (fu_getR rfl fc_0 rfl rfl) ?_
    refine fu_go 1 (pc' := 45) (ls' := [.ref 0, .int a1, .int a2, .int a3, am_U]) (st' := [.ref 0, .ref 11]) (s' := j3) rfl ?_
    refine fu_step (fu_getR rfl fc_0 rfl rfl) ?_
    refine fu_go 2 (pc' := 50) (ls' := [.ref 0, .int a1, .int a2, .int a3, am_U]) (st' := [.int a2, .int a1, .ref 1, .ref 11]) (s' := j3) rfl ?_
    refine fu_bind (fu_cSJ rfl rfl rfl rfl rfl rfl (e_X1_firstLaw d (by omega) j3 11 fc_is3_11 a1 a2)) (fun r9 => ?_)
    show fu_J _ _ (fc_X d (some .int) k_X11_lawOf 53 [.ref 0, .int a1, .int a2, .int a3, am_U] [.int r9] j3)
    refine fu_go 4 (pc' := 59) (ls' := [.ref 0, .int a1, .int a2, .int a3, .int r9]) (st' := [.int (-1 : Int32), .int r9, .ref 0]) (s' := j3) rfl ?_
    refine fu_bind (V := fun j10 : Int32 => fc_X d (some .int) k_X11_lawOf 68 [am_U, am_U, am_U, .int a3, .int r9] [.int j10, .ref 0] j3) ?_ (fun j10 => ?_)
    · refine fu_ite (fun h11 => fu_step (fu_ic_ne_t rfl h11) ?_) (fun h11 => fu_step (fu_ic_ne_f rfl h11) ?_)
      · refine fu_go 2 (pc' := 68) (ls' := [.ref 0, .int a1, .int a2, .int a3, .int r9]) (st' := [.int (8 : Int32), .ref 0]) (s' := j3) rfl ?_
        exact fu_leaf rfl ⟨.inl rfl, .inl rfl, .inl rfl, .inr rfl, .inr rfl, trivial⟩
      · refine fu_go 1 (pc' := 68) (ls' := [.ref 0, .int a1, .int a2, .int a3, .int r9]) (st' := [.int (0 : Int32), .ref 0]) (s' := j3) rfl ?_
        exact fu_leaf rfl ⟨.inl rfl, .inl rfl, .inl rfl, .inr rfl, .inr rfl, trivial⟩
    show fu_J _ _ (fc_X d (some .int) k_X11_lawOf 68 [am_U, am_U, am_U, .int a3, .int r9] [.int j10, .ref 0] j3)
    refine fu_lets (b := (fu_pi j3 0 15 j10)) (fu_putI rfl fc_0 rfl rfl) (fun s12 => ?_)
    refine fu_go 2 (pc' := 74) (ls' := [am_U, am_U, am_U, .int a3, .int r9]) (st' := [.int (-1 : Int32), .int r9]) (s' := s12) rfl ?_
    refine fu_bind (V := fun j13 : Int32 => fc_X d (some .int) k_X11_lawOf 98 [am_U, am_U, am_U, am_U, am_U] [.int j13] s12) ?_ (fun j13 => ?_)
    · refine fu_ite (fun h14 => fu_step (fu_ic_ne_t rfl h14) ?_) (fun h14 => fu_step (fu_ic_ne_f rfl h14) ?_)
      · refine fu_go 2 (pc' := 98) (ls' := [am_U, am_U, am_U, .int a3, .int r9]) (st' := [.int (-1 : Int32)]) (s' := s12) rfl ?_
        exact fu_leaf rfl ⟨.inl rfl, .inl rfl, .inl rfl, .inl rfl, .inl rfl, trivial⟩
      · refine fu_go 1 (pc' := 82) (ls' := [am_U, am_U, am_U, .int a3, .int r9]) (st' := [.int a3]) (s' := s12) rfl ?_
        refine fu_ite (fun h15 => fu_step (fu_if_ne_t rfl h15) ?_) (fun h15 => fu_step (fu_if_ne_f rfl h15) ?_)
        · refine fu_go 2 (pc' := 89) (ls' := [am_U, am_U, am_U, .int a3, .int r9]) (st' := [.int (10 : Int32), .int r9]) (s' := s12) rfl ?_
          refine fu_step (fu_div rfl (by decide)) ?_
          refine fu_go 1 (pc' := 98) (ls' := [am_U, am_U, am_U, .int a3, .int r9]) (st' := [.int (r9 / (10 : Int32))]) (s' := s12) rfl ?_
          exact fu_leaf rfl ⟨.inl rfl, .inl rfl, .inl rfl, .inl rfl, .inl rfl, trivial⟩
        · refine fu_go 2 (pc' := 97) (ls' := [am_U, am_U, am_U, .int a3, .int r9]) (st' := [.int (10 : Int32), .int r9]) (s' := s12) rfl ?_
          refine fu_step (fu_rem rfl (by decide)) ?_
          exact fu_leaf rfl ⟨.inl rfl, .inl rfl, .inl rfl, .inl rfl, .inl rfl, trivial⟩
    show fu_J _ _ (fc_X d (some .int) k_X11_lawOf 98 [am_U, am_U, am_U, am_U, am_U] [.int j13] s12)
    exact fu_iret rfl rfl
  · refine fu_go 1 (pc' := 39) (ls' := [.ref 0, .int a1, .int a2, .int a3, am_U]) (st' := [.int (-1 : Int32)]) (s' := j3) rfl ?_
    exact fu_iret rfl rfl
/-! X11_hands -/
set_option maxRecDepth 100000 in
theorem e_X11_hands (d : Nat) (hd : 4 ≤ d) (s : fu_S) (a1 : Int32) (a2 : Int32) : fu_J (f_X11_hands s a1 a2) (fun r => some (some (.int r.1), r.2)) (am_D (fu_ho fc_sh) am_m d 218 [.ref 0, .int a1, .int a2] s) := by
  obtain ⟨d, rfl⟩ : ∃ e, d = e + 1 := ⟨d - 1, by omega⟩
  refine fu_enter (ls := [.ref 0, .int a1, .int a2, am_U]) am_at_X11_hands rfl rfl ?_
  show fu_J _ _ (fc_X d (some .int) k_X11_hands 0 [.ref 0, .int a1, .int a2, am_U] [] s)
  unfold f_X11_hands
  refine fu_go 4 (pc' := 4) (ls' := [.ref 0, .int a1, .int a2, am_U]) (st' := [.int a2, .int a1, .ref 0, .ref 0]) (s' := s) rfl ?_
  refine fu_step (fu_cV rfl rfl rfl rfl rfl (fu_recv fc_0 am_at_X11_coupleStatus rfl) (fu_eq (e_X11_coupleStatus d (by omega) s a1 a2) rfl)) ?_
  show fu_J _ _ (fc_X d (some .int) k_X11_hands 7 [.ref 0, .int a1, .int a2, am_U] [.int (f_X11_coupleStatus s a1 a2), .ref 0] s)
  refine fu_lets (b := (fu_pi s 0 15 (f_X11_coupleStatus s a1 a2))) (fu_putI rfl fc_0 rfl rfl) (fun s1 => ?_)
  refine fu_go 1 (pc' := 11) (ls' := [.ref 0, .int a1, .int a2, am_U]) (st' := [.ref 0]) (s' := s1) rfl ?_
  refine fu_step (fu_getI rfl fc_0 rfl rfl) ?_
  refine fu_ite (fun h2 => fu_step (fu_if_eq_t rfl h2) ?_) (fun h2 => fu_step (fu_if_eq_f rfl h2) ?_)
  · refine fu_go 1 (pc' := 20) (ls' := [.ref 0, .int a1, .int a2, am_U]) (st' := [.ref 0]) (s' := s1) rfl ?_
    refine fu_step (fu_getR rfl fc_0 rfl rfl) ?_
    refine fu_go 1 (pc' := 24) (ls' := [.ref 0, .int a1, .int a2, am_U]) (st' := [.ref 0, .ref 114]) (s' := s1) rfl ?_
    refine fu_step (fu_getR rfl fc_0 rfl rfl) ?_
    refine fu_bind (fu_cVJ rfl rfl rfl rfl rfl (fu_recv fc_114 am_at_X0_drawKinds rfl) (e_X0_drawKinds d (by omega) s1 11 fc_is3_11)) (fun r3 => ?_)
    show fu_J _ _ (fc_X d (some .int) k_X11_hands 30 [.ref 0, .int a1, .int a2, am_U] [] r3)
    refine fu_go 1 (pc' := 31) (ls' := [.ref 0, .int a1, .int a2, am_U]) (st' := [.ref 0]) (s' := r3) rfl ?_
    refine fu_step (fu_getR rfl fc_0 rfl rfl) ?_
    refine fu_go 1 (pc' := 35) (ls' := [.ref 0, .int a1, .int a2, am_U]) (st' := [.int a2, .ref 114]) (s' := r3) rfl ?_
    refine fu_bind (fu_cVJ rfl rfl rfl rfl rfl (fu_recv fc_114 am_at_X0_measureTo rfl) (e_X0_measureTo d (by omega) r3 a2)) (fun r4 => ?_)
    show fu_J _ _ (fc_X d (some .int) k_X11_hands 38 [.ref 0, .int a1, .int a2, am_U] [] r4)
    refine fu_go 1 (pc' := 39) (ls' := [.ref 0, .int a1, .int a2, am_U]) (st' := [.ref 0]) (s' := r4) rfl ?_
    refine fu_step (fu_getR rfl fc_0 rfl rfl) ?_
    refine fu_go 1 (pc' := 43) (ls' := [.ref 0, .int a1, .int a2, am_U]) (st' := [.int a1, .ref 114]) (s' := r4) rfl ?_
    refine fu_bind (fu_cVJ rfl rfl rfl rfl rfl (fu_recv fc_114 am_at_X0_stepsFrom rfl) (e_X0_stepsFrom d (by omega) r4 a1)) (fun r5 => ?_)
    show fu_J _ _ (fc_X d (some .int) k_X11_hands 46 [.ref 0, .int a1, .int a2, am_U] [.int r5] r4)
    refine fu_go 4 (pc' := 50) (ls' := [.ref 0, .int a1, .int a2, .int r5]) (st' := [.int (-1 : Int32), .int r5, .ref 0]) (s' := r4) rfl ?_
    refine fu_bind (V := fun j6 : Int32 => fc_X d (some .int) k_X11_hands 59 [am_U, am_U, am_U, .int r5] [.int j6, .ref 0] r4) ?_ (fun j6 => ?_)
    · refine fu_ite (fun h7 => fu_step (fu_ic_ne_t rfl h7) ?_) (fun h7 => fu_step (fu_ic_ne_f rfl h7) ?_)
      · refine fu_go 2 (pc' := 59) (ls' := [.ref 0, .int a1, .int a2, .int r5]) (st' := [.int (8 : Int32), .ref 0]) (s' := r4) rfl ?_
        exact fu_leaf rfl ⟨.inl rfl, .inl rfl, .inl rfl, .inr rfl, trivial⟩
      · refine fu_go 1 (pc' := 59) (ls' := [.ref 0, .int a1, .int a2, .int r5]) (st' := [.int (0 : Int32), .ref 0]) (s' := r4) rfl ?_
        exact fu_leaf rfl ⟨.inl rfl, .inl rfl, .inl rfl, .inr rfl, trivial⟩
    show fu_J _ _ (fc_X d (some .int) k_X11_hands 59 [am_U, am_U, am_U, .int r5] [.int j6, .ref 0] r4)
    refine fu_lets (b := (fu_pi r4 0 15 j6)) (fu_putI rfl fc_0 rfl rfl) (fun s8 => ?_)
    refine fu_go 1 (pc' := 63) (ls' := [am_U, am_U, am_U, .int r5]) (st' := [.int r5]) (s' := s8) rfl ?_
    exact fu_iret rfl rfl
  · refine fu_go 1 (pc' := 18) (ls' := [.ref 0, .int a1, .int a2, am_U]) (st' := [.int (-1 : Int32)]) (s' := s1) rfl ?_
    exact fu_iret rfl rfl
