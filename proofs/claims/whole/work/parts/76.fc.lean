/-! printed by wip/whole/lift/lift.py: the small machine comes to what the functions answer -/
/-! X0_clear -/
theorem el_X0_clear_2 (d : Nat) (hd : 0 ≤ d) : ∀ (n : Nat) (s : fu_S) (x1 : Int32), fu_J (l_X0_clear_2 n s x1) (fun r => fc_X d none k_X0_clear 21 [am_U, am_U] [] r) (fc_X d none k_X0_clear 2 [.ref 114, .int x1] [] s) := by
  intro n
  induction n with
  | zero => intros; exact fu_none
  | succ n ih =>
    intro s x1
    rw [l_X0_clear_2]
    refine fu_go 2 (pc' := 5) (ls' := [.ref 114, .int x1]) (st' := [.int (7 : Int32), .int x1]) (s' := s) rfl ?_
    refine fu_ite (fun h1 => fu_step (fu_ic_ge_t rfl h1) ?_) (fun h1 => fu_step (fu_ic_ge_f rfl h1) ?_)
    · refine fu_go 1 (pc' := 9) (ls' := [.ref 114, .int x1]) (st' := [.ref 114]) (s' := s) rfl ?_
      refine fu_step (fu_getR rfl fc_114 rfl rfl) ?_
      refine fu_go 2 (pc' := 14) (ls' := [.ref 114, .int x1]) (st' := [.int (0 : Int32), .int x1, .ref 115]) (s' := s) rfl ?_
      refine fu_guard (fun h3 => fu_lets (b := (fu_pi s 115 (Int32.toNatClampNeg x1) (0 : Int32))) (fu_stI rfl fc_115 h3) (fun s2 => ?_))
      refine fu_go 2 (pc' := 2) (ls' := [.ref 114, .int (x1 + (1 : Int32))]) (st' := []) (s' := s2) rfl ?_
      exact fu_drop (ls' := [.ref 114, .int (x1 + (1 : Int32))]) ⟨.inr rfl, .inr rfl, trivial⟩ (ih s2 (x1 + (1 : Int32)))
    · exact fu_leaf rfl ⟨.inl rfl, .inl rfl, trivial⟩
set_option maxRecDepth 100000 in
theorem e_X0_clear (d : Nat) (hd : 1 ≤ d) (s : fu_S) : fu_J (f_X0_clear s) (fun r => some (none, r)) (am_D (fu_ho fc_sh) am_m d 1 [.ref 114] s) := by
  obtain ⟨d, rfl⟩ : ∃ e, d = e + 1 := ⟨d - 1, by omega⟩
  refine fu_enter (ls := [.ref 114, am_U]) am_at_X0_clear rfl rfl ?_
  show fu_J _ _ (fc_X d none k_X0_clear 0 [.ref 114, am_U] [] s)
  unfold f_X0_clear
  refine fu_go 2 (pc' := 2) (ls' := [.ref 114, .int (0 : Int32)]) (st' := []) (s' := s) rfl ?_
  refine fu_drop (ls' := [.ref 114, .int (0 : Int32)]) ⟨.inr rfl, .inr rfl, trivial⟩ ?_
  refine fu_bind (el_X0_clear_2 d (by omega) fu_N s (0 : Int32)) (fun r4 => ?_)
  show fu_J _ _ (fc_X d none k_X0_clear 21 [am_U, am_U] [] r4)
  exact fu_vret rfl rfl
/-! X0_draw -/
set_option maxRecDepth 100000 in
theorem e_X0_draw (d : Nat) (hd : 1 ≤ d) (s : fu_S) (a1 : Int32) (a2 : Int32) : fu_J (f_X0_draw s a1 a2) (fun r => some (none, r)) (am_D (fu_ho fc_sh) am_m d 2 [.ref 114, .int a1, .int a2] s) := by
  obtain ⟨d, rfl⟩ : ∃ e, d = e + 1 := ⟨d - 1, by omega⟩
  refine fu_enter (ls := [.ref 114, .int a1, .int a2]) am_at_X0_draw rfl rfl ?_
  show fu_J _ _ (fc_X d none k_X0_draw 0 [.ref 114, .int a1, .int a2] [] s)
  unfold f_X0_draw
  refine fu_go 1 (pc' := 1) (ls' := [.ref 114, .int a1, .int a2]) (st' := [.int a1]) (s' := s) rfl ?_
  refine fu_bind (V := fun j1 : fu_S => fc_X d none k_X0_draw 32 [am_U, am_U, am_U] [] j1) ?_ (fun j1 => ?_)
  · refine fu_ite (fun h2 => fu_step (fu_if_lt_t rfl h2) ?_) (fun h2 => fu_step (fu_if_lt_f rfl h2) ?_)
    · exact fu_leaf rfl ⟨.inl rfl, .inl rfl, .inl rfl, trivial⟩
    · refine fu_go 2 (pc' := 7) (ls' := [.ref 114, .int a1, .int a2]) (st' := [.int (7 : Int32), .int a1]) (s' := s) rfl ?_
      refine fu_ite (fun h3 => fu_step (fu_ic_ge_t rfl h3) ?_) (fun h3 => fu_step (fu_ic_ge_f rfl h3) ?_)
      · refine fu_go 1 (pc' := 11) (ls' := [.ref 114, .int a1, .int a2]) (st' := [.int a2]) (s' := s) rfl ?_
        refine fu_ite (fun h4 => fu_step (fu_if_lt_t rfl h4) ?_) (fun h4 => fu_step (fu_if_lt_f rfl h4) ?_)
        · exact fu_leaf rfl ⟨.inl rfl, .inl rfl, .inl rfl, trivial⟩
        · refine fu_go 2 (pc' := 17) (ls' := [.ref 114, .int a1, .int a2]) (st' := [.int (7 : Int32), .int a2]) (s' := s) rfl ?_
          refine fu_ite (fun h5 => fu_step (fu_ic_ge_t rfl h5) ?_) (fun h5 => fu_step (fu_ic_ge_f rfl h5) ?_)
          · refine fu_go 1 (pc' := 21) (ls' := [.ref 114, .int a1, .int a2]) (st' := [.ref 114]) (s' := s) rfl ?_
            refine fu_step (fu_getR rfl fc_114 rfl rfl) ?_
            refine fu_go 2 (pc' := 26) (ls' := [.ref 114, .int a1, .int a2]) (st' := [.int a1, .ref 115, .int a1, .ref 115]) (s' := s) rfl ?_
            refine fu_guard (fun h6 => fu_step (fu_ldI rfl fc_115 h6) ?_)
            refine fu_go 4 (pc' := 31) (ls' := [.ref 114, .int a1, .int a2]) (st' := [.int ((s.1 115 (Int32.toNatClampNeg a1)) ||| ((1 : Int32) <<< (a2 &&& 31))), .int a1, .ref 115]) (s' := s) rfl ?_
            refine fu_guard (fun h8 => fu_lets (b := (fu_pi s 115 (Int32.toNatClampNeg a1) ((s.1 115 (Int32.toNatClampNeg a1)) ||| ((1 : Int32) <<< (a2 &&& 31))))) (fu_stI rfl fc_115 h8) (fun s7 => ?_))
            exact fu_leaf rfl ⟨.inl rfl, .inl rfl, .inl rfl, trivial⟩
          · exact fu_leaf rfl ⟨.inl rfl, .inl rfl, .inl rfl, trivial⟩
      · exact fu_leaf rfl ⟨.inl rfl, .inl rfl, .inl rfl, trivial⟩
  show fu_J _ _ (fc_X d none k_X0_draw 32 [am_U, am_U, am_U] [] j1)
  exact fu_vret rfl rfl
/-! X4_things -/
set_option maxRecDepth 100000 in
theorem e_X4_things (d : Nat) (hd : 1 ≤ d) (s : fu_S) (P0 : Nat) (hP0 : fc_is3 P0) : fu_J (some (f_X4_things s P0)) (fun r => some (some (.int r), s)) (am_D (fu_ho fc_sh) am_m d 49 [.ref P0] s) := by
  obtain ⟨d, rfl⟩ : ∃ e, d = e + 1 := ⟨d - 1, by omega⟩
  refine fu_enter (ls := [.ref P0]) am_at_X4_things rfl rfl ?_
  show fu_J _ _ (fc_X d (some .int) k_X4_things 0 [.ref P0] [] s)
  unfold f_X4_things
  refine fu_go 1 (pc' := 1) (ls' := [.ref P0]) (st' := [.ref P0]) (s' := s) rfl ?_
  refine fu_step (fu_getI rfl hP0.1 rfl rfl) ?_
  exact fu_iret rfl rfl
/-! X4_hasThing -/
set_option maxRecDepth 100000 in
theorem e_X4_hasThing (d : Nat) (hd : 1 ≤ d) (s : fu_S) (P0 : Nat) (hP0 : fc_is3 P0) (a1 : Int32) : fu_J (some (f_X4_hasThing s P0 a1)) (fun r => some (some (.int (fu_b r)), s)) (am_D (fu_ho fc_sh) am_m d 54 [.ref P0, .int a1] s) := by
  obtain ⟨d, rfl⟩ : ∃ e, d = e + 1 := ⟨d - 1, by omega⟩
  refine fu_enter (ls := [.ref P0, .int a1]) am_at_X4_hasThing rfl rfl ?_
  show fu_J _ _ (fc_X d (some .boolean) k_X4_hasThing 0 [.ref P0, .int a1] [] s)
  unfold f_X4_hasThing
  refine fu_go 1 (pc' := 1) (ls' := [.ref P0, .int a1]) (st' := [.int a1]) (s' := s) rfl ?_
  refine fu_letS (V := fun j1 : Bool => fc_X d (some .boolean) k_X4_hasThing 17 [am_U, am_U] [.int (fu_b j1)] s) ?_ (fun j1 => ?_)
  · refine fu_iteS (fun h2 => fu_step (fu_if_lt_t rfl h2) ?_) (fun h2 => fu_step (fu_if_lt_f rfl h2) ?_)
    · refine fu_go 1 (pc' := 17) (ls' := [.ref P0, .int a1]) (st' := [.int (0 : Int32)]) (s' := s) rfl ?_
      exact fu_leaf rfl ⟨.inl rfl, .inl rfl, trivial⟩
    · refine fu_go 2 (pc' := 6) (ls' := [.ref P0, .int a1]) (st' := [.ref P0, .int a1]) (s' := s) rfl ?_
      refine fu_step (fu_getI rfl hP0.1 rfl rfl) ?_
      refine fu_iteS (fun h3 => fu_step (fu_ic_ge_t rfl h3) ?_) (fun h3 => fu_step (fu_ic_ge_f rfl h3) ?_)
      · refine fu_go 2 (pc' := 17) (ls' := [.ref P0, .int a1]) (st' := [.int (1 : Int32)]) (s' := s) rfl ?_
        exact fu_leaf rfl ⟨.inl rfl, .inl rfl, trivial⟩
      · refine fu_go 1 (pc' := 17) (ls' := [.ref P0, .int a1]) (st' := [.int (0 : Int32)]) (s' := s) rfl ?_
        exact fu_leaf rfl ⟨.inl rfl, .inl rfl, trivial⟩
  show fu_J _ _ (fc_X d (some .boolean) k_X4_hasThing 17 [am_U, am_U] [.int (fu_b j1)] s)
  exact fu_bret (b := j1) rfl rfl
/-! X4_isScratched -/
set_option maxRecDepth 100000 in
theorem e_X4_isScratched (d : Nat) (hd : 2 ≤ d) (s : fu_S) (P0 : Nat) (hP0 : fc_is3 P0) (a1 : Int32) : fu_J (f_X4_isScratched s P0 a1) (fun r => some (some (.int (fu_b r)), s)) (am_D (fu_ho fc_sh) am_m d 86 [.ref P0, .int a1] s) := by
  obtain ⟨d, rfl⟩ : ∃ e, d = e + 1 := ⟨d - 1, by omega⟩
  refine fu_enter (ls := [.ref P0, .int a1]) am_at_X4_isScratched rfl rfl ?_
  show fu_J _ _ (fc_X d (some .boolean) k_X4_isScratched 0 [.ref P0, .int a1] [] s)
  unfold f_X4_isScratched
  refine fu_go 2 (pc' := 2) (ls' := [.ref P0, .int a1]) (st' := [.int a1, .ref P0]) (s' := s) rfl ?_
  refine fu_step (fu_cV rfl rfl rfl rfl rfl (fu_recv hP0.1 am_at_X4_hasThing rfl) (fu_eq (e_X4_hasThing d (by omega) s P0 hP0 a1) rfl)) ?_
  show fu_J _ _ (fc_X d (some .boolean) k_X4_isScratched 5 [.ref P0, .int a1] [.int (fu_b (f_X4_hasThing s P0 a1))] s)
  refine fu_bind (V := fun j1 : Bool => fc_X d (some .boolean) k_X4_isScratched 23 [am_U, am_U] [.int (fu_b j1)] s) ?_ (fun j1 => ?_)
  · refine fu_ite (fun h2 => fu_step (fu_ib_eq_t rfl h2) ?_) (fun h2 => fu_step (fu_ib_eq_f rfl h2) ?_)
    · refine fu_go 1 (pc' := 9) (ls' := [.ref P0, .int a1]) (st' := [.ref P0]) (s' := s) rfl ?_
      refine fu_step (fu_getR rfl hP0.1 rfl rfl) ?_
      refine fu_go 1 (pc' := 13) (ls' := [.ref P0, .int a1]) (st' := [.int a1, .ref (P0 + 11)]) (s' := s) rfl ?_
      refine fu_guard (fun h3 => fu_step (fu_ldI rfl hP0.2.2.2.2.2.2.2.2.2.2.2.1 h3) ?_)
      refine fu_go 1 (pc' := 15) (ls' := [.ref P0, .int a1]) (st' := [.int (-1 : Int32), .int (s.1 (P0 + 11) (Int32.toNatClampNeg a1))]) (s' := s) rfl ?_
      refine fu_ite (fun h4 => fu_step (fu_ic_eq_t rfl h4) ?_) (fun h4 => fu_step (fu_ic_eq_f rfl h4) ?_)
      · refine fu_go 1 (pc' := 23) (ls' := [.ref P0, .int a1]) (st' := [.int (0 : Int32)]) (s' := s) rfl ?_
        exact fu_leaf rfl ⟨.inl rfl, .inl rfl, trivial⟩
      · refine fu_go 2 (pc' := 23) (ls' := [.ref P0, .int a1]) (st' := [.int (1 : Int32)]) (s' := s) rfl ?_
        exact fu_leaf rfl ⟨.inl rfl, .inl rfl, trivial⟩
    · refine fu_go 1 (pc' := 23) (ls' := [.ref P0, .int a1]) (st' := [.int (0 : Int32)]) (s' := s) rfl ?_
      exact fu_leaf rfl ⟨.inl rfl, .inl rfl, trivial⟩
  show fu_J _ _ (fc_X d (some .boolean) k_X4_isScratched 23 [am_U, am_U] [.int (fu_b j1)] s)
  exact fu_bret (b := j1) rfl rfl
/-! X4_ownerOf -/
set_option maxRecDepth 100000 in
theorem e_X4_ownerOf (d : Nat) (hd : 2 ≤ d) (s : fu_S) (P0 : Nat) (hP0 : fc_is3 P0) (a1 : Int32) : fu_J (f_X4_ownerOf s P0 a1) (fun r => some (some (.int r), s)) (am_D (fu_ho fc_sh) am_m d 76 [.ref P0, .int a1] s) := by
  obtain ⟨d, rfl⟩ : ∃ e, d = e + 1 := ⟨d - 1, by omega⟩
  refine fu_enter (ls := [.ref P0, .int a1]) am_at_X4_ownerOf rfl rfl ?_
  show fu_J _ _ (fc_X d (some .int) k_X4_ownerOf 0 [.ref P0, .int a1] [] s)
  unfold f_X4_ownerOf
  refine fu_go 2 (pc' := 2) (ls' := [.ref P0, .int a1]) (st' := [.int a1, .ref P0]) (s' := s) rfl ?_
  refine fu_step (fu_cV rfl rfl rfl rfl rfl (fu_recv hP0.1 am_at_X4_hasThing rfl) (fu_eq (e_X4_hasThing d (by omega) s P0 hP0 a1) rfl)) ?_
  show fu_J _ _ (fc_X d (some .int) k_X4_ownerOf 5 [.ref P0, .int a1] [.int (fu_b (f_X4_hasThing s P0 a1))] s)
  refine fu_bind (V := fun j1 : Int32 => fc_X d (some .int) k_X4_ownerOf 18 [am_U, am_U] [.int j1] s) ?_ (fun j1 => ?_)
  · refine fu_ite (fun h2 => fu_step (fu_ib_eq_t rfl h2) ?_) (fun h2 => fu_step (fu_ib_eq_f rfl h2) ?_)
    · refine fu_go 1 (pc' := 9) (ls' := [.ref P0, .int a1]) (st' := [.ref P0]) (s' := s) rfl ?_
      refine fu_step (fu_getR rfl hP0.1 rfl rfl) ?_
      refine fu_go 1 (pc' := 13) (ls' := [.ref P0, .int a1]) (st' := [.int a1, .ref (P0 + 7)]) (s' := s) rfl ?_
      refine fu_guard (fun h3 => fu_step (fu_ldI rfl hP0.2.2.2.2.2.2.2.1 h3) ?_)
      refine fu_go 1 (pc' := 18) (ls' := [.ref P0, .int a1]) (st' := [.int (s.1 (P0 + 7) (Int32.toNatClampNeg a1))]) (s' := s) rfl ?_
      exact fu_leaf rfl ⟨.inl rfl, .inl rfl, trivial⟩
    · refine fu_go 1 (pc' := 18) (ls' := [.ref P0, .int a1]) (st' := [.int (-1 : Int32)]) (s' := s) rfl ?_
      exact fu_leaf rfl ⟨.inl rfl, .inl rfl, trivial⟩
  show fu_J _ _ (fc_X d (some .int) k_X4_ownerOf 18 [am_U, am_U] [.int j1] s)
  exact fu_iret rfl rfl
/-! X4_bearerOf -/
set_option maxRecDepth 100000 in
theorem e_X4_bearerOf (d : Nat) (hd : 1 ≤ d) (s : fu_S) (P0 : Nat) (hP0 : fc_is3 P0) (a1 : Int32) : fu_J (f_X4_bearerOf s P0 a1) (fun r => some (some (.int r), s)) (am_D (fu_ho fc_sh) am_m d 80 [.ref P0, .int a1] s) := by
  obtain ⟨d, rfl⟩ : ∃ e, d = e + 1 := ⟨d - 1, by omega⟩
  refine fu_enter (ls := [.ref P0, .int a1, am_U]) am_at_X4_bearerOf rfl rfl ?_
  show fu_J _ _ (fc_X d (some .int) k_X4_bearerOf 0 [.ref P0, .int a1, am_U] [] s)
  unfold f_X4_bearerOf
  refine fu_go 1 (pc' := 1) (ls' := [.ref P0, .int a1, am_U]) (st' := [.int a1]) (s' := s) rfl ?_
  refine fu_bind (V := fun j1 : Int32 => fc_X d (some .int) k_X4_bearerOf 22 [.ref P0, .int a1, am_U] [.int j1] s) ?_ (fun j1 => ?_)
  · refine fu_ite (fun h2 => fu_step (fu_if_lt_t rfl h2) ?_) (fun h2 => fu_step (fu_if_lt_f rfl h2) ?_)
    · refine fu_go 1 (pc' := 22) (ls' := [.ref P0, .int a1, am_U]) (st' := [.int (-1 : Int32)]) (s' := s) rfl ?_
      exact fu_leaf rfl ⟨.inr rfl, .inr rfl, .inl rfl, trivial⟩
    · refine fu_go 2 (pc' := 6) (ls' := [.ref P0, .int a1, am_U]) (st' := [.ref P0, .int a1]) (s' := s) rfl ?_
      refine fu_step (fu_getI rfl hP0.1 rfl rfl) ?_
      refine fu_ite (fun h3 => fu_step (fu_ic_ge_t rfl h3) ?_) (fun h3 => fu_step (fu_ic_ge_f rfl h3) ?_)
      · refine fu_go 1 (pc' := 13) (ls' := [.ref P0, .int a1, am_U]) (st' := [.ref P0]) (s' := s) rfl ?_
        refine fu_step (fu_getR rfl hP0.1 rfl rfl) ?_
        refine fu_go 1 (pc' := 17) (ls' := [.ref P0, .int a1, am_U]) (st' := [.int a1, .ref (P0 + 8)]) (s' := s) rfl ?_
        refine fu_guard (fun h4 => fu_step (fu_ldI rfl hP0.2.2.2.2.2.2.2.2.1 h4) ?_)
        refine fu_go 1 (pc' := 22) (ls' := [.ref P0, .int a1, am_U]) (st' := [.int (s.1 (P0 + 8) (Int32.toNatClampNeg a1))]) (s' := s) rfl ?_
        exact fu_leaf rfl ⟨.inr rfl, .inr rfl, .inl rfl, trivial⟩
      · refine fu_go 1 (pc' := 22) (ls' := [.ref P0, .int a1, am_U]) (st' := [.int (-1 : Int32)]) (s' := s) rfl ?_
        exact fu_leaf rfl ⟨.inr rfl, .inr rfl, .inl rfl, trivial⟩
  show fu_J _ _ (fc_X d (some .int) k_X4_bearerOf 22 [.ref P0, .int a1, am_U] [.int j1] s)
  refine fu_go 2 (pc' := 24) (ls' := [.ref P0, .int a1, .int j1]) (st' := [.int j1]) (s' := s) rfl ?_
  refine fu_bind (V := fun j5 : Int32 => fc_X d (some .int) k_X4_bearerOf 64 [am_U, am_U, am_U] [.int j5] s) ?_ (fun j5 => ?_)
  · refine fu_ite (fun h6 => fu_step (fu_if_lt_t rfl h6) ?_) (fun h6 => fu_step (fu_if_lt_f rfl h6) ?_)
    · refine fu_go 1 (pc' := 64) (ls' := [.ref P0, .int a1, .int j1]) (st' := [.int (-1 : Int32)]) (s' := s) rfl ?_
      exact fu_leaf rfl ⟨.inl rfl, .inl rfl, .inl rfl, trivial⟩
    · refine fu_go 2 (pc' := 29) (ls' := [.ref P0, .int a1, .int j1]) (st' := [.ref P0, .int j1]) (s' := s) rfl ?_
      refine fu_step (fu_getI rfl hP0.1 rfl rfl) ?_
      refine fu_ite (fun h7 => fu_step (fu_ic_ge_t rfl h7) ?_) (fun h7 => fu_step (fu_ic_ge_f rfl h7) ?_)
      · refine fu_go 1 (pc' := 36) (ls' := [.ref P0, .int a1, .int j1]) (st' := [.ref P0]) (s' := s) rfl ?_
        refine fu_step (fu_getI rfl hP0.1 rfl rfl) ?_
        refine fu_ite (fun h8 => fu_step (fu_if_le_t rfl h8) ?_) (fun h8 => fu_step (fu_if_le_f rfl h8) ?_)
        · refine fu_go 1 (pc' := 64) (ls' := [.ref P0, .int a1, .int j1]) (st' := [.int (-1 : Int32)]) (s' := s) rfl ?_
          exact fu_leaf rfl ⟨.inl rfl, .inl rfl, .inl rfl, trivial⟩
        · refine fu_go 1 (pc' := 43) (ls' := [.ref P0, .int a1, .int j1]) (st' := [.ref P0]) (s' := s) rfl ?_
          refine fu_step (fu_getR rfl hP0.1 rfl rfl) ?_
          refine fu_go 1 (pc' := 47) (ls' := [.ref P0, .int a1, .int j1]) (st' := [.int a1, .ref (P0 + 7)]) (s' := s) rfl ?_
          refine fu_guard (fun h9 => fu_step (fu_ldI rfl hP0.2.2.2.2.2.2.2.1 h9) ?_)
          refine fu_go 1 (pc' := 49) (ls' := [.ref P0, .int a1, .int j1]) (st' := [.ref P0, .int (s.1 (P0 + 7) (Int32.toNatClampNeg a1))]) (s' := s) rfl ?_
          refine fu_step (fu_getR rfl hP0.1 rfl rfl) ?_
          refine fu_go 1 (pc' := 53) (ls' := [.ref P0, .int a1, .int j1]) (st' := [.int j1, .ref (P0 + 1), .int (s.1 (P0 + 7) (Int32.toNatClampNeg a1))]) (s' := s) rfl ?_
          refine fu_guard (fun h10 => fu_step (fu_ldI rfl hP0.2.1 h10) ?_)
          refine fu_go 2 (pc' := 56) (ls' := [.ref P0, .int a1, .int j1]) (st' := [.ref P0, .int ((s.1 (P0 + 7) (Int32.toNatClampNeg a1)) + (s.1 (P0 + 1) (Int32.toNatClampNeg j1)))]) (s' := s) rfl ?_
          refine fu_step (fu_getI rfl hP0.1 rfl rfl) ?_
          refine fu_ite (fun _ => fu_none) (fun h11 => fu_step (fu_rem rfl h11) ?_)
          refine fu_go 1 (pc' := 64) (ls' := [.ref P0, .int a1, .int j1]) (st' := [.int (((s.1 (P0 + 7) (Int32.toNatClampNeg a1)) + (s.1 (P0 + 1) (Int32.toNatClampNeg j1))) - ((s.1 (P0 + 7) (Int32.toNatClampNeg a1)) + (s.1 (P0 + 1) (Int32.toNatClampNeg j1))) / (s.1 P0 4) * (s.1 P0 4))]) (s' := s) rfl ?_
          exact fu_leaf rfl ⟨.inl rfl, .inl rfl, .inl rfl, trivial⟩
      · refine fu_go 1 (pc' := 64) (ls' := [.ref P0, .int a1, .int j1]) (st' := [.int (-1 : Int32)]) (s' := s) rfl ?_
        exact fu_leaf rfl ⟨.inl rfl, .inl rfl, .inl rfl, trivial⟩
  show fu_J _ _ (fc_X d (some .int) k_X4_bearerOf 64 [am_U, am_U, am_U] [.int j5] s)
  exact fu_iret rfl rfl
/-! X0_drawNeeds -/
theorem el_X0_drawNeeds_6 (d : Nat) (hd : 2 ≤ d) : ∀ (n : Nat) (s : fu_S) (P1 : Nat) (hP1 : fc_is3 P1) (x2 : Int32) (x3 : Int32), fu_J (l_X0_drawNeeds_6 n s P1 x2 x3) (fun r => fc_X d none k_X0_drawNeeds 50 [am_U, am_U, am_U, am_U] [] r) (fc_X d none k_X0_drawNeeds 6 [.ref 114, .ref P1, .int x2, .int x3] [] s) := by
  intro n
  induction n with
  | zero => intros; exact fu_none
  | succ n ih =>
    intro s P1 hP1 x2 x3
    rw [l_X0_drawNeeds_6]
    refine fu_go 2 (pc' := 8) (ls' := [.ref 114, .ref P1, .int x2, .int x3]) (st' := [.ref P1, .int x3]) (s' := s) rfl ?_
    refine fu_step (fu_cV rfl rfl rfl rfl rfl (fu_recv hP1.1 am_at_X4_things rfl) (fu_eq (e_X4_things d (by omega) s P1 hP1) rfl)) ?_
    show fu_J _ _ (fc_X d none k_X0_drawNeeds 11 [.ref 114, .ref P1, .int x2, .int x3] [.int (f_X4_things s P1), .int x3] s)
    refine fu_ite (fun h2 => fu_step (fu_ic_ge_t rfl h2) ?_) (fun h2 => fu_step (fu_ic_ge_f rfl h2) ?_)
    · refine fu_go 2 (pc' := 16) (ls' := [.ref 114, .ref P1, .int x2, .int x3]) (st' := [.int x3, .ref P1]) (s' := s) rfl ?_
      refine fu_bind (fu_cVJ rfl rfl rfl rfl rfl (fu_recv hP1.1 am_at_X4_isScratched rfl) (e_X4_isScratched d (by omega) s P1 hP1 x3)) (fun r3 => ?_)
      show fu_J _ _ (fc_X d none k_X0_drawNeeds 19 [.ref 114, .ref P1, .int x2, .int x3] [.int (fu_b r3)] s)
      refine fu_bind (V := fun j4 : fu_S => fc_X d none k_X0_drawNeeds 44 [.ref 114, .ref P1, .int x2, .int x3] [] j4) ?_ (fun j4 => ?_)
      · refine fu_ite (fun h5 => fu_step (fu_ib_ne_t rfl h5) ?_) (fun h5 => fu_step (fu_ib_ne_f rfl h5) ?_)
        · exact fu_leaf rfl ⟨.inr rfl, .inr rfl, .inr rfl, .inr rfl, trivial⟩
        · refine fu_go 5 (pc' := 27) (ls' := [.ref 114, .ref P1, .int x2, .int x3]) (st' := [.int ((x2 >>> (x3 &&& 31)) &&& (1 : Int32))]) (s' := s) rfl ?_
          refine fu_ite (fun h6 => fu_step (fu_if_ne_t rfl h6) ?_) (fun h6 => fu_step (fu_if_ne_f rfl h6) ?_)
          · refine fu_go 3 (pc' := 33) (ls' := [.ref 114, .ref P1, .int x2, .int x3]) (st' := [.int x3, .ref P1, .ref 114]) (s' := s) rfl ?_
            refine fu_bind (fu_cVJ rfl rfl rfl rfl rfl (fu_recv hP1.1 am_at_X4_ownerOf rfl) (e_X4_ownerOf d (by omega) s P1 hP1 x3)) (fun r7 => ?_)
            show fu_J _ _ (fc_X d none k_X0_drawNeeds 36 [.ref 114, .ref P1, .int x2, .int x3] [.int r7, .ref 114] s)
            refine fu_go 2 (pc' := 38) (ls' := [.ref 114, .ref P1, .int x2, .int x3]) (st' := [.int x3, .ref P1, .int r7, .ref 114]) (s' := s) rfl ?_
            refine fu_bind (fu_cVJ rfl rfl rfl rfl rfl (fu_recv hP1.1 am_at_X4_bearerOf rfl) (e_X4_bearerOf d (by omega) s P1 hP1 x3)) (fun r8 => ?_)
            show fu_J _ _ (fc_X d none k_X0_drawNeeds 41 [.ref 114, .ref P1, .int x2, .int x3] [.int r8, .int r7, .ref 114] s)
            refine fu_bind (fu_cVJ rfl rfl rfl rfl rfl (fu_recv fc_114 am_at_X0_draw rfl) (e_X0_draw d (by omega) s r7 r8)) (fun r9 => ?_)
            show fu_J _ _ (fc_X d none k_X0_drawNeeds 44 [.ref 114, .ref P1, .int x2, .int x3] [] r9)
            exact fu_leaf rfl ⟨.inr rfl, .inr rfl, .inr rfl, .inr rfl, trivial⟩
          · exact fu_leaf rfl ⟨.inr rfl, .inr rfl, .inr rfl, .inr rfl, trivial⟩
      show fu_J _ _ (fc_X d none k_X0_drawNeeds 44 [.ref 114, .ref P1, .int x2, .int x3] [] j4)
      refine fu_go 2 (pc' := 6) (ls' := [.ref 114, .ref P1, .int x2, .int (x3 + (1 : Int32))]) (st' := []) (s' := j4) rfl ?_
      exact fu_drop (ls' := [.ref 114, .ref P1, .int x2, .int (x3 + (1 : Int32))]) ⟨.inr rfl, .inr rfl, .inr rfl, .inr rfl, trivial⟩ (ih j4 P1 hP1 x2 (x3 + (1 : Int32)))
    · exact fu_leaf rfl ⟨.inl rfl, .inl rfl, .inl rfl, .inl rfl, trivial⟩
set_option maxRecDepth 100000 in
theorem e_X0_drawNeeds (d : Nat) (hd : 3 ≤ d) (s : fu_S) (P1 : Nat) (hP1 : fc_is3 P1) (a2 : Int32) : fu_J (f_X0_drawNeeds s P1 a2) (fun r => some (none, r)) (am_D (fu_ho fc_sh) am_m d 3 [.ref 114, .ref P1, .int a2] s) := by
  obtain ⟨d, rfl⟩ : ∃ e, d = e + 1 := ⟨d - 1, by omega⟩
  refine fu_enter (ls := [.ref 114, .ref P1, .int a2, am_U]) am_at_X0_drawNeeds rfl rfl ?_
  show fu_J _ _ (fc_X d none k_X0_drawNeeds 0 [.ref 114, .ref P1, .int a2, am_U] [] s)
  unfold f_X0_drawNeeds
  refine fu_go 1 (pc' := 1) (ls' := [.ref 114, .ref P1, .int a2, am_U]) (st' := [.ref 114]) (s' := s) rfl ?_
  refine fu_bind (fu_cVJ rfl rfl rfl rfl rfl (fu_recv fc_114 am_at_X0_clear rfl) (e_X0_clear d (by omega) s)) (fun r1 => ?_)
  show fu_J _ _ (fc_X d none k_X0_drawNeeds 4 [.ref 114, .ref P1, .int a2, am_U] [] r1)
  refine fu_go 2 (pc' := 6) (ls' := [.ref 114, .ref P1, .int a2, .int (0 : Int32)]) (st' := []) (s' := r1) rfl ?_
  refine fu_drop (ls' := [.ref 114, .ref P1, .int a2, .int (0 : Int32)]) ⟨.inr rfl, .inr rfl, .inr rfl, .inr rfl, trivial⟩ ?_
  refine fu_bind (el_X0_drawNeeds_6 d (by omega) fu_N r1 P1 hP1 a2 (0 : Int32)) (fun r10 => ?_)
  show fu_J _ _ (fc_X d none k_X0_drawNeeds 50 [am_U, am_U, am_U, am_U] [] r10)
  exact fu_vret rfl rfl
/-! X4_people -/
set_option maxRecDepth 100000 in
theorem e_X4_people (d : Nat) (hd : 1 ≤ d) (s : fu_S) (P0 : Nat) (hP0 : fc_is3 P0) : fu_J (some (f_X4_people s P0)) (fun r => some (some (.int r), s)) (am_D (fu_ho fc_sh) am_m d 48 [.ref P0] s) := by
  obtain ⟨d, rfl⟩ : ∃ e, d = e + 1 := ⟨d - 1, by omega⟩
  refine fu_enter (ls := [.ref P0]) am_at_X4_people rfl rfl ?_
  show fu_J _ _ (fc_X d (some .int) k_X4_people 0 [.ref P0] [] s)
  unfold f_X4_people
  refine fu_go 1 (pc' := 1) (ls' := [.ref P0]) (st' := [.ref P0]) (s' := s) rfl ?_
  refine fu_step (fu_getI rfl hP0.1 rfl rfl) ?_
  exact fu_iret rfl rfl
/-! X4_kinds -/
set_option maxRecDepth 100000 in
theorem e_X4_kinds (d : Nat) (hd : 1 ≤ d) (s : fu_S) (P0 : Nat) (hP0 : fc_is3 P0) : fu_J (some (f_X4_kinds s P0)) (fun r => some (some (.int r), s)) (am_D (fu_ho fc_sh) am_m d 47 [.ref P0] s) := by
  obtain ⟨d, rfl⟩ : ∃ e, d = e + 1 := ⟨d - 1, by omega⟩
  refine fu_enter (ls := [.ref P0]) am_at_X4_kinds rfl rfl ?_
  show fu_J _ _ (fc_X d (some .int) k_X4_kinds 0 [.ref P0] [] s)
  unfold f_X4_kinds
  refine fu_go 1 (pc' := 1) (ls' := [.ref P0]) (st' := [.ref P0]) (s' := s) rfl ?_
  refine fu_step (fu_getI rfl hP0.1 rfl rfl) ?_
  exact fu_iret rfl rfl
/-! X4_hasKind -/
set_option maxRecDepth 100000 in
theorem e_X4_hasKind (d : Nat) (hd : 1 ≤ d) (s : fu_S) (P0 : Nat) (hP0 : fc_is3 P0) (a1 : Int32) : fu_J (some (f_X4_hasKind s P0 a1)) (fun r => some (some (.int (fu_b r)), s)) (am_D (fu_ho fc_sh) am_m d 52 [.ref P0, .int a1] s) := by
  obtain ⟨d, rfl⟩ : ∃ e, d = e + 1 := ⟨d - 1, by omega⟩
  refine fu_enter (ls := [.ref P0, .int a1]) am_at_X4_hasKind rfl rfl ?_
  show fu_J _ _ (fc_X d (some .boolean) k_X4_hasKind 0 [.ref P0, .int a1] [] s)
  unfold f_X4_hasKind
  refine fu_go 1 (pc' := 1) (ls' := [.ref P0, .int a1]) (st' := [.int a1]) (s' := s) rfl ?_
  refine fu_letS (V := fun j1 : Bool => fc_X d (some .boolean) k_X4_hasKind 17 [am_U, am_U] [.int (fu_b j1)] s) ?_ (fun j1 => ?_)
  · refine fu_iteS (fun h2 => fu_step (fu_if_lt_t rfl h2) ?_) (fun h2 => fu_step (fu_if_lt_f rfl h2) ?_)
    · refine fu_go 1 (pc' := 17) (ls' := [.ref P0, .int a1]) (st' := [.int (0 : Int32)]) (s' := s) rfl ?_
      exact fu_leaf rfl ⟨.inl rfl, .inl rfl, trivial⟩
    · refine fu_go 2 (pc' := 6) (ls' := [.ref P0, .int a1]) (st' := [.ref P0, .int a1]) (s' := s) rfl ?_
      refine fu_step (fu_getI rfl hP0.1 rfl rfl) ?_
      refine fu_iteS (fun h3 => fu_step (fu_ic_ge_t rfl h3) ?_) (fun h3 => fu_step (fu_ic_ge_f rfl h3) ?_)
      · refine fu_go 2 (pc' := 17) (ls' := [.ref P0, .int a1]) (st' := [.int (1 : Int32)]) (s' := s) rfl ?_
        exact fu_leaf rfl ⟨.inl rfl, .inl rfl, trivial⟩
      · refine fu_go 1 (pc' := 17) (ls' := [.ref P0, .int a1]) (st' := [.int (0 : Int32)]) (s' := s) rfl ?_
        exact fu_leaf rfl ⟨.inl rfl, .inl rfl, trivial⟩
  show fu_J _ _ (fc_X d (some .boolean) k_X4_hasKind 17 [am_U, am_U] [.int (fu_b j1)] s)
  exact fu_bret (b := j1) rfl rfl
/-! X4_bearerBySteps -/
set_option maxRecDepth 100000 in
theorem e_X4_bearerBySteps (d : Nat) (hd : 1 ≤ d) (s : fu_S) (P0 : Nat) (hP0 : fc_is3 P0) (a1 : Int32) (a2 : Int32) : fu_J (f_X4_bearerBySteps s P0 a1 a2) (fun r => some (some (.int r), s)) (am_D (fu_ho fc_sh) am_m d 63 [.ref P0, .int a1, .int a2] s) := by
  obtain ⟨d, rfl⟩ : ∃ e, d = e + 1 := ⟨d - 1, by omega⟩
  refine fu_enter (ls := [.ref P0, .int a1, .int a2]) am_at_X4_bearerBySteps rfl rfl ?_
  show fu_J _ _ (fc_X d (some .int) k_X4_bearerBySteps 0 [.ref P0, .int a1, .int a2] [] s)
  unfold f_X4_bearerBySteps
  refine fu_go 1 (pc' := 1) (ls' := [.ref P0, .int a1, .int a2]) (st' := [.int a1]) (s' := s) rfl ?_
  refine fu_bind (V := fun j1 : Int32 => fc_X d (some .int) k_X4_bearerBySteps 24 [am_U, am_U, am_U] [.int j1] s) ?_ (fun j1 => ?_)
  · refine fu_ite (fun h2 => fu_step (fu_if_lt_t rfl h2) ?_) (fun h2 => fu_step (fu_if_lt_f rfl h2) ?_)
    · refine fu_go 1 (pc' := 24) (ls' := [.ref P0, .int a1, .int a2]) (st' := [.int (-1 : Int32)]) (s' := s) rfl ?_
      exact fu_leaf rfl ⟨.inl rfl, .inl rfl, .inl rfl, trivial⟩
    · refine fu_go 2 (pc' := 6) (ls' := [.ref P0, .int a1, .int a2]) (st' := [.ref P0, .int a1]) (s' := s) rfl ?_
      refine fu_step (fu_getI rfl hP0.1 rfl rfl) ?_
      refine fu_ite (fun h3 => fu_step (fu_ic_ge_t rfl h3) ?_) (fun h3 => fu_step (fu_ic_ge_f rfl h3) ?_)
      · refine fu_go 4 (pc' := 16) (ls' := [.ref P0, .int a1, .int a2]) (st' := [.ref P0, .int (a1 + a2)]) (s' := s) rfl ?_
        refine fu_step (fu_getI rfl hP0.1 rfl rfl) ?_
        refine fu_ite (fun _ => fu_none) (fun h4 => fu_step (fu_rem rfl h4) ?_)
        refine fu_go 1 (pc' := 24) (ls' := [.ref P0, .int a1, .int a2]) (st' := [.int ((a1 + a2) - (a1 + a2) / (s.1 P0 4) * (s.1 P0 4))]) (s' := s) rfl ?_
        exact fu_leaf rfl ⟨.inl rfl, .inl rfl, .inl rfl, trivial⟩
      · refine fu_go 1 (pc' := 24) (ls' := [.ref P0, .int a1, .int a2]) (st' := [.int (-1 : Int32)]) (s' := s) rfl ?_
        exact fu_leaf rfl ⟨.inl rfl, .inl rfl, .inl rfl, trivial⟩
  show fu_J _ _ (fc_X d (some .int) k_X4_bearerBySteps 24 [am_U, am_U, am_U] [.int j1] s)
  exact fu_iret rfl rfl
/-! X4_bearerBy -/
set_option maxRecDepth 100000 in
theorem e_X4_bearerBy (d : Nat) (hd : 2 ≤ d) (s : fu_S) (P0 : Nat) (hP0 : fc_is3 P0) (a1 : Int32) (a2 : Int32) : fu_J (f_X4_bearerBy s P0 a1 a2) (fun r => some (some (.int r), s)) (am_D (fu_ho fc_sh) am_m d 65 [.ref P0, .int a1, .int a2] s) := by
  obtain ⟨d, rfl⟩ : ∃ e, d = e + 1 := ⟨d - 1, by omega⟩
  refine fu_enter (ls := [.ref P0, .int a1, .int a2]) am_at_X4_bearerBy rfl rfl ?_
  show fu_J _ _ (fc_X d (some .int) k_X4_bearerBy 0 [.ref P0, .int a1, .int a2] [] s)
  unfold f_X4_bearerBy
  refine fu_go 2 (pc' := 2) (ls' := [.ref P0, .int a1, .int a2]) (st' := [.int a2, .ref P0]) (s' := s) rfl ?_
  refine fu_step (fu_cV rfl rfl rfl rfl rfl (fu_recv hP0.1 am_at_X4_hasKind rfl) (fu_eq (e_X4_hasKind d (by omega) s P0 hP0 a2) rfl)) ?_
  show fu_J _ _ (fc_X d (some .int) k_X4_bearerBy 5 [.ref P0, .int a1, .int a2] [.int (fu_b (f_X4_hasKind s P0 a2))] s)
  refine fu_bind (V := fun j1 : Int32 => fc_X d (some .int) k_X4_bearerBy 23 [am_U, am_U, am_U] [.int j1] s) ?_ (fun j1 => ?_)
  · refine fu_ite (fun h2 => fu_step (fu_ib_eq_t rfl h2) ?_) (fun h2 => fu_step (fu_ib_eq_f rfl h2) ?_)
    · refine fu_go 3 (pc' := 11) (ls' := [.ref P0, .int a1, .int a2]) (st' := [.ref P0, .int a1, .ref P0]) (s' := s) rfl ?_
      refine fu_step (fu_getR rfl hP0.1 rfl rfl) ?_
      refine fu_go 1 (pc' := 15) (ls' := [.ref P0, .int a1, .int a2]) (st' := [.int a2, .ref (P0 + 1), .int a1, .ref P0]) (s' := s) rfl ?_
      refine fu_guard (fun h3 => fu_step (fu_ldI rfl hP0.2.1 h3) ?_)
      refine fu_bind (fu_cVJ rfl rfl rfl rfl rfl (fu_recv hP0.1 am_at_X4_bearerBySteps rfl) (e_X4_bearerBySteps d (by omega) s P0 hP0 a1 (s.1 (P0 + 1) (Int32.toNatClampNeg a2)))) (fun r4 => ?_)
      show fu_J _ _ (fc_X d (some .int) k_X4_bearerBy 19 [.ref P0, .int a1, .int a2] [.int r4] s)
      refine fu_go 1 (pc' := 23) (ls' := [.ref P0, .int a1, .int a2]) (st' := [.int r4]) (s' := s) rfl ?_
      exact fu_leaf rfl ⟨.inl rfl, .inl rfl, .inl rfl, trivial⟩
    · refine fu_go 1 (pc' := 23) (ls' := [.ref P0, .int a1, .int a2]) (st' := [.int (-1 : Int32)]) (s' := s) rfl ?_
      exact fu_leaf rfl ⟨.inl rfl, .inl rfl, .inl rfl, trivial⟩
  show fu_J _ _ (fc_X d (some .int) k_X4_bearerBy 23 [am_U, am_U, am_U] [.int j1] s)
  exact fu_iret rfl rfl
/-! X0_drawKinds -/
theorem el_X0_drawKinds_16 (d : Nat) (hd : 2 ≤ d) : ∀ (n : Nat) (s : fu_S) (P1 : Nat) (hP1 : fc_is3 P1) (x2 : Int32) (x3 : Int32), fu_J (l_X0_drawKinds_16 n s P1 x2 x3) (fun r => fc_X d none k_X0_drawKinds 41 [.ref 114, .ref P1, .int x2, am_U] [] r) (fc_X d none k_X0_drawKinds 16 [.ref 114, .ref P1, .int x2, .int x3] [] s) := by
  intro n
  induction n with
  | zero => intros; exact fu_none
  | succ n ih =>
    intro s P1 hP1 x2 x3
    rw [l_X0_drawKinds_16]
    refine fu_go 2 (pc' := 18) (ls' := [.ref 114, .ref P1, .int x2, .int x3]) (st' := [.ref P1, .int x3]) (s' := s) rfl ?_
    refine fu_step (fu_cV rfl rfl rfl rfl rfl (fu_recv hP1.1 am_at_X4_kinds rfl) (fu_eq (e_X4_kinds d (by omega) s P1 hP1) rfl)) ?_
    show fu_J _ _ (fc_X d none k_X0_drawKinds 21 [.ref 114, .ref P1, .int x2, .int x3] [.int (f_X4_kinds s P1), .int x3] s)
    refine fu_ite (fun h3 => fu_step (fu_ic_ge_t rfl h3) ?_) (fun h3 => fu_step (fu_ic_ge_f rfl h3) ?_)
    · refine fu_go 5 (pc' := 29) (ls' := [.ref 114, .ref P1, .int x2, .int x3]) (st' := [.int x3, .int x2, .ref P1, .int x2, .ref 114]) (s' := s) rfl ?_
      refine fu_bind (fu_cVJ rfl rfl rfl rfl rfl (fu_recv hP1.1 am_at_X4_bearerBy rfl) (e_X4_bearerBy d (by omega) s P1 hP1 x2 x3)) (fun r4 => ?_)
      show fu_J _ _ (fc_X d none k_X0_drawKinds 32 [.ref 114, .ref P1, .int x2, .int x3] [.int r4, .int x2, .ref 114] s)
      refine fu_bind (fu_cVJ rfl rfl rfl rfl rfl (fu_recv fc_114 am_at_X0_draw rfl) (e_X0_draw d (by omega) s x2 r4)) (fun r5 => ?_)
      show fu_J _ _ (fc_X d none k_X0_drawKinds 35 [.ref 114, .ref P1, .int x2, .int x3] [] r5)
      refine fu_go 2 (pc' := 16) (ls' := [.ref 114, .ref P1, .int x2, .int (x3 + (1 : Int32))]) (st' := []) (s' := r5) rfl ?_
      exact fu_drop (ls' := [.ref 114, .ref P1, .int x2, .int (x3 + (1 : Int32))]) ⟨.inr rfl, .inr rfl, .inr rfl, .inr rfl, trivial⟩ (ih r5 P1 hP1 x2 (x3 + (1 : Int32)))
    · exact fu_leaf rfl ⟨.inr rfl, .inr rfl, .inr rfl, .inl rfl, trivial⟩
theorem el_X0_drawKinds_6 (d : Nat) (hd : 2 ≤ d) : ∀ (n : Nat) (s : fu_S) (P1 : Nat) (hP1 : fc_is3 P1) (x2 : Int32), fu_J (l_X0_drawKinds_6 n s P1 x2) (fun r => fc_X d none k_X0_drawKinds 47 [am_U, am_U, am_U, am_U] [] r) (fc_X d none k_X0_drawKinds 6 [.ref 114, .ref P1, .int x2, am_U] [] s) := by
  intro n
  induction n with
  | zero => intros; exact fu_none
  | succ n ih =>
    intro s P1 hP1 x2
    rw [l_X0_drawKinds_6]
    refine fu_go 2 (pc' := 8) (ls' := [.ref 114, .ref P1, .int x2, am_U]) (st' := [.ref P1, .int x2]) (s' := s) rfl ?_
    refine fu_step (fu_cV rfl rfl rfl rfl rfl (fu_recv hP1.1 am_at_X4_people rfl) (fu_eq (e_X4_people d (by omega) s P1 hP1) rfl)) ?_
    show fu_J _ _ (fc_X d none k_X0_drawKinds 11 [.ref 114, .ref P1, .int x2, am_U] [.int (f_X4_people s P1), .int x2] s)
    refine fu_ite (fun h2 => fu_step (fu_ic_ge_t rfl h2) ?_) (fun h2 => fu_step (fu_ic_ge_f rfl h2) ?_)
    · refine fu_go 2 (pc' := 16) (ls' := [.ref 114, .ref P1, .int x2, .int (0 : Int32)]) (st' := []) (s' := s) rfl ?_
      refine fu_drop (ls' := [.ref 114, .ref P1, .int x2, .int (0 : Int32)]) ⟨.inr rfl, .inr rfl, .inr rfl, .inr rfl, trivial⟩ ?_
      refine fu_bind (el_X0_drawKinds_16 d (by omega) fu_N s P1 hP1 x2 (0 : Int32)) (fun r6 => ?_)
      show fu_J _ _ (fc_X d none k_X0_drawKinds 41 [.ref 114, .ref P1, .int x2, am_U] [] r6)
      refine fu_go 2 (pc' := 6) (ls' := [.ref 114, .ref P1, .int (x2 + (1 : Int32)), am_U]) (st' := []) (s' := r6) rfl ?_
      exact fu_drop (ls' := [.ref 114, .ref P1, .int (x2 + (1 : Int32)), am_U]) ⟨.inr rfl, .inr rfl, .inr rfl, .inl rfl, trivial⟩ (ih r6 P1 hP1 (x2 + (1 : Int32)))
    · exact fu_leaf rfl ⟨.inl rfl, .inl rfl, .inl rfl, .inl rfl, trivial⟩
set_option maxRecDepth 100000 in
theorem e_X0_drawKinds (d : Nat) (hd : 3 ≤ d) (s : fu_S) (P1 : Nat) (hP1 : fc_is3 P1) : fu_J (f_X0_drawKinds s P1) (fun r => some (none, r)) (am_D (fu_ho fc_sh) am_m d 4 [.ref 114, .ref P1] s) := by
  obtain ⟨d, rfl⟩ : ∃ e, d = e + 1 := ⟨d - 1, by omega⟩
  refine fu_enter (ls := [.ref 114, .ref P1, am_U, am_U]) am_at_X0_drawKinds rfl rfl ?_
  show fu_J _ _ (fc_X d none k_X0_drawKinds 0 [.ref 114, .ref P1, am_U, am_U] [] s)
  unfold f_X0_drawKinds
  refine fu_go 1 (pc' := 1) (ls' := [.ref 114, .ref P1, am_U, am_U]) (st' := [.ref 114]) (s' := s) rfl ?_
  refine fu_bind (fu_cVJ rfl rfl rfl rfl rfl (fu_recv fc_114 am_at_X0_clear rfl) (e_X0_clear d (by omega) s)) (fun r1 => ?_)
  show fu_J _ _ (fc_X d none k_X0_drawKinds 4 [.ref 114, .ref P1, am_U, am_U] [] r1)
  refine fu_go 2 (pc' := 6) (ls' := [.ref 114, .ref P1, .int (0 : Int32), am_U]) (st' := []) (s' := r1) rfl ?_
  refine fu_drop (ls' := [.ref 114, .ref P1, .int (0 : Int32), am_U]) ⟨.inr rfl, .inr rfl, .inr rfl, .inl rfl, trivial⟩ ?_
  refine fu_bind (el_X0_drawKinds_6 d (by omega) fu_N r1 P1 hP1 (0 : Int32)) (fun r7 => ?_)
  show fu_J _ _ (fc_X d none k_X0_drawKinds 47 [am_U, am_U, am_U, am_U] [] r7)
  exact fu_vret rfl rfl
/-! X0_from -/
set_option maxRecDepth 100000 in
theorem e_X0_from (d : Nat) (hd : 1 ≤ d) (s : fu_S) (a1 : Int32) : fu_J (f_X0_from s a1) (fun r => some (some (.int r), s)) (am_D (fu_ho fc_sh) am_m d 5 [.ref 114, .int a1] s) := by
  obtain ⟨d, rfl⟩ : ∃ e, d = e + 1 := ⟨d - 1, by omega⟩
  refine fu_enter (ls := [.ref 114, .int a1]) am_at_X0_from rfl rfl ?_
  show fu_J _ _ (fc_X d (some .int) k_X0_from 0 [.ref 114, .int a1] [] s)
  unfold f_X0_from
  refine fu_go 1 (pc' := 1) (ls' := [.ref 114, .int a1]) (st' := [.int a1]) (s' := s) rfl ?_
  refine fu_bind (V := fun j1 : Int32 => fc_X d (some .int) k_X0_from 20 [am_U, am_U] [.int j1] s) ?_ (fun j1 => ?_)
  · refine fu_ite (fun h2 => fu_step (fu_if_lt_t rfl h2) ?_) (fun h2 => fu_step (fu_if_lt_f rfl h2) ?_)
    · refine fu_go 1 (pc' := 20) (ls' := [.ref 114, .int a1]) (st' := [.int (0 : Int32)]) (s' := s) rfl ?_
      exact fu_leaf rfl ⟨.inl rfl, .inl rfl, trivial⟩
    · refine fu_go 2 (pc' := 7) (ls' := [.ref 114, .int a1]) (st' := [.int (7 : Int32), .int a1]) (s' := s) rfl ?_
      refine fu_ite (fun h3 => fu_step (fu_ic_ge_t rfl h3) ?_) (fun h3 => fu_step (fu_ic_ge_f rfl h3) ?_)
      · refine fu_go 1 (pc' := 11) (ls' := [.ref 114, .int a1]) (st' := [.ref 114]) (s' := s) rfl ?_
        refine fu_step (fu_getR rfl fc_114 rfl rfl) ?_
        refine fu_go 1 (pc' := 15) (ls' := [.ref 114, .int a1]) (st' := [.int a1, .ref 115]) (s' := s) rfl ?_
        refine fu_guard (fun h4 => fu_step (fu_ldI rfl fc_115 h4) ?_)
        refine fu_go 1 (pc' := 20) (ls' := [.ref 114, .int a1]) (st' := [.int (s.1 115 (Int32.toNatClampNeg a1))]) (s' := s) rfl ?_
        exact fu_leaf rfl ⟨.inl rfl, .inl rfl, trivial⟩
      · refine fu_go 1 (pc' := 20) (ls' := [.ref 114, .int a1]) (st' := [.int (0 : Int32)]) (s' := s) rfl ?_
        exact fu_leaf rfl ⟨.inl rfl, .inl rfl, trivial⟩
  show fu_J _ _ (fc_X d (some .int) k_X0_from 20 [am_U, am_U] [.int j1] s)
  exact fu_iret rfl rfl
/-! X0_fromAll -/
theorem el_X0_fromAll_4 (d : Nat) (hd : 0 ≤ d) : ∀ (n : Nat) (s : fu_S) (x1 : Int32) (x2 : Int32) (x3 : Int32), fu_J (l_X0_fromAll_4 n s x1 x2 x3) (fun r => fc_X d (some .int) k_X0_fromAll 37 [am_U, am_U, .int r, am_U] [] s) (fc_X d (some .int) k_X0_fromAll 4 [.ref 114, .int x1, .int x2, .int x3] [] s) := by
  intro n
  induction n with
  | zero => intros; exact fu_none
  | succ n ih =>
    intro s x1 x2 x3
    rw [l_X0_fromAll_4]
    refine fu_go 2 (pc' := 7) (ls' := [.ref 114, .int x1, .int x2, .int x3]) (st' := [.int (7 : Int32), .int x3]) (s' := s) rfl ?_
    refine fu_ite (fun h1 => fu_step (fu_ic_ge_t rfl h1) ?_) (fun h1 => fu_step (fu_ic_ge_f rfl h1) ?_)
    · refine fu_go 6 (pc' := 16) (ls' := [.ref 114, .int x1, .int x2, .int x3]) (st' := [.int ((x1 >>> (x3 &&& 31)) &&& (1 : Int32)), .int x2]) (s' := s) rfl ?_
      refine fu_bind (V := fun j2 : Int32 => fc_X d (some .int) k_X0_fromAll 29 [.ref 114, .int x1, am_U, .int x3] [.int j2, .int x2] s) ?_ (fun j2 => ?_)
      · refine fu_ite (fun h3 => fu_step (fu_if_eq_t rfl h3) ?_) (fun h3 => fu_step (fu_if_eq_f rfl h3) ?_)
        · refine fu_go 1 (pc' := 29) (ls' := [.ref 114, .int x1, .int x2, .int x3]) (st' := [.int (0 : Int32), .int x2]) (s' := s) rfl ?_
          exact fu_leaf rfl ⟨.inr rfl, .inr rfl, .inl rfl, .inr rfl, trivial⟩
        · refine fu_go 1 (pc' := 20) (ls' := [.ref 114, .int x1, .int x2, .int x3]) (st' := [.ref 114, .int x2]) (s' := s) rfl ?_
          refine fu_step (fu_getR rfl fc_114 rfl rfl) ?_
          refine fu_go 1 (pc' := 24) (ls' := [.ref 114, .int x1, .int x2, .int x3]) (st' := [.int x3, .ref 115, .int x2]) (s' := s) rfl ?_
          refine fu_guard (fun h4 => fu_step (fu_ldI rfl fc_115 h4) ?_)
          refine fu_go 1 (pc' := 29) (ls' := [.ref 114, .int x1, .int x2, .int x3]) (st' := [.int (s.1 115 (Int32.toNatClampNeg x3)), .int x2]) (s' := s) rfl ?_
          exact fu_leaf rfl ⟨.inr rfl, .inr rfl, .inl rfl, .inr rfl, trivial⟩
      show fu_J _ _ (fc_X d (some .int) k_X0_fromAll 29 [.ref 114, .int x1, am_U, .int x3] [.int j2, .int x2] s)
      refine fu_go 4 (pc' := 4) (ls' := [.ref 114, .int x1, .int (x2 ||| j2), .int (x3 + (1 : Int32))]) (st' := []) (s' := s) rfl ?_
      exact fu_drop (ls' := [.ref 114, .int x1, .int (x2 ||| j2), .int (x3 + (1 : Int32))]) ⟨.inr rfl, .inr rfl, .inr rfl, .inr rfl, trivial⟩ (ih s x1 (x2 ||| j2) (x3 + (1 : Int32)))
    · exact fu_leaf rfl ⟨.inl rfl, .inl rfl, .inr rfl, .inl rfl, trivial⟩
set_option maxRecDepth 100000 in
theorem e_X0_fromAll (d : Nat) (hd : 1 ≤ d) (s : fu_S) (a1 : Int32) : fu_J (f_X0_fromAll s a1) (fun r => some (some (.int r), s)) (am_D (fu_ho fc_sh) am_m d 6 [.ref 114, .int a1] s) := by
  obtain ⟨d, rfl⟩ : ∃ e, d = e + 1 := ⟨d - 1, by omega⟩
  refine fu_enter (ls := [.ref 114, .int a1, am_U, am_U]) am_at_X0_fromAll rfl rfl ?_
  show fu_J _ _ (fc_X d (some .int) k_X0_fromAll 0 [.ref 114, .int a1, am_U, am_U] [] s)
  unfold f_X0_fromAll
  refine fu_go 4 (pc' := 4) (ls' := [.ref 114, .int a1, .int (0 : Int32), .int (0 : Int32)]) (st' := []) (s' := s) rfl ?_
  refine fu_drop (ls' := [.ref 114, .int a1, .int (0 : Int32), .int (0 : Int32)]) ⟨.inr rfl, .inr rfl, .inr rfl, .inr rfl, trivial⟩ ?_
  refine fu_bind (el_X0_fromAll_4 d (by omega) fu_N s a1 (0 : Int32) (0 : Int32)) (fun r5 => ?_)
  show fu_J _ _ (fc_X d (some .int) k_X0_fromAll 37 [am_U, am_U, .int r5, am_U] [] s)
  refine fu_go 1 (pc' := 38) (ls' := [am_U, am_U, .int r5, am_U]) (st' := [.int r5]) (s' := s) rfl ?_
  exact fu_iret rfl rfl
/-! X0_shortestRing -/
theorem el_X0_shortestRing_20 (d : Nat) (hd : 1 ≤ d) : ∀ (n : Nat) (s : fu_S) (x1 : Int32) (x2 : Int32) (x3 : Int32) (x4 : Int32), fu_J (l_X0_shortestRing_20 n s x1 x2 x3 x4) (fun r => fc_X d (some .int) k_X0_shortestRing 47 [.ref 114, .int x1, .int x2, .int r.1, .int r.2] [] s) (fc_X d (some .int) k_X0_shortestRing 20 [.ref 114, .int x1, .int x2, .int x3, .int x4] [] s) := by
  intro n
  induction n with
  | zero => intros; exact fu_none
  | succ n ih =>
    intro s x1 x2 x3 x4
    rw [l_X0_shortestRing_20]
    refine fu_go 2 (pc' := 24) (ls' := [.ref 114, .int x1, .int x2, .int x3, .int x4]) (st' := [.int (7 : Int32), .int x4]) (s' := s) rfl ?_
    refine fu_ite (fun h3 => fu_step (fu_ic_ge_t rfl h3) ?_) (fun h3 => fu_step (fu_ic_ge_f rfl h3) ?_)
    · refine fu_go 5 (pc' := 32) (ls' := [.ref 114, .int x1, .int x2, .int x3, .int x4]) (st' := [.int ((x3 >>> (x2 &&& 31)) &&& (1 : Int32))]) (s' := s) rfl ?_
      refine fu_ite (fun h4 => fu_step (fu_if_ne_t rfl h4) ?_) (fun h4 => fu_step (fu_if_ne_f rfl h4) ?_)
      · refine fu_go 2 (pc' := 37) (ls' := [.ref 114, .int x1, .int x2, .int x3, .int x4]) (st' := [.int x3, .ref 114]) (s' := s) rfl ?_
        refine fu_bind (fu_cVJ rfl rfl rfl rfl rfl (fu_recv fc_114 am_at_X0_fromAll rfl) (e_X0_fromAll d (by omega) s x3)) (fun r5 => ?_)
        show fu_J _ _ (fc_X d (some .int) k_X0_shortestRing 40 [.ref 114, .int x1, .int x2, .int x3, .int x4] [.int r5] s)
        refine fu_go 3 (pc' := 20) (ls' := [.ref 114, .int x1, .int x2, .int r5, .int (x4 + (1 : Int32))]) (st' := []) (s' := s) rfl ?_
        exact fu_drop (ls' := [.ref 114, .int x1, .int x2, .int r5, .int (x4 + (1 : Int32))]) ⟨.inr rfl, .inr rfl, .inr rfl, .inr rfl, .inr rfl, trivial⟩ (ih s x1 x2 r5 (x4 + (1 : Int32)))
      · exact fu_leaf rfl ⟨.inr rfl, .inr rfl, .inr rfl, .inr rfl, .inr rfl, trivial⟩
    · exact fu_leaf rfl ⟨.inr rfl, .inr rfl, .inr rfl, .inr rfl, .inr rfl, trivial⟩
theorem el_X0_shortestRing_4 (d : Nat) (hd : 1 ≤ d) : ∀ (n : Nat) (s : fu_S) (x1 : Int32) (x2 : Int32), fu_J (l_X0_shortestRing_4 n s x1 x2) (fun r => fc_X d (some .int) k_X0_shortestRing 75 [am_U, .int r, am_U, am_U, am_U] [] s) (fc_X d (some .int) k_X0_shortestRing 4 [.ref 114, .int x1, .int x2, am_U, am_U] [] s) := by
  intro n
  induction n with
  | zero => intros; exact fu_none
  | succ n ih =>
    intro s x1 x2
    rw [l_X0_shortestRing_4]
    refine fu_go 2 (pc' := 7) (ls' := [.ref 114, .int x1, .int x2, am_U, am_U]) (st' := [.int (7 : Int32), .int x2]) (s' := s) rfl ?_
    refine fu_ite (fun h1 => fu_step (fu_ic_ge_t rfl h1) ?_) (fun h1 => fu_step (fu_ic_ge_f rfl h1) ?_)
    · refine fu_go 1 (pc' := 11) (ls' := [.ref 114, .int x1, .int x2, am_U, am_U]) (st' := [.ref 114]) (s' := s) rfl ?_
      refine fu_step (fu_getR rfl fc_114 rfl rfl) ?_
      refine fu_go 1 (pc' := 15) (ls' := [.ref 114, .int x1, .int x2, am_U, am_U]) (st' := [.int x2, .ref 115]) (s' := s) rfl ?_
      refine fu_guard (fun h2 => fu_step (fu_ldI rfl fc_115 h2) ?_)
      refine fu_go 3 (pc' := 20) (ls' := [.ref 114, .int x1, .int x2, .int (s.1 115 (Int32.toNatClampNeg x2)), .int (1 : Int32)]) (st' := []) (s' := s) rfl ?_
      refine fu_drop (ls' := [.ref 114, .int x1, .int x2, .int (s.1 115 (Int32.toNatClampNeg x2)), .int (1 : Int32)]) ⟨.inr rfl, .inr rfl, .inr rfl, .inr rfl, .inr rfl, trivial⟩ ?_
      refine fu_bind (el_X0_shortestRing_20 d (by omega) fu_N s x1 x2 (s.1 115 (Int32.toNatClampNeg x2)) (1 : Int32)) (fun r6 => ?_)
      show fu_J _ _ (fc_X d (some .int) k_X0_shortestRing 47 [.ref 114, .int x1, .int x2, .int r6.1, .int r6.2] [] s)
      refine fu_go 5 (pc' := 52) (ls' := [.ref 114, .int x1, .int x2, .int r6.1, .int r6.2]) (st' := [.int ((r6.1 >>> (x2 &&& 31)) &&& (1 : Int32))]) (s' := s) rfl ?_
      refine fu_bind (V := fun j7 : Int32 => fc_X d (some .int) k_X0_shortestRing 69 [.ref 114, .int j7, .int x2, am_U, am_U] [] s) ?_ (fun j7 => ?_)
      · refine fu_ite (fun h8 => fu_step (fu_if_eq_t rfl h8) ?_) (fun h8 => fu_step (fu_if_eq_f rfl h8) ?_)
        · exact fu_leaf rfl ⟨.inr rfl, .inr rfl, .inr rfl, .inl rfl, .inl rfl, trivial⟩
        · refine fu_go 2 (pc' := 57) (ls' := [.ref 114, .int x1, .int x2, .int r6.1, .int r6.2]) (st' := [.int (-1 : Int32), .int x1]) (s' := s) rfl ?_
          refine fu_ite (fun h9 => fu_step (fu_ic_eq_t rfl h9) ?_) (fun h9 => fu_step (fu_ic_eq_f rfl h9) ?_)
          · refine fu_go 2 (pc' := 69) (ls' := [.ref 114, .int r6.2, .int x2, .int r6.1, .int r6.2]) (st' := []) (s' := s) rfl ?_
            exact fu_leaf rfl ⟨.inr rfl, .inr rfl, .inr rfl, .inl rfl, .inl rfl, trivial⟩
          · refine fu_go 2 (pc' := 63) (ls' := [.ref 114, .int x1, .int x2, .int r6.1, .int r6.2]) (st' := [.int x1, .int r6.2]) (s' := s) rfl ?_
            refine fu_ite (fun h10 => fu_step (fu_ic_ge_t rfl h10) ?_) (fun h10 => fu_step (fu_ic_ge_f rfl h10) ?_)
            · refine fu_go 2 (pc' := 69) (ls' := [.ref 114, .int r6.2, .int x2, .int r6.1, .int r6.2]) (st' := []) (s' := s) rfl ?_
              exact fu_leaf rfl ⟨.inr rfl, .inr rfl, .inr rfl, .inl rfl, .inl rfl, trivial⟩
            · exact fu_leaf rfl ⟨.inr rfl, .inr rfl, .inr rfl, .inl rfl, .inl rfl, trivial⟩
      show fu_J _ _ (fc_X d (some .int) k_X0_shortestRing 69 [.ref 114, .int j7, .int x2, am_U, am_U] [] s)
      refine fu_go 2 (pc' := 4) (ls' := [.ref 114, .int j7, .int (x2 + (1 : Int32)), am_U, am_U]) (st' := []) (s' := s) rfl ?_
      exact fu_drop (ls' := [.ref 114, .int j7, .int (x2 + (1 : Int32)), am_U, am_U]) ⟨.inr rfl, .inr rfl, .inr rfl, .inl rfl, .inl rfl, trivial⟩ (ih s j7 (x2 + (1 : Int32)))
    · exact fu_leaf rfl ⟨.inl rfl, .inr rfl, .inl rfl, .inl rfl, .inl rfl, trivial⟩
set_option maxRecDepth 100000 in
theorem e_X0_shortestRing (d : Nat) (hd : 2 ≤ d) (s : fu_S) : fu_J (f_X0_shortestRing s) (fun r => some (some (.int r), s)) (am_D (fu_ho fc_sh) am_m d 7 [.ref 114] s) := by
  obtain ⟨d, rfl⟩ : ∃ e, d = e + 1 := ⟨d - 1, by omega⟩
  refine fu_enter (ls := [.ref 114, am_U, am_U, am_U, am_U]) am_at_X0_shortestRing rfl rfl ?_
  show fu_J _ _ (fc_X d (some .int) k_X0_shortestRing 0 [.ref 114, am_U, am_U, am_U, am_U] [] s)
  unfold f_X0_shortestRing
  refine fu_go 4 (pc' := 4) (ls' := [.ref 114, .int (-1 : Int32), .int (0 : Int32), am_U, am_U]) (st' := []) (s' := s) rfl ?_
  refine fu_drop (ls' := [.ref 114, .int (-1 : Int32), .int (0 : Int32), am_U, am_U]) ⟨.inr rfl, .inr rfl, .inr rfl, .inl rfl, .inl rfl, trivial⟩ ?_
  refine fu_bind (el_X0_shortestRing_4 d (by omega) fu_N s (-1 : Int32) (0 : Int32)) (fun r11 => ?_)
  show fu_J _ _ (fc_X d (some .int) k_X0_shortestRing 75 [am_U, .int r11, am_U, am_U, am_U] [] s)
  refine fu_go 1 (pc' := 76) (ls' := [am_U, .int r11, am_U, am_U, am_U]) (st' := [.int r11]) (s' := s) rfl ?_
  exact fu_iret rfl rfl
/-! X4_scratchedSet -/
theorem el_X4_scratchedSet_4 (d : Nat) (hd : 2 ≤ d) : ∀ (n : Nat) (s : fu_S) (P0 : Nat) (hP0 : fc_is3 P0) (x1 : Int32) (x2 : Int32), fu_J (l_X4_scratchedSet_4 n s P0 x1 x2) (fun r => fc_X d (some .int) k_X4_scratchedSet 36 [am_U, .int r, am_U] [] s) (fc_X d (some .int) k_X4_scratchedSet 4 [.ref P0, .int x1, .int x2] [] s) := by
  intro n
  induction n with
  | zero => intros; exact fu_none
  | succ n ih =>
    intro s P0 hP0 x1 x2
    rw [l_X4_scratchedSet_4]
    refine fu_go 2 (pc' := 6) (ls' := [.ref P0, .int x1, .int x2]) (st' := [.ref P0, .int x2]) (s' := s) rfl ?_
    refine fu_step (fu_getI rfl hP0.1 rfl rfl) ?_
    refine fu_ite (fun h1 => fu_step (fu_ic_ge_t rfl h1) ?_) (fun h1 => fu_step (fu_ic_ge_f rfl h1) ?_)
    · refine fu_go 3 (pc' := 15) (ls' := [.ref P0, .int x1, .int x2]) (st' := [.int x2, .ref P0, .int x1]) (s' := s) rfl ?_
      refine fu_bind (fu_cVJ rfl rfl rfl rfl rfl (fu_recv hP0.1 am_at_X4_isScratched rfl) (e_X4_isScratched d (by omega) s P0 hP0 x2)) (fun r2 => ?_)
      show fu_J _ _ (fc_X d (some .int) k_X4_scratchedSet 18 [.ref P0, .int x1, .int x2] [.int (fu_b r2), .int x1] s)
      refine fu_bind (V := fun j3 : Int32 => fc_X d (some .int) k_X4_scratchedSet 28 [.ref P0, am_U, .int x2] [.int j3, .int x1] s) ?_ (fun j3 => ?_)
      · refine fu_ite (fun h4 => fu_step (fu_ib_eq_t rfl h4) ?_) (fun h4 => fu_step (fu_ib_eq_f rfl h4) ?_)
        · refine fu_go 4 (pc' := 28) (ls' := [.ref P0, .int x1, .int x2]) (st' := [.int ((1 : Int32) <<< (x2 &&& 31)), .int x1]) (s' := s) rfl ?_
          exact fu_leaf rfl ⟨.inr rfl, .inl rfl, .inr rfl, trivial⟩
        · refine fu_go 1 (pc' := 28) (ls' := [.ref P0, .int x1, .int x2]) (st' := [.int (0 : Int32), .int x1]) (s' := s) rfl ?_
          exact fu_leaf rfl ⟨.inr rfl, .inl rfl, .inr rfl, trivial⟩
      show fu_J _ _ (fc_X d (some .int) k_X4_scratchedSet 28 [.ref P0, am_U, .int x2] [.int j3, .int x1] s)
      refine fu_go 4 (pc' := 4) (ls' := [.ref P0, .int (x1 ||| j3), .int (x2 + (1 : Int32))]) (st' := []) (s' := s) rfl ?_
      exact fu_drop (ls' := [.ref P0, .int (x1 ||| j3), .int (x2 + (1 : Int32))]) ⟨.inr rfl, .inr rfl, .inr rfl, trivial⟩ (ih s P0 hP0 (x1 ||| j3) (x2 + (1 : Int32)))
    · exact fu_leaf rfl ⟨.inl rfl, .inr rfl, .inl rfl, trivial⟩
set_option maxRecDepth 100000 in
theorem e_X4_scratchedSet (d : Nat) (hd : 3 ≤ d) (s : fu_S) (P0 : Nat) (hP0 : fc_is3 P0) : fu_J (f_X4_scratchedSet s P0) (fun r => some (some (.int r), s)) (am_D (fu_ho fc_sh) am_m d 100 [.ref P0] s) := by
  obtain ⟨d, rfl⟩ : ∃ e, d = e + 1 := ⟨d - 1, by omega⟩
  refine fu_enter (ls := [.ref P0, am_U, am_U]) am_at_X4_scratchedSet rfl rfl ?_
  show fu_J _ _ (fc_X d (some .int) k_X4_scratchedSet 0 [.ref P0, am_U, am_U] [] s)
  unfold f_X4_scratchedSet
  refine fu_go 4 (pc' := 4) (ls' := [.ref P0, .int (0 : Int32), .int (0 : Int32)]) (st' := []) (s' := s) rfl ?_
  refine fu_drop (ls' := [.ref P0, .int (0 : Int32), .int (0 : Int32)]) ⟨.inr rfl, .inr rfl, .inr rfl, trivial⟩ ?_
  refine fu_bind (el_X4_scratchedSet_4 d (by omega) fu_N s P0 hP0 (0 : Int32) (0 : Int32)) (fun r5 => ?_)
  show fu_J _ _ (fc_X d (some .int) k_X4_scratchedSet 36 [am_U, .int r5, am_U] [] s)
  refine fu_go 1 (pc' := 37) (ls' := [am_U, .int r5, am_U]) (st' := [.int r5]) (s' := s) rfl ?_
  exact fu_iret rfl rfl
/-! J6_bitCount_0f7a4 -/
set_option maxRecDepth 100000 in
theorem e_J6_bitCount_0f7a4 (d : Nat) (hd : 1 ≤ d) (s : fu_S) (a0 : Int32) : fu_J (some (f_J6_bitCount_0f7a4 a0)) (fun r => some (some (.int r), s)) (am_D (fu_ho fc_sh) am_m d 385 [.int a0] s) := by
  obtain ⟨d, rfl⟩ : ∃ e, d = e + 1 := ⟨d - 1, by omega⟩
  refine fu_enter (ls := [.int a0]) am_at_J6_bitCount_0f7a4 rfl rfl ?_
  show fu_J _ _ (fc_X d (some .int) k_J6_bitCount_0f7a4 0 [.int a0] [] s)
  unfold f_J6_bitCount_0f7a4
  refine fu_go 41 (pc' := 52) (ls' := [.int (((((((a0 - ((UInt32.toInt32 ((Int32.toUInt32 a0) >>> ((Int32.toUInt32 (1 : Int32)) &&& Int32.toUInt32 31))) &&& (1431655765 : Int32))) &&& (858993459 : Int32)) + ((UInt32.toInt32 ((Int32.toUInt32 (a0 - ((UInt32.toInt32 ((Int32.toUInt32 a0) >>> ((Int32.toUInt32 (1 : Int32)) &&& Int32.toUInt32 31))) &&& (1431655765 : Int32)))) >>> ((Int32.toUInt32 (2 : Int32)) &&& Int32.toUInt32 31))) &&& (858993459 : Int32))) + (UInt32.toInt32 ((Int32.toUInt32 (((a0 - ((UInt32.toInt32 ((Int32.toUInt32 a0) >>> ((Int32.toUInt32 (1 : Int32)) &&& Int32.toUInt32 31))) &&& (1431655765 : Int32))) &&& (858993459 : Int32)) + ((UInt32.toInt32 ((Int32.toUInt32 (a0 - ((UInt32.toInt32 ((Int32.toUInt32 a0) >>> ((Int32.toUInt32 (1 : Int32)) &&& Int32.toUInt32 31))) &&& (1431655765 : Int32)))) >>> ((Int32.toUInt32 (2 : Int32)) &&& Int32.toUInt32 31))) &&& (858993459 : Int32)))) >>> ((Int32.toUInt32 (4 : Int32)) &&& Int32.toUInt32 31)))) &&& (252645135 : Int32)) + (UInt32.toInt32 ((Int32.toUInt32 (((((a0 - ((UInt32.toInt32 ((Int32.toUInt32 a0) >>> ((Int32.toUInt32 (1 : Int32)) &&& Int32.toUInt32 31))) &&& (1431655765 : Int32))) &&& (858993459 : Int32)) + ((UInt32.toInt32 ((Int32.toUInt32 (a0 - ((UInt32.toInt32 ((Int32.toUInt32 a0) >>> ((Int32.toUInt32 (1 : Int32)) &&& Int32.toUInt32 31))) &&& (1431655765 : Int32)))) >>> ((Int32.toUInt32 (2 : Int32)) &&& Int32.toUInt32 31))) &&& (858993459 : Int32))) + (UInt32.toInt32 ((Int32.toUInt32 (((a0 - ((UInt32.toInt32 ((Int32.toUInt32 a0) >>> ((Int32.toUInt32 (1 : Int32)) &&& Int32.toUInt32 31))) &&& (1431655765 : Int32))) &&& (858993459 : Int32)) + ((UInt32.toInt32 ((Int32.toUInt32 (a0 - ((UInt32.toInt32 ((Int32.toUInt32 a0) >>> ((Int32.toUInt32 (1 : Int32)) &&& Int32.toUInt32 31))) &&& (1431655765 : Int32)))) >>> ((Int32.toUInt32 (2 : Int32)) &&& Int32.toUInt32 31))) &&& (858993459 : Int32)))) >>> ((Int32.toUInt32 (4 : Int32)) &&& Int32.toUInt32 31)))) &&& (252645135 : Int32))) >>> ((Int32.toUInt32 (8 : Int32)) &&& Int32.toUInt32 31)))) + (UInt32.toInt32 ((Int32.toUInt32 ((((((a0 - ((UInt32.toInt32 ((Int32.toUInt32 a0) >>> ((Int32.toUInt32 (1 : Int32)) &&& Int32.toUInt32 31))) &&& (1431655765 : Int32))) &&& (858993459 : Int32)) + ((UInt32.toInt32 ((Int32.toUInt32 (a0 - ((UInt32.toInt32 ((Int32.toUInt32 a0) >>> ((Int32.toUInt32 (1 : Int32)) &&& Int32.toUInt32 31))) &&& (1431655765 : Int32)))) >>> ((Int32.toUInt32 (2 : Int32)) &&& Int32.toUInt32 31))) &&& (858993459 : Int32))) + (UInt32.toInt32 ((Int32.toUInt32 (((a0 - ((UInt32.toInt32 ((Int32.toUInt32 a0) >>> ((Int32.toUInt32 (1 : Int32)) &&& Int32.toUInt32 31))) &&& (1431655765 : Int32))) &&& (858993459 : Int32)) + ((UInt32.toInt32 ((Int32.toUInt32 (a0 - ((UInt32.toInt32 ((Int32.toUInt32 a0) >>> ((Int32.toUInt32 (1 : Int32)) &&& Int32.toUInt32 31))) &&& (1431655765 : Int32)))) >>> ((Int32.toUInt32 (2 : Int32)) &&& Int32.toUInt32 31))) &&& (858993459 : Int32)))) >>> ((Int32.toUInt32 (4 : Int32)) &&& Int32.toUInt32 31)))) &&& (252645135 : Int32)) + (UInt32.toInt32 ((Int32.toUInt32 (((((a0 - ((UInt32.toInt32 ((Int32.toUInt32 a0) >>> ((Int32.toUInt32 (1 : Int32)) &&& Int32.toUInt32 31))) &&& (1431655765 : Int32))) &&& (858993459 : Int32)) + ((UInt32.toInt32 ((Int32.toUInt32 (a0 - ((UInt32.toInt32 ((Int32.toUInt32 a0) >>> ((Int32.toUInt32 (1 : Int32)) &&& Int32.toUInt32 31))) &&& (1431655765 : Int32)))) >>> ((Int32.toUInt32 (2 : Int32)) &&& Int32.toUInt32 31))) &&& (858993459 : Int32))) + (UInt32.toInt32 ((Int32.toUInt32 (((a0 - ((UInt32.toInt32 ((Int32.toUInt32 a0) >>> ((Int32.toUInt32 (1 : Int32)) &&& Int32.toUInt32 31))) &&& (1431655765 : Int32))) &&& (858993459 : Int32)) + ((UInt32.toInt32 ((Int32.toUInt32 (a0 - ((UInt32.toInt32 ((Int32.toUInt32 a0) >>> ((Int32.toUInt32 (1 : Int32)) &&& Int32.toUInt32 31))) &&& (1431655765 : Int32)))) >>> ((Int32.toUInt32 (2 : Int32)) &&& Int32.toUInt32 31))) &&& (858993459 : Int32)))) >>> ((Int32.toUInt32 (4 : Int32)) &&& Int32.toUInt32 31)))) &&& (252645135 : Int32))) >>> ((Int32.toUInt32 (8 : Int32)) &&& Int32.toUInt32 31))))) >>> ((Int32.toUInt32 (16 : Int32)) &&& Int32.toUInt32 31))))]) (st' := [.int ((((((((a0 - ((UInt32.toInt32 ((Int32.toUInt32 a0) >>> ((Int32.toUInt32 (1 : Int32)) &&& Int32.toUInt32 31))) &&& (1431655765 : Int32))) &&& (858993459 : Int32)) + ((UInt32.toInt32 ((Int32.toUInt32 (a0 - ((UInt32.toInt32 ((Int32.toUInt32 a0) >>> ((Int32.toUInt32 (1 : Int32)) &&& Int32.toUInt32 31))) &&& (1431655765 : Int32)))) >>> ((Int32.toUInt32 (2 : Int32)) &&& Int32.toUInt32 31))) &&& (858993459 : Int32))) + (UInt32.toInt32 ((Int32.toUInt32 (((a0 - ((UInt32.toInt32 ((Int32.toUInt32 a0) >>> ((Int32.toUInt32 (1 : Int32)) &&& Int32.toUInt32 31))) &&& (1431655765 : Int32))) &&& (858993459 : Int32)) + ((UInt32.toInt32 ((Int32.toUInt32 (a0 - ((UInt32.toInt32 ((Int32.toUInt32 a0) >>> ((Int32.toUInt32 (1 : Int32)) &&& Int32.toUInt32 31))) &&& (1431655765 : Int32)))) >>> ((Int32.toUInt32 (2 : Int32)) &&& Int32.toUInt32 31))) &&& (858993459 : Int32)))) >>> ((Int32.toUInt32 (4 : Int32)) &&& Int32.toUInt32 31)))) &&& (252645135 : Int32)) + (UInt32.toInt32 ((Int32.toUInt32 (((((a0 - ((UInt32.toInt32 ((Int32.toUInt32 a0) >>> ((Int32.toUInt32 (1 : Int32)) &&& Int32.toUInt32 31))) &&& (1431655765 : Int32))) &&& (858993459 : Int32)) + ((UInt32.toInt32 ((Int32.toUInt32 (a0 - ((UInt32.toInt32 ((Int32.toUInt32 a0) >>> ((Int32.toUInt32 (1 : Int32)) &&& Int32.toUInt32 31))) &&& (1431655765 : Int32)))) >>> ((Int32.toUInt32 (2 : Int32)) &&& Int32.toUInt32 31))) &&& (858993459 : Int32))) + (UInt32.toInt32 ((Int32.toUInt32 (((a0 - ((UInt32.toInt32 ((Int32.toUInt32 a0) >>> ((Int32.toUInt32 (1 : Int32)) &&& Int32.toUInt32 31))) &&& (1431655765 : Int32))) &&& (858993459 : Int32)) + ((UInt32.toInt32 ((Int32.toUInt32 (a0 - ((UInt32.toInt32 ((Int32.toUInt32 a0) >>> ((Int32.toUInt32 (1 : Int32)) &&& Int32.toUInt32 31))) &&& (1431655765 : Int32)))) >>> ((Int32.toUInt32 (2 : Int32)) &&& Int32.toUInt32 31))) &&& (858993459 : Int32)))) >>> ((Int32.toUInt32 (4 : Int32)) &&& Int32.toUInt32 31)))) &&& (252645135 : Int32))) >>> ((Int32.toUInt32 (8 : Int32)) &&& Int32.toUInt32 31)))) + (UInt32.toInt32 ((Int32.toUInt32 ((((((a0 - ((UInt32.toInt32 ((Int32.toUInt32 a0) >>> ((Int32.toUInt32 (1 : Int32)) &&& Int32.toUInt32 31))) &&& (1431655765 : Int32))) &&& (858993459 : Int32)) + ((UInt32.toInt32 ((Int32.toUInt32 (a0 - ((UInt32.toInt32 ((Int32.toUInt32 a0) >>> ((Int32.toUInt32 (1 : Int32)) &&& Int32.toUInt32 31))) &&& (1431655765 : Int32)))) >>> ((Int32.toUInt32 (2 : Int32)) &&& Int32.toUInt32 31))) &&& (858993459 : Int32))) + (UInt32.toInt32 ((Int32.toUInt32 (((a0 - ((UInt32.toInt32 ((Int32.toUInt32 a0) >>> ((Int32.toUInt32 (1 : Int32)) &&& Int32.toUInt32 31))) &&& (1431655765 : Int32))) &&& (858993459 : Int32)) + ((UInt32.toInt32 ((Int32.toUInt32 (a0 - ((UInt32.toInt32 ((Int32.toUInt32 a0) >>> ((Int32.toUInt32 (1 : Int32)) &&& Int32.toUInt32 31))) &&& (1431655765 : Int32)))) >>> ((Int32.toUInt32 (2 : Int32)) &&& Int32.toUInt32 31))) &&& (858993459 : Int32)))) >>> ((Int32.toUInt32 (4 : Int32)) &&& Int32.toUInt32 31)))) &&& (252645135 : Int32)) + (UInt32.toInt32 ((Int32.toUInt32 (((((a0 - ((UInt32.toInt32 ((Int32.toUInt32 a0) >>> ((Int32.toUInt32 (1 : Int32)) &&& Int32.toUInt32 31))) &&& (1431655765 : Int32))) &&& (858993459 : Int32)) + ((UInt32.toInt32 ((Int32.toUInt32 (a0 - ((UInt32.toInt32 ((Int32.toUInt32 a0) >>> ((Int32.toUInt32 (1 : Int32)) &&& Int32.toUInt32 31))) &&& (1431655765 : Int32)))) >>> ((Int32.toUInt32 (2 : Int32)) &&& Int32.toUInt32 31))) &&& (858993459 : Int32))) + (UInt32.toInt32 ((Int32.toUInt32 (((a0 - ((UInt32.toInt32 ((Int32.toUInt32 a0) >>> ((Int32.toUInt32 (1 : Int32)) &&& Int32.toUInt32 31))) &&& (1431655765 : Int32))) &&& (858993459 : Int32)) + ((UInt32.toInt32 ((Int32.toUInt32 (a0 - ((UInt32.toInt32 ((Int32.toUInt32 a0) >>> ((Int32.toUInt32 (1 : Int32)) &&& Int32.toUInt32 31))) &&& (1431655765 : Int32)))) >>> ((Int32.toUInt32 (2 : Int32)) &&& Int32.toUInt32 31))) &&& (858993459 : Int32)))) >>> ((Int32.toUInt32 (4 : Int32)) &&& Int32.toUInt32 31)))) &&& (252645135 : Int32))) >>> ((Int32.toUInt32 (8 : Int32)) &&& Int32.toUInt32 31))))) >>> ((Int32.toUInt32 (16 : Int32)) &&& Int32.toUInt32 31)))) &&& (63 : Int32))]) (s' := s) rfl ?_
  exact fu_iret rfl rfl
/-! X0_leastEnding -/
theorem el_X0_leastEnding_21 (d : Nat) (hd : 3 ≤ d) : ∀ (n : Nat) (s : fu_S) (P1 : Nat) (hP1 : fc_is3 P1) (x2 : Int32) (x3 : Int32) (x4 : Int32), fu_J (l_X0_leastEnding_21 n s P1 x2 x3 x4) (fun r => fc_X d (some .int) k_X0_leastEnding 93 [am_U, am_U, am_U, .int r.1, am_U, am_U] [] r.2) (fc_X d (some .int) k_X0_leastEnding 21 [.ref 114, .ref P1, .int x2, .int x3, .int x4, am_U] [] s) := by
  intro n
  induction n with
  | zero => intros; exact fu_none
  | succ n ih =>
    intro s P1 hP1 x2 x3 x4
    rw [l_X0_leastEnding_21]
    refine fu_go 2 (pc' := 24) (ls' := [.ref 114, .ref P1, .int x2, .int x3, .int x4, am_U]) (st' := [.int x2, .int x4]) (s' := s) rfl ?_
    refine fu_ite (fun h2 => fu_step (fu_ic_gt_t rfl h2) ?_) (fun h2 => fu_step (fu_ic_gt_f rfl h2) ?_)
    · refine fu_go 1 (pc' := 29) (ls' := [.ref 114, .ref P1, .int x2, .int x3, .int x4, am_U]) (st' := [.int x4]) (s' := s) rfl ?_
      refine fu_bind (V := fun j3 : Bool => fc_X d (some .int) k_X0_leastEnding 49 [.ref 114, .ref P1, .int x2, .int x3, .int x4, am_U] [.int (fu_b j3)] s) ?_ (fun j3 => ?_)
      · refine fu_ite (fun h4 => fu_step (fu_if_eq_t rfl h4) ?_) (fun h4 => fu_step (fu_if_eq_f rfl h4) ?_)
        · refine fu_go 2 (pc' := 49) (ls' := [.ref 114, .ref P1, .int x2, .int x3, .int x4, am_U]) (st' := [.int (1 : Int32)]) (s' := s) rfl ?_
          exact fu_leaf rfl ⟨.inr rfl, .inr rfl, .inr rfl, .inr rfl, .inr rfl, .inl rfl, trivial⟩
        · refine fu_go 1 (pc' := 34) (ls' := [.ref 114, .ref P1, .int x2, .int x3, .int x4, am_U]) (st' := [.int x4]) (s' := s) rfl ?_
          refine fu_step (fu_cS rfl rfl rfl rfl rfl rfl (fu_eq (e_J6_bitCount_0f7a4 d (by omega) s x4) rfl)) ?_
          show fu_J _ _ (fc_X d (some .int) k_X0_leastEnding 37 [.ref 114, .ref P1, .int x2, .int x3, .int x4, am_U] [.int (f_J6_bitCount_0f7a4 x4)] s)
          refine fu_go 1 (pc' := 38) (ls' := [.ref 114, .ref P1, .int x2, .int x3, .int x4, am_U]) (st' := [.int x3, .int (f_J6_bitCount_0f7a4 x4)]) (s' := s) rfl ?_
          refine fu_step (fu_cS rfl rfl rfl rfl rfl rfl (fu_eq (e_J6_bitCount_0f7a4 d (by omega) s x3) rfl)) ?_
          show fu_J _ _ (fc_X d (some .int) k_X0_leastEnding 41 [.ref 114, .ref P1, .int x2, .int x3, .int x4, am_U] [.int (f_J6_bitCount_0f7a4 x3), .int (f_J6_bitCount_0f7a4 x4)] s)
          refine fu_ite (fun h5 => fu_step (fu_ic_ge_t rfl h5) ?_) (fun h5 => fu_step (fu_ic_ge_f rfl h5) ?_)
          · refine fu_go 2 (pc' := 49) (ls' := [.ref 114, .ref P1, .int x2, .int x3, .int x4, am_U]) (st' := [.int (1 : Int32)]) (s' := s) rfl ?_
            exact fu_leaf rfl ⟨.inr rfl, .inr rfl, .inr rfl, .inr rfl, .inr rfl, .inl rfl, trivial⟩
          · refine fu_go 1 (pc' := 49) (ls' := [.ref 114, .ref P1, .int x2, .int x3, .int x4, am_U]) (st' := [.int (0 : Int32)]) (s' := s) rfl ?_
            exact fu_leaf rfl ⟨.inr rfl, .inr rfl, .inr rfl, .inr rfl, .inr rfl, .inl rfl, trivial⟩
      show fu_J _ _ (fc_X d (some .int) k_X0_leastEnding 49 [.ref 114, .ref P1, .int x2, .int x3, .int x4, am_U] [.int (fu_b j3)] s)
      refine fu_go 6 (pc' := 57) (ls' := [.ref 114, .ref P1, .int x2, .int x3, .int x4, .int (fu_b j3)]) (st' := [.int (x4 &&& (x2 ^^^ (-1 : Int32)))]) (s' := s) rfl ?_
      refine fu_bind (V := fun j6 : Int32 × fu_S => fc_X d (some .int) k_X0_leastEnding 87 [.ref 114, .ref P1, .int x2, .int j6.1, .int x4, am_U] [] j6.2) ?_ (fun j6 => ?_)
      · refine fu_ite (fun h7 => fu_step (fu_if_ne_t rfl h7) ?_) (fun h7 => fu_step (fu_if_ne_f rfl h7) ?_)
        · refine fu_go 1 (pc' := 62) (ls' := [.ref 114, .ref P1, .int x2, .int x3, .int x4, .int (fu_b j3)]) (st' := [.int (fu_b j3)]) (s' := s) rfl ?_
          refine fu_ite (fun h8 => fu_step (fu_ib_eq_t rfl h8) ?_) (fun h8 => fu_step (fu_ib_eq_f rfl h8) ?_)
          · refine fu_go 3 (pc' := 69) (ls' := [.ref 114, .ref P1, .int x2, .int x3, .int x4, .int (fu_b j3)]) (st' := [.int x4, .ref P1, .ref 114]) (s' := s) rfl ?_
            refine fu_bind (fu_cVJ rfl rfl rfl rfl rfl (fu_recv fc_114 am_at_X0_drawNeeds rfl) (e_X0_drawNeeds d (by omega) s P1 hP1 x4)) (fun r9 => ?_)
            show fu_J _ _ (fc_X d (some .int) k_X0_leastEnding 72 [.ref 114, .ref P1, .int x2, .int x3, .int x4, .int (fu_b j3)] [] r9)
            refine fu_go 1 (pc' := 73) (ls' := [.ref 114, .ref P1, .int x2, .int x3, .int x4, .int (fu_b j3)]) (st' := [.ref 114]) (s' := r9) rfl ?_
            refine fu_bind (fu_cVJ rfl rfl rfl rfl rfl (fu_recv fc_114 am_at_X0_shortestRing rfl) (e_X0_shortestRing d (by omega) r9)) (fun r10 => ?_)
            show fu_J _ _ (fc_X d (some .int) k_X0_leastEnding 76 [.ref 114, .ref P1, .int x2, .int x3, .int x4, .int (fu_b j3)] [.int r10] r9)
            refine fu_go 1 (pc' := 77) (ls' := [.ref 114, .ref P1, .int x2, .int x3, .int x4, .int (fu_b j3)]) (st' := [.int (-1 : Int32), .int r10]) (s' := r9) rfl ?_
            refine fu_bind (V := fun j11 : Int32 => fc_X d (some .int) k_X0_leastEnding 86 [.ref 114, .ref P1, .int x2, am_U, .int x4, am_U] [.int j11] r9) ?_ (fun j11 => ?_)
            · refine fu_ite (fun h12 => fu_step (fu_ic_ne_t rfl h12) ?_) (fun h12 => fu_step (fu_ic_ne_f rfl h12) ?_)
              · refine fu_go 2 (pc' := 86) (ls' := [.ref 114, .ref P1, .int x2, .int x3, .int x4, .int (fu_b j3)]) (st' := [.int x4]) (s' := r9) rfl ?_
                exact fu_leaf rfl ⟨.inr rfl, .inr rfl, .inr rfl, .inl rfl, .inr rfl, .inl rfl, trivial⟩
              · refine fu_go 1 (pc' := 86) (ls' := [.ref 114, .ref P1, .int x2, .int x3, .int x4, .int (fu_b j3)]) (st' := [.int x3]) (s' := r9) rfl ?_
                exact fu_leaf rfl ⟨.inr rfl, .inr rfl, .inr rfl, .inl rfl, .inr rfl, .inl rfl, trivial⟩
            show fu_J _ _ (fc_X d (some .int) k_X0_leastEnding 86 [.ref 114, .ref P1, .int x2, am_U, .int x4, am_U] [.int j11] r9)
            refine fu_go 1 (pc' := 87) (ls' := [.ref 114, .ref P1, .int x2, .int j11, .int x4, am_U]) (st' := []) (s' := r9) rfl ?_
            exact fu_leaf rfl ⟨.inr rfl, .inr rfl, .inr rfl, .inr rfl, .inr rfl, .inl rfl, trivial⟩
          · exact fu_leaf rfl ⟨.inr rfl, .inr rfl, .inr rfl, .inr rfl, .inr rfl, .inl rfl, trivial⟩
        · exact fu_leaf rfl ⟨.inr rfl, .inr rfl, .inr rfl, .inr rfl, .inr rfl, .inl rfl, trivial⟩
      show fu_J _ _ (fc_X d (some .int) k_X0_leastEnding 87 [.ref 114, .ref P1, .int x2, .int j6.1, .int x4, am_U] [] j6.2)
      refine fu_go 2 (pc' := 21) (ls' := [.ref 114, .ref P1, .int x2, .int j6.1, .int (x4 + (1 : Int32)), am_U]) (st' := []) (s' := j6.2) rfl ?_
      exact fu_drop (ls' := [.ref 114, .ref P1, .int x2, .int j6.1, .int (x4 + (1 : Int32)), am_U]) ⟨.inr rfl, .inr rfl, .inr rfl, .inr rfl, .inr rfl, .inl rfl, trivial⟩ (ih j6.2 P1 hP1 x2 j6.1 (x4 + (1 : Int32)))
    · exact fu_leaf rfl ⟨.inl rfl, .inl rfl, .inl rfl, .inr rfl, .inl rfl, .inl rfl, trivial⟩
set_option maxRecDepth 100000 in
theorem e_X0_leastEnding (d : Nat) (hd : 4 ≤ d) (s : fu_S) (P1 : Nat) (hP1 : fc_is3 P1) : fu_J (f_X0_leastEnding s P1) (fun r => some (some (.int r.1), r.2)) (am_D (fu_ho fc_sh) am_m d 8 [.ref 114, .ref P1] s) := by
  obtain ⟨d, rfl⟩ : ∃ e, d = e + 1 := ⟨d - 1, by omega⟩
  refine fu_enter (ls := [.ref 114, .ref P1, am_U, am_U, am_U, am_U]) am_at_X0_leastEnding rfl rfl ?_
  show fu_J _ _ (fc_X d (some .int) k_X0_leastEnding 0 [.ref 114, .ref P1, am_U, am_U, am_U, am_U] [] s)
  unfold f_X0_leastEnding
  refine fu_go 1 (pc' := 1) (ls' := [.ref 114, .ref P1, am_U, am_U, am_U, am_U]) (st' := [.ref P1]) (s' := s) rfl ?_
  refine fu_bind (fu_cVJ rfl rfl rfl rfl rfl (fu_recv hP1.1 am_at_X4_scratchedSet rfl) (e_X4_scratchedSet d (by omega) s P1 hP1)) (fun r1 => ?_)
  show fu_J _ _ (fc_X d (some .int) k_X0_leastEnding 4 [.ref 114, .ref P1, am_U, am_U, am_U, am_U] [.int r1] s)
  refine fu_go 4 (pc' := 8) (ls' := [.ref 114, .ref P1, am_U, am_U, am_U, am_U]) (st' := [.ref P1, .int (1 : Int32), .int (r1 ^^^ (-1 : Int32))]) (s' := s) rfl ?_
  refine fu_step (fu_cV rfl rfl rfl rfl rfl (fu_recv hP1.1 am_at_X4_things rfl) (fu_eq (e_X4_things d (by omega) s P1 hP1) rfl)) ?_
  show fu_J _ _ (fc_X d (some .int) k_X0_leastEnding 11 [.ref 114, .ref P1, am_U, am_U, am_U, am_U] [.int (f_X4_things s P1), .int (1 : Int32), .int (r1 ^^^ (-1 : Int32))] s)
  refine fu_go 9 (pc' := 21) (ls' := [.ref 114, .ref P1, .int ((r1 ^^^ (-1 : Int32)) &&& (((1 : Int32) <<< ((f_X4_things s P1) &&& 31)) - (1 : Int32))), .int ((r1 ^^^ (-1 : Int32)) &&& (((1 : Int32) <<< ((f_X4_things s P1) &&& 31)) - (1 : Int32))), .int (0 : Int32), am_U]) (st' := []) (s' := s) rfl ?_
  refine fu_drop (ls' := [.ref 114, .ref P1, .int ((r1 ^^^ (-1 : Int32)) &&& (((1 : Int32) <<< ((f_X4_things s P1) &&& 31)) - (1 : Int32))), .int ((r1 ^^^ (-1 : Int32)) &&& (((1 : Int32) <<< ((f_X4_things s P1) &&& 31)) - (1 : Int32))), .int (0 : Int32), am_U]) ⟨.inr rfl, .inr rfl, .inr rfl, .inr rfl, .inr rfl, .inl rfl, trivial⟩ ?_
  refine fu_bind (el_X0_leastEnding_21 d (by omega) fu_N s P1 hP1 ((r1 ^^^ (-1 : Int32)) &&& (((1 : Int32) <<< ((f_X4_things s P1) &&& 31)) - (1 : Int32))) ((r1 ^^^ (-1 : Int32)) &&& (((1 : Int32) <<< ((f_X4_things s P1) &&& 31)) - (1 : Int32))) (0 : Int32)) (fun r13 => ?_)
  show fu_J _ _ (fc_X d (some .int) k_X0_leastEnding 93 [am_U, am_U, am_U, .int r13.1, am_U, am_U] [] r13.2)
  refine fu_go 1 (pc' := 94) (ls' := [am_U, am_U, am_U, .int r13.1, am_U, am_U]) (st' := [.int r13.1]) (s' := r13.2) rfl ?_
  exact fu_iret rfl rfl
/-! X0_nextOnWay -/
theorem el_X0_nextOnWay_2 (d : Nat) (hd : 1 ≤ d) : ∀ (n : Nat) (s : fu_S) (x1 : Int32) (x2 : Int32) (x3 : Int32), fu_J (l_X0_nextOnWay_2 n s x1 x2 x3) (fun u => Sum.elim (fun r => some (some (.int r), s)) (fun r => fc_X d (some .int) k_X0_nextOnWay 40 [am_U, am_U, am_U, am_U] [] s) u) (fc_X d (some .int) k_X0_nextOnWay 2 [.ref 114, .int x1, .int x2, .int x3] [] s) := by
  intro n
  induction n with
  | zero => intros; exact fu_none
  | succ n ih =>
    intro s x1 x2 x3
    rw [l_X0_nextOnWay_2]
    refine fu_go 2 (pc' := 5) (ls' := [.ref 114, .int x1, .int x2, .int x3]) (st' := [.int (7 : Int32), .int x3]) (s' := s) rfl ?_
    refine fu_ite (fun h1 => fu_step (fu_ic_ge_t rfl h1) ?_) (fun h1 => fu_step (fu_ic_ge_f rfl h1) ?_)
    · refine fu_go 2 (pc' := 10) (ls' := [.ref 114, .int x1, .int x2, .int x3]) (st' := [.int x1, .ref 114]) (s' := s) rfl ?_
      refine fu_bind (fu_cVJ rfl rfl rfl rfl rfl (fu_recv fc_114 am_at_X0_from rfl) (e_X0_from d (by omega) s x1)) (fun r2 => ?_)
      show fu_J _ _ (fc_X d (some .int) k_X0_nextOnWay 13 [.ref 114, .int x1, .int x2, .int x3] [.int r2] s)
      refine fu_go 4 (pc' := 17) (ls' := [.ref 114, .int x1, .int x2, .int x3]) (st' := [.int ((r2 >>> (x3 &&& 31)) &&& (1 : Int32))]) (s' := s) rfl ?_
      refine fu_ite (fun h3 => fu_step (fu_if_eq_t rfl h3) ?_) (fun h3 => fu_step (fu_if_eq_f rfl h3) ?_)
      · refine fu_go 2 (pc' := 2) (ls' := [.ref 114, .int x1, .int x2, .int (x3 + (1 : Int32))]) (st' := []) (s' := s) rfl ?_
        exact fu_drop (ls' := [.ref 114, .int x1, .int x2, .int (x3 + (1 : Int32))]) ⟨.inr rfl, .inr rfl, .inr rfl, .inr rfl, trivial⟩ (ih s x1 x2 (x3 + (1 : Int32)))
      · refine fu_go 1 (pc' := 21) (ls' := [.ref 114, .int x1, .int x2, .int x3]) (st' := [.ref 114]) (s' := s) rfl ?_
        refine fu_step (fu_getR rfl fc_114 rfl rfl) ?_
        refine fu_go 1 (pc' := 25) (ls' := [.ref 114, .int x1, .int x2, .int x3]) (st' := [.int x3, .ref 116]) (s' := s) rfl ?_
        refine fu_guard (fun h4 => fu_step (fu_ldI rfl fc_116 h4) ?_)
        refine fu_go 3 (pc' := 29) (ls' := [.ref 114, .int x1, .int x2, .int x3]) (st' := [.int (x2 - (1 : Int32)), .int (s.1 116 (Int32.toNatClampNeg x3))]) (s' := s) rfl ?_
        refine fu_ite (fun h5 => fu_step (fu_ic_ne_t rfl h5) ?_) (fun h5 => fu_step (fu_ic_ne_f rfl h5) ?_)
        · refine fu_go 1 (pc' := 33) (ls' := [.ref 114, .int x1, .int x2, .int x3]) (st' := [.int x3]) (s' := s) rfl ?_
          exact fu_iret rfl rfl
        · refine fu_go 2 (pc' := 2) (ls' := [.ref 114, .int x1, .int x2, .int (x3 + (1 : Int32))]) (st' := []) (s' := s) rfl ?_
          exact fu_drop (ls' := [.ref 114, .int x1, .int x2, .int (x3 + (1 : Int32))]) ⟨.inr rfl, .inr rfl, .inr rfl, .inr rfl, trivial⟩ (ih s x1 x2 (x3 + (1 : Int32)))
    · exact fu_leaf rfl ⟨.inl rfl, .inl rfl, .inl rfl, .inl rfl, trivial⟩
set_option maxRecDepth 100000 in
theorem e_X0_nextOnWay (d : Nat) (hd : 2 ≤ d) (s : fu_S) (a1 : Int32) (a2 : Int32) : fu_J (f_X0_nextOnWay s a1 a2) (fun r => some (some (.int r), s)) (am_D (fu_ho fc_sh) am_m d 10 [.ref 114, .int a1, .int a2] s) := by
  obtain ⟨d, rfl⟩ : ∃ e, d = e + 1 := ⟨d - 1, by omega⟩
  refine fu_enter (ls := [.ref 114, .int a1, .int a2, am_U]) am_at_X0_nextOnWay rfl rfl ?_
  show fu_J _ _ (fc_X d (some .int) k_X0_nextOnWay 0 [.ref 114, .int a1, .int a2, am_U] [] s)
  unfold f_X0_nextOnWay
  refine fu_go 2 (pc' := 2) (ls' := [.ref 114, .int a1, .int a2, .int (0 : Int32)]) (st' := []) (s' := s) rfl ?_
  refine fu_drop (ls' := [.ref 114, .int a1, .int a2, .int (0 : Int32)]) ⟨.inr rfl, .inr rfl, .inr rfl, .inr rfl, trivial⟩ ?_
  refine fu_bind (el_X0_nextOnWay_2 d (by omega) fu_N s a1 a2 (0 : Int32)) (fun u => fu_sum (fun a => ?_) (fun r6 => ?_))
  · exact fu_ret rfl
  show fu_J _ _ (fc_X d (some .int) k_X0_nextOnWay 40 [am_U, am_U, am_U, am_U] [] s)
  refine fu_go 1 (pc' := 41) (ls' := [am_U, am_U, am_U, am_U]) (st' := [.int (-1 : Int32)]) (s' := s) rfl ?_
  exact fu_iret rfl rfl
/-! X0_measureTo -/
theorem el_X0_measureTo_2 (d : Nat) (hd : 0 ≤ d) : ∀ (n : Nat) (s : fu_S) (x1 : Int32) (x2 : Int32), fu_J (l_X0_measureTo_2 n s x1 x2) (fun r => fc_X d none k_X0_measureTo 30 [.ref 114, am_U, am_U, am_U] [] r) (fc_X d none k_X0_measureTo 2 [.ref 114, .int x1, .int x2, am_U] [] s) := by
  intro n
  induction n with
  | zero => intros; exact fu_none
  | succ n ih =>
    intro s x1 x2
    rw [l_X0_measureTo_2]
    refine fu_go 2 (pc' := 5) (ls' := [.ref 114, .int x1, .int x2, am_U]) (st' := [.int (7 : Int32), .int x2]) (s' := s) rfl ?_
    refine fu_ite (fun h1 => fu_step (fu_ic_ge_t rfl h1) ?_) (fun h1 => fu_step (fu_ic_ge_f rfl h1) ?_)
    · refine fu_go 1 (pc' := 9) (ls' := [.ref 114, .int x1, .int x2, am_U]) (st' := [.ref 114]) (s' := s) rfl ?_
      refine fu_step (fu_getR rfl fc_114 rfl rfl) ?_
      refine fu_go 3 (pc' := 15) (ls' := [.ref 114, .int x1, .int x2, am_U]) (st' := [.int x1, .int x2, .int x2, .ref 116]) (s' := s) rfl ?_
      refine fu_bind (V := fun j2 : Int32 => fc_X d none k_X0_measureTo 23 [.ref 114, .int x1, .int x2, am_U] [.int j2, .int x2, .ref 116] s) ?_ (fun j2 => ?_)
      · refine fu_ite (fun h3 => fu_step (fu_ic_ne_t rfl h3) ?_) (fun h3 => fu_step (fu_ic_ne_f rfl h3) ?_)
        · refine fu_go 2 (pc' := 23) (ls' := [.ref 114, .int x1, .int x2, am_U]) (st' := [.int (0 : Int32), .int x2, .ref 116]) (s' := s) rfl ?_
          exact fu_leaf rfl ⟨.inr rfl, .inr rfl, .inr rfl, .inl rfl, trivial⟩
        · refine fu_go 1 (pc' := 23) (ls' := [.ref 114, .int x1, .int x2, am_U]) (st' := [.int (-1 : Int32), .int x2, .ref 116]) (s' := s) rfl ?_
          exact fu_leaf rfl ⟨.inr rfl, .inr rfl, .inr rfl, .inl rfl, trivial⟩
      show fu_J _ _ (fc_X d none k_X0_measureTo 23 [.ref 114, .int x1, .int x2, am_U] [.int j2, .int x2, .ref 116] s)
      refine fu_guard (fun h5 => fu_lets (b := (fu_pi s 116 (Int32.toNatClampNeg x2) j2)) (fu_stI rfl fc_116 h5) (fun s4 => ?_))
      refine fu_go 2 (pc' := 2) (ls' := [.ref 114, .int x1, .int (x2 + (1 : Int32)), am_U]) (st' := []) (s' := s4) rfl ?_
      exact fu_drop (ls' := [.ref 114, .int x1, .int (x2 + (1 : Int32)), am_U]) ⟨.inr rfl, .inr rfl, .inr rfl, .inl rfl, trivial⟩ (ih s4 x1 (x2 + (1 : Int32)))
    · exact fu_leaf rfl ⟨.inr rfl, .inl rfl, .inl rfl, .inl rfl, trivial⟩
theorem el_X0_measureTo_40 (d : Nat) (hd : 2 ≤ d) : ∀ (n : Nat) (s : fu_S) (x2 : Int32) (x3 : Int32), fu_J (l_X0_measureTo_40 n s x2 x3) (fun r => fc_X d none k_X0_measureTo 79 [.ref 114, am_U, .int x2, am_U] [] r) (fc_X d none k_X0_measureTo 40 [.ref 114, am_U, .int x2, .int x3] [] s) := by
  intro n
  induction n with
  | zero => intros; exact fu_none
  | succ n ih =>
    intro s x2 x3
    rw [l_X0_measureTo_40]
    refine fu_go 2 (pc' := 43) (ls' := [.ref 114, am_U, .int x2, .int x3]) (st' := [.int (7 : Int32), .int x3]) (s' := s) rfl ?_
    refine fu_ite (fun h8 => fu_step (fu_ic_ge_t rfl h8) ?_) (fun h8 => fu_step (fu_ic_ge_f rfl h8) ?_)
    · refine fu_go 1 (pc' := 47) (ls' := [.ref 114, am_U, .int x2, .int x3]) (st' := [.ref 114]) (s' := s) rfl ?_
      refine fu_step (fu_getR rfl fc_114 rfl rfl) ?_
      refine fu_go 1 (pc' := 51) (ls' := [.ref 114, am_U, .int x2, .int x3]) (st' := [.int x3, .ref 116]) (s' := s) rfl ?_
      refine fu_guard (fun h9 => fu_step (fu_ldI rfl fc_116 h9) ?_)
      refine fu_go 1 (pc' := 53) (ls' := [.ref 114, am_U, .int x2, .int x3]) (st' := [.int (-1 : Int32), .int (s.1 116 (Int32.toNatClampNeg x3))]) (s' := s) rfl ?_
      refine fu_bind (V := fun j10 : fu_S => fc_X d none k_X0_measureTo 73 [.ref 114, am_U, .int x2, .int x3] [] j10) ?_ (fun j10 => ?_)
      · refine fu_ite (fun h11 => fu_step (fu_ic_ne_t rfl h11) ?_) (fun h11 => fu_step (fu_ic_ne_f rfl h11) ?_)
        · refine fu_go 3 (pc' := 59) (ls' := [.ref 114, am_U, .int x2, .int x3]) (st' := [.int x2, .int x3, .ref 114]) (s' := s) rfl ?_
          refine fu_bind (fu_cVJ rfl rfl rfl rfl rfl (fu_recv fc_114 am_at_X0_nextOnWay rfl) (e_X0_nextOnWay d (by omega) s x3 x2)) (fun r12 => ?_)
          show fu_J _ _ (fc_X d none k_X0_measureTo 62 [.ref 114, am_U, .int x2, .int x3] [.int r12] s)
          refine fu_go 1 (pc' := 63) (ls' := [.ref 114, am_U, .int x2, .int x3]) (st' := [.int (-1 : Int32), .int r12]) (s' := s) rfl ?_
          refine fu_ite (fun h13 => fu_step (fu_ic_eq_t rfl h13) ?_) (fun h13 => fu_step (fu_ic_eq_f rfl h13) ?_)
          · exact fu_leaf rfl ⟨.inr rfl, .inl rfl, .inr rfl, .inr rfl, trivial⟩
          · refine fu_go 1 (pc' := 67) (ls' := [.ref 114, am_U, .int x2, .int x3]) (st' := [.ref 114]) (s' := s) rfl ?_
            refine fu_step (fu_getR rfl fc_114 rfl rfl) ?_
            refine fu_go 2 (pc' := 72) (ls' := [.ref 114, am_U, .int x2, .int x3]) (st' := [.int x2, .int x3, .ref 116]) (s' := s) rfl ?_
            refine fu_guard (fun h15 => fu_lets (b := (fu_pi s 116 (Int32.toNatClampNeg x3) x2)) (fu_stI rfl fc_116 h15) (fun s14 => ?_))
            exact fu_leaf rfl ⟨.inr rfl, .inl rfl, .inr rfl, .inr rfl, trivial⟩
        · exact fu_leaf rfl ⟨.inr rfl, .inl rfl, .inr rfl, .inr rfl, trivial⟩
      show fu_J _ _ (fc_X d none k_X0_measureTo 73 [.ref 114, am_U, .int x2, .int x3] [] j10)
      refine fu_go 2 (pc' := 40) (ls' := [.ref 114, am_U, .int x2, .int (x3 + (1 : Int32))]) (st' := []) (s' := j10) rfl ?_
      exact fu_drop (ls' := [.ref 114, am_U, .int x2, .int (x3 + (1 : Int32))]) ⟨.inr rfl, .inl rfl, .inr rfl, .inr rfl, trivial⟩ (ih j10 x2 (x3 + (1 : Int32)))
    · exact fu_leaf rfl ⟨.inr rfl, .inl rfl, .inr rfl, .inl rfl, trivial⟩
theorem el_X0_measureTo_32 (d : Nat) (hd : 2 ≤ d) : ∀ (n : Nat) (s : fu_S) (x2 : Int32), fu_J (l_X0_measureTo_32 n s x2) (fun r => fc_X d none k_X0_measureTo 85 [am_U, am_U, am_U, am_U] [] r) (fc_X d none k_X0_measureTo 32 [.ref 114, am_U, .int x2, am_U] [] s) := by
  intro n
  induction n with
  | zero => intros; exact fu_none
  | succ n ih =>
    intro s x2
    rw [l_X0_measureTo_32]
    refine fu_go 2 (pc' := 35) (ls' := [.ref 114, am_U, .int x2, am_U]) (st' := [.int (7 : Int32), .int x2]) (s' := s) rfl ?_
    refine fu_ite (fun h7 => fu_step (fu_ic_ge_t rfl h7) ?_) (fun h7 => fu_step (fu_ic_ge_f rfl h7) ?_)
    · refine fu_go 2 (pc' := 40) (ls' := [.ref 114, am_U, .int x2, .int (0 : Int32)]) (st' := []) (s' := s) rfl ?_
      refine fu_drop (ls' := [.ref 114, am_U, .int x2, .int (0 : Int32)]) ⟨.inr rfl, .inl rfl, .inr rfl, .inr rfl, trivial⟩ ?_
      refine fu_bind (el_X0_measureTo_40 d (by omega) fu_N s x2 (0 : Int32)) (fun r16 => ?_)
      show fu_J _ _ (fc_X d none k_X0_measureTo 79 [.ref 114, am_U, .int x2, am_U] [] r16)
      refine fu_go 2 (pc' := 32) (ls' := [.ref 114, am_U, .int (x2 + (1 : Int32)), am_U]) (st' := []) (s' := r16) rfl ?_
      exact fu_drop (ls' := [.ref 114, am_U, .int (x2 + (1 : Int32)), am_U]) ⟨.inr rfl, .inl rfl, .inr rfl, .inl rfl, trivial⟩ (ih r16 (x2 + (1 : Int32)))
    · exact fu_leaf rfl ⟨.inl rfl, .inl rfl, .inl rfl, .inl rfl, trivial⟩
set_option maxRecDepth 100000 in
theorem e_X0_measureTo (d : Nat) (hd : 3 ≤ d) (s : fu_S) (a1 : Int32) : fu_J (f_X0_measureTo s a1) (fun r => some (none, r)) (am_D (fu_ho fc_sh) am_m d 9 [.ref 114, .int a1] s) := by
  obtain ⟨d, rfl⟩ : ∃ e, d = e + 1 := ⟨d - 1, by omega⟩
  refine fu_enter (ls := [.ref 114, .int a1, am_U, am_U]) am_at_X0_measureTo rfl rfl ?_
  show fu_J _ _ (fc_X d none k_X0_measureTo 0 [.ref 114, .int a1, am_U, am_U] [] s)
  unfold f_X0_measureTo
  refine fu_go 2 (pc' := 2) (ls' := [.ref 114, .int a1, .int (0 : Int32), am_U]) (st' := []) (s' := s) rfl ?_
  refine fu_drop (ls' := [.ref 114, .int a1, .int (0 : Int32), am_U]) ⟨.inr rfl, .inr rfl, .inr rfl, .inl rfl, trivial⟩ ?_
  refine fu_bind (el_X0_measureTo_2 d (by omega) fu_N s a1 (0 : Int32)) (fun r6 => ?_)
  show fu_J _ _ (fc_X d none k_X0_measureTo 30 [.ref 114, am_U, am_U, am_U] [] r6)
  refine fu_go 2 (pc' := 32) (ls' := [.ref 114, am_U, .int (1 : Int32), am_U]) (st' := []) (s' := r6) rfl ?_
  refine fu_drop (ls' := [.ref 114, am_U, .int (1 : Int32), am_U]) ⟨.inr rfl, .inl rfl, .inr rfl, .inl rfl, trivial⟩ ?_
  refine fu_bind (el_X0_measureTo_32 d (by omega) fu_N r6 (1 : Int32)) (fun r17 => ?_)
  show fu_J _ _ (fc_X d none k_X0_measureTo 85 [am_U, am_U, am_U, am_U] [] r17)
  exact fu_vret rfl rfl
/-! X0_stepsFrom -/
set_option maxRecDepth 100000 in
theorem e_X0_stepsFrom (d : Nat) (hd : 1 ≤ d) (s : fu_S) (a1 : Int32) : fu_J (f_X0_stepsFrom s a1) (fun r => some (some (.int r), s)) (am_D (fu_ho fc_sh) am_m d 11 [.ref 114, .int a1] s) := by
  obtain ⟨d, rfl⟩ : ∃ e, d = e + 1 := ⟨d - 1, by omega⟩
  refine fu_enter (ls := [.ref 114, .int a1]) am_at_X0_stepsFrom rfl rfl ?_
  show fu_J _ _ (fc_X d (some .int) k_X0_stepsFrom 0 [.ref 114, .int a1] [] s)
  unfold f_X0_stepsFrom
  refine fu_go 1 (pc' := 1) (ls' := [.ref 114, .int a1]) (st' := [.int a1]) (s' := s) rfl ?_
  refine fu_bind (V := fun j1 : Int32 => fc_X d (some .int) k_X0_stepsFrom 20 [am_U, am_U] [.int j1] s) ?_ (fun j1 => ?_)
  · refine fu_ite (fun h2 => fu_step (fu_if_lt_t rfl h2) ?_) (fun h2 => fu_step (fu_if_lt_f rfl h2) ?_)
    · refine fu_go 1 (pc' := 20) (ls' := [.ref 114, .int a1]) (st' := [.int (-1 : Int32)]) (s' := s) rfl ?_
      exact fu_leaf rfl ⟨.inl rfl, .inl rfl, trivial⟩
    · refine fu_go 2 (pc' := 7) (ls' := [.ref 114, .int a1]) (st' := [.int (7 : Int32), .int a1]) (s' := s) rfl ?_
      refine fu_ite (fun h3 => fu_step (fu_ic_ge_t rfl h3) ?_) (fun h3 => fu_step (fu_ic_ge_f rfl h3) ?_)
      · refine fu_go 1 (pc' := 11) (ls' := [.ref 114, .int a1]) (st' := [.ref 114]) (s' := s) rfl ?_
        refine fu_step (fu_getR rfl fc_114 rfl rfl) ?_
        refine fu_go 1 (pc' := 15) (ls' := [.ref 114, .int a1]) (st' := [.int a1, .ref 116]) (s' := s) rfl ?_
        refine fu_guard (fun h4 => fu_step (fu_ldI rfl fc_116 h4) ?_)
        refine fu_go 1 (pc' := 20) (ls' := [.ref 114, .int a1]) (st' := [.int (s.1 116 (Int32.toNatClampNeg a1))]) (s' := s) rfl ?_
        exact fu_leaf rfl ⟨.inl rfl, .inl rfl, trivial⟩
      · refine fu_go 1 (pc' := 20) (ls' := [.ref 114, .int a1]) (st' := [.int (-1 : Int32)]) (s' := s) rfl ?_
        exact fu_leaf rfl ⟨.inl rfl, .inl rfl, trivial⟩
  show fu_J _ _ (fc_X d (some .int) k_X0_stepsFrom 20 [am_U, am_U] [.int j1] s)
  exact fu_iret rfl rfl
/-! X0_passedBy -/
theorem el_X0_passedBy_28 (d : Nat) (hd : 2 ≤ d) : ∀ (n : Nat) (s : fu_S) (x2 : Int32) (x3 : Int32) (x4 : Int32) (x5 : Int32), fu_J (l_X0_passedBy_28 n s x2 x3 x4 x5) (fun r => fc_X d (some .int) k_X0_passedBy 58 [am_U, am_U, am_U, am_U, .int r, am_U] [] s) (fc_X d (some .int) k_X0_passedBy 28 [.ref 114, am_U, .int x2, .int x3, .int x4, .int x5] [] s) := by
  intro n
  induction n with
  | zero => intros; exact fu_none
  | succ n ih =>
    intro s x2 x3 x4 x5
    rw [l_X0_passedBy_28]
    refine fu_go 2 (pc' := 31) (ls' := [.ref 114, am_U, .int x2, .int x3, .int x4, .int x5]) (st' := [.int x2, .int x5]) (s' := s) rfl ?_
    refine fu_ite (fun h5 => fu_step (fu_ic_ge_t rfl h5) ?_) (fun h5 => fu_step (fu_ic_ge_f rfl h5) ?_)
    · refine fu_go 2 (pc' := 37) (ls' := [.ref 114, am_U, .int x2, .int x3, .int x4, .int x5]) (st' := [.int x3, .int x5]) (s' := s) rfl ?_
      refine fu_ite (fun h6 => fu_step (fu_ic_ge_t rfl h6) ?_) (fun h6 => fu_step (fu_ic_ge_f rfl h6) ?_)
      · refine fu_go 5 (pc' := 47) (ls' := [.ref 114, am_U, .int x2, .int x3, .int x4, .int x5]) (st' := [.int (x3 - x5), .int x4, .ref 114]) (s' := s) rfl ?_
        refine fu_bind (fu_cVJ rfl rfl rfl rfl rfl (fu_recv fc_114 am_at_X0_nextOnWay rfl) (e_X0_nextOnWay d (by omega) s x4 (x3 - x5))) (fun r7 => ?_)
        show fu_J _ _ (fc_X d (some .int) k_X0_passedBy 50 [.ref 114, am_U, .int x2, .int x3, .int x4, .int x5] [.int r7] s)
        refine fu_go 3 (pc' := 28) (ls' := [.ref 114, am_U, .int x2, .int x3, .int r7, .int (x5 + (1 : Int32))]) (st' := []) (s' := s) rfl ?_
        exact fu_drop (ls' := [.ref 114, am_U, .int x2, .int x3, .int r7, .int (x5 + (1 : Int32))]) ⟨.inr rfl, .inl rfl, .inr rfl, .inr rfl, .inr rfl, .inr rfl, trivial⟩ (ih s x2 x3 r7 (x5 + (1 : Int32)))
      · exact fu_leaf rfl ⟨.inl rfl, .inl rfl, .inl rfl, .inl rfl, .inr rfl, .inl rfl, trivial⟩
    · exact fu_leaf rfl ⟨.inl rfl, .inl rfl, .inl rfl, .inl rfl, .inr rfl, .inl rfl, trivial⟩
set_option maxRecDepth 100000 in
theorem e_X0_passedBy (d : Nat) (hd : 3 ≤ d) (s : fu_S) (a1 : Int32) (a2 : Int32) : fu_J (f_X0_passedBy s a1 a2) (fun r => some (some (.int r), s)) (am_D (fu_ho fc_sh) am_m d 12 [.ref 114, .int a1, .int a2] s) := by
  obtain ⟨d, rfl⟩ : ∃ e, d = e + 1 := ⟨d - 1, by omega⟩
  refine fu_enter (ls := [.ref 114, .int a1, .int a2, am_U, am_U, am_U]) am_at_X0_passedBy rfl rfl ?_
  show fu_J _ _ (fc_X d (some .int) k_X0_passedBy 0 [.ref 114, .int a1, .int a2, am_U, am_U, am_U] [] s)
  unfold f_X0_passedBy
  refine fu_go 2 (pc' := 2) (ls' := [.ref 114, .int a1, .int a2, am_U, am_U, am_U]) (st' := [.int a1, .ref 114]) (s' := s) rfl ?_
  refine fu_bind (fu_cVJ rfl rfl rfl rfl rfl (fu_recv fc_114 am_at_X0_stepsFrom rfl) (e_X0_stepsFrom d (by omega) s a1)) (fun r1 => ?_)
  show fu_J _ _ (fc_X d (some .int) k_X0_passedBy 5 [.ref 114, .int a1, .int a2, am_U, am_U, am_U] [.int r1] s)
  refine fu_go 3 (pc' := 8) (ls' := [.ref 114, .int a1, .int a2, .int r1, am_U, am_U]) (st' := [.int (-1 : Int32), .int r1]) (s' := s) rfl ?_
  refine fu_ite (fun h2 => fu_step (fu_ic_eq_t rfl h2) ?_) (fun h2 => fu_step (fu_ic_eq_f rfl h2) ?_)
  · refine fu_go 1 (pc' := 21) (ls' := [.ref 114, .int a1, .int a2, .int r1, am_U, am_U]) (st' := [.int (-1 : Int32)]) (s' := s) rfl ?_
    exact fu_iret rfl rfl
  · refine fu_go 1 (pc' := 12) (ls' := [.ref 114, .int a1, .int a2, .int r1, am_U, am_U]) (st' := [.int a2]) (s' := s) rfl ?_
    refine fu_ite (fun h3 => fu_step (fu_if_lt_t rfl h3) ?_) (fun h3 => fu_step (fu_if_lt_f rfl h3) ?_)
    · refine fu_go 1 (pc' := 21) (ls' := [.ref 114, .int a1, .int a2, .int r1, am_U, am_U]) (st' := [.int (-1 : Int32)]) (s' := s) rfl ?_
      exact fu_iret rfl rfl
    · refine fu_go 2 (pc' := 17) (ls' := [.ref 114, .int a1, .int a2, .int r1, am_U, am_U]) (st' := [.int r1, .int a2]) (s' := s) rfl ?_
      refine fu_ite (fun h4 => fu_step (fu_ic_le_t rfl h4) ?_) (fun h4 => fu_step (fu_ic_le_f rfl h4) ?_)
      · refine fu_go 4 (pc' := 28) (ls' := [.ref 114, .int a1, .int a2, .int r1, .int a1, .int (0 : Int32)]) (st' := []) (s' := s) rfl ?_
        refine fu_drop (ls' := [.ref 114, am_U, .int a2, .int r1, .int a1, .int (0 : Int32)]) ⟨.inr rfl, .inl rfl, .inr rfl, .inr rfl, .inr rfl, .inr rfl, trivial⟩ ?_
        refine fu_bind (el_X0_passedBy_28 d (by omega) fu_N s a2 r1 a1 (0 : Int32)) (fun r8 => ?_)
        show fu_J _ _ (fc_X d (some .int) k_X0_passedBy 58 [am_U, am_U, am_U, am_U, .int r8, am_U] [] s)
        refine fu_go 1 (pc' := 60) (ls' := [am_U, am_U, am_U, am_U, .int r8, am_U]) (st' := [.int r8]) (s' := s) rfl ?_
        exact fu_iret rfl rfl
      · refine fu_go 1 (pc' := 21) (ls' := [.ref 114, .int a1, .int a2, .int r1, am_U, am_U]) (st' := [.int (-1 : Int32)]) (s' := s) rfl ?_
        exact fu_iret rfl rfl
/-! X4_spotFrom -/
set_option maxRecDepth 100000 in
theorem e_X4_spotFrom (d : Nat) (hd : 1 ≤ d) (s : fu_S) (P0 : Nat) (hP0 : fc_is3 P0) (a1 : Int32) (a2 : Int32) : fu_J (some (f_X4_spotFrom P0 a1 a2)) (fun r => some (some (.int r), s)) (am_D (fu_ho fc_sh) am_m d 64 [.ref P0, .int a1, .int a2] s) := by
  obtain ⟨d, rfl⟩ : ∃ e, d = e + 1 := ⟨d - 1, by omega⟩
  refine fu_enter (ls := [.ref P0, .int a1, .int a2]) am_at_X4_spotFrom rfl rfl ?_
  show fu_J _ _ (fc_X d (some .int) k_X4_spotFrom 0 [.ref P0, .int a1, .int a2] [] s)
  unfold f_X4_spotFrom
  refine fu_go 4 (pc' := 5) (ls' := [.ref P0, .int a1, .int a2]) (st' := [.int (10 : Int32), .int (a1 + a2)]) (s' := s) rfl ?_
  refine fu_step (fu_rem rfl (by decide)) ?_
  exact fu_iret rfl rfl
/-! X4_spotBy -/
set_option maxRecDepth 100000 in
theorem e_X4_spotBy (d : Nat) (hd : 2 ≤ d) (s : fu_S) (P0 : Nat) (hP0 : fc_is3 P0) (a1 : Int32) (a2 : Int32) : fu_J (f_X4_spotBy s P0 a1 a2) (fun r => some (some (.int r), s)) (am_D (fu_ho fc_sh) am_m d 66 [.ref P0, .int a1, .int a2] s) := by
  obtain ⟨d, rfl⟩ : ∃ e, d = e + 1 := ⟨d - 1, by omega⟩
  refine fu_enter (ls := [.ref P0, .int a1, .int a2]) am_at_X4_spotBy rfl rfl ?_
  show fu_J _ _ (fc_X d (some .int) k_X4_spotBy 0 [.ref P0, .int a1, .int a2] [] s)
  unfold f_X4_spotBy
  refine fu_go 2 (pc' := 2) (ls' := [.ref P0, .int a1, .int a2]) (st' := [.int a2, .ref P0]) (s' := s) rfl ?_
  refine fu_step (fu_cV rfl rfl rfl rfl rfl (fu_recv hP0.1 am_at_X4_hasKind rfl) (fu_eq (e_X4_hasKind d (by omega) s P0 hP0 a2) rfl)) ?_
  show fu_J _ _ (fc_X d (some .int) k_X4_spotBy 5 [.ref P0, .int a1, .int a2] [.int (fu_b (f_X4_hasKind s P0 a2))] s)
  refine fu_bind (V := fun j1 : Int32 => fc_X d (some .int) k_X4_spotBy 23 [am_U, am_U, am_U] [.int j1] s) ?_ (fun j1 => ?_)
  · refine fu_ite (fun h2 => fu_step (fu_ib_eq_t rfl h2) ?_) (fun h2 => fu_step (fu_ib_eq_f rfl h2) ?_)
    · refine fu_go 3 (pc' := 11) (ls' := [.ref P0, .int a1, .int a2]) (st' := [.ref P0, .int a1, .ref P0]) (s' := s) rfl ?_
      refine fu_step (fu_getR rfl hP0.1 rfl rfl) ?_
      refine fu_go 1 (pc' := 15) (ls' := [.ref P0, .int a1, .int a2]) (st' := [.int a2, .ref (P0 + 2), .int a1, .ref P0]) (s' := s) rfl ?_
      refine fu_guard (fun h3 => fu_step (fu_ldI rfl hP0.2.2.1 h3) ?_)
      refine fu_step (fu_cV rfl rfl rfl rfl rfl (fu_recv hP0.1 am_at_X4_spotFrom rfl) (fu_eq (e_X4_spotFrom d (by omega) s P0 hP0 a1 (s.1 (P0 + 2) (Int32.toNatClampNeg a2))) rfl)) ?_
      show fu_J _ _ (fc_X d (some .int) k_X4_spotBy 19 [.ref P0, .int a1, .int a2] [.int (f_X4_spotFrom P0 a1 (s.1 (P0 + 2) (Int32.toNatClampNeg a2)))] s)
      refine fu_go 1 (pc' := 23) (ls' := [.ref P0, .int a1, .int a2]) (st' := [.int (f_X4_spotFrom P0 a1 (s.1 (P0 + 2) (Int32.toNatClampNeg a2)))]) (s' := s) rfl ?_
      exact fu_leaf rfl ⟨.inl rfl, .inl rfl, .inl rfl, trivial⟩
    · refine fu_go 1 (pc' := 23) (ls' := [.ref P0, .int a1, .int a2]) (st' := [.int (-1 : Int32)]) (s' := s) rfl ?_
      exact fu_leaf rfl ⟨.inl rfl, .inl rfl, .inl rfl, trivial⟩
  show fu_J _ _ (fc_X d (some .int) k_X4_spotBy 23 [am_U, am_U, am_U] [.int j1] s)
  exact fu_iret rfl rfl
/-! X1_itches -/
set_option maxRecDepth 100000 in
theorem e_X1_itches (d : Nat) (hd : 3 ≤ d) (s : fu_S) (P0 : Nat) (hP0 : fc_is3 P0) (a1 : Int32) (a2 : Int32) (a3 : Int32) (a4 : Int32) : fu_J (f_X1_itches s P0 a1 a2 a3 a4) (fun r => some (some (.int (fu_b r)), s)) (am_D (fu_ho fc_sh) am_m d 13 [.ref P0, .int a1, .int a2, .int a3, .int a4] s) := by
  obtain ⟨d, rfl⟩ : ∃ e, d = e + 1 := ⟨d - 1, by omega⟩
  refine fu_enter (ls := [.ref P0, .int a1, .int a2, .int a3, .int a4]) am_at_X1_itches rfl rfl ?_
  show fu_J _ _ (fc_X d (some .boolean) k_X1_itches 0 [.ref P0, .int a1, .int a2, .int a3, .int a4] [] s)
  unfold f_X1_itches
  refine fu_go 3 (pc' := 3) (ls' := [.ref P0, .int a1, .int a2, .int a3, .int a4]) (st' := [.int a2, .int a1, .ref P0]) (s' := s) rfl ?_
  refine fu_bind (fu_cVJ rfl rfl rfl rfl rfl (fu_recv hP0.1 am_at_X4_bearerBy rfl) (e_X4_bearerBy d (by omega) s P0 hP0 a1 a2)) (fun r1 => ?_)
  show fu_J _ _ (fc_X d (some .boolean) k_X1_itches 6 [.ref P0, .int a1, .int a2, .int a3, .int a4] [.int r1] s)
  refine fu_go 1 (pc' := 7) (ls' := [.ref P0, .int a1, .int a2, .int a3, .int a4]) (st' := [.int a3, .int r1]) (s' := s) rfl ?_
  refine fu_bind (V := fun j2 : Bool => fc_X d (some .boolean) k_X1_itches 26 [am_U, am_U, am_U, am_U, am_U] [.int (fu_b j2)] s) ?_ (fun j2 => ?_)
  · refine fu_ite (fun h3 => fu_step (fu_ic_ne_t rfl h3) ?_) (fun h3 => fu_step (fu_ic_ne_f rfl h3) ?_)
    · refine fu_go 3 (pc' := 13) (ls' := [.ref P0, .int a1, .int a2, .int a3, .int a4]) (st' := [.int a2, .int a1, .ref P0]) (s' := s) rfl ?_
      refine fu_bind (fu_cVJ rfl rfl rfl rfl rfl (fu_recv hP0.1 am_at_X4_spotBy rfl) (e_X4_spotBy d (by omega) s P0 hP0 a1 a2)) (fun r4 => ?_)
      show fu_J _ _ (fc_X d (some .boolean) k_X1_itches 16 [.ref P0, .int a1, .int a2, .int a3, .int a4] [.int r4] s)
      refine fu_go 1 (pc' := 18) (ls' := [.ref P0, .int a1, .int a2, .int a3, .int a4]) (st' := [.int a4, .int r4]) (s' := s) rfl ?_
      refine fu_ite (fun h5 => fu_step (fu_ic_ne_t rfl h5) ?_) (fun h5 => fu_step (fu_ic_ne_f rfl h5) ?_)
      · refine fu_go 2 (pc' := 26) (ls' := [.ref P0, .int a1, .int a2, .int a3, .int a4]) (st' := [.int (1 : Int32)]) (s' := s) rfl ?_
        exact fu_leaf rfl ⟨.inl rfl, .inl rfl, .inl rfl, .inl rfl, .inl rfl, trivial⟩
      · refine fu_go 1 (pc' := 26) (ls' := [.ref P0, .int a1, .int a2, .int a3, .int a4]) (st' := [.int (0 : Int32)]) (s' := s) rfl ?_
        exact fu_leaf rfl ⟨.inl rfl, .inl rfl, .inl rfl, .inl rfl, .inl rfl, trivial⟩
    · refine fu_go 1 (pc' := 26) (ls' := [.ref P0, .int a1, .int a2, .int a3, .int a4]) (st' := [.int (0 : Int32)]) (s' := s) rfl ?_
      exact fu_leaf rfl ⟨.inl rfl, .inl rfl, .inl rfl, .inl rfl, .inl rfl, trivial⟩
  show fu_J _ _ (fc_X d (some .boolean) k_X1_itches 26 [am_U, am_U, am_U, am_U, am_U] [.int (fu_b j2)] s)
  exact fu_bret (b := j2) rfl rfl
/-! X1_countCouples -/
theorem el_X1_countCouples_17 (d : Nat) (hd : 3 ≤ d) : ∀ (n : Nat) (s : fu_S) (P0 : Nat) (hP0 : fc_is3 P0) (x1 : Int32) (x2 : Int32) (x3 : Int32) (x4 : Int32) (x5 : Int32), fu_J (l_X1_countCouples_17 n s P0 x1 x2 x3 x4 x5) (fun r => fc_X d (some .int) k_X1_countCouples 53 [.ref P0, .int x1, .int x2, .int r, .int x4, am_U] [] s) (fc_X d (some .int) k_X1_countCouples 17 [.ref P0, .int x1, .int x2, .int x3, .int x4, .int x5] [] s) := by
  intro n
  induction n with
  | zero => intros; exact fu_none
  | succ n ih =>
    intro s P0 hP0 x1 x2 x3 x4 x5
    rw [l_X1_countCouples_17]
    refine fu_go 2 (pc' := 20) (ls' := [.ref P0, .int x1, .int x2, .int x3, .int x4, .int x5]) (st' := [.ref P0, .int x5]) (s' := s) rfl ?_
    refine fu_step (fu_cV rfl rfl rfl rfl rfl (fu_recv hP0.1 am_at_X4_kinds rfl) (fu_eq (e_X4_kinds d (by omega) s P0 hP0) rfl)) ?_
    show fu_J _ _ (fc_X d (some .int) k_X1_countCouples 23 [.ref P0, .int x1, .int x2, .int x3, .int x4, .int x5] [.int (f_X4_kinds s P0), .int x5] s)
    refine fu_ite (fun h2 => fu_step (fu_ic_ge_t rfl h2) ?_) (fun h2 => fu_step (fu_ic_ge_f rfl h2) ?_)
    · refine fu_go 6 (pc' := 34) (ls' := [.ref P0, .int x1, .int x2, .int x3, .int x4, .int x5]) (st' := [.int x2, .int x1, .int x5, .int x4, .ref P0, .int x3]) (s' := s) rfl ?_
      refine fu_bind (fu_cSJ rfl rfl rfl rfl rfl rfl (e_X1_itches d (by omega) s P0 hP0 x4 x5 x1 x2)) (fun r3 => ?_)
      show fu_J _ _ (fc_X d (some .int) k_X1_countCouples 37 [.ref P0, .int x1, .int x2, .int x3, .int x4, .int x5] [.int (fu_b r3), .int x3] s)
      refine fu_bind (V := fun j4 : Bool => fc_X d (some .int) k_X1_countCouples 45 [.ref P0, .int x1, .int x2, am_U, .int x4, .int x5] [.int (fu_b j4), .int x3] s) ?_ (fun j4 => ?_)
      · refine fu_ite (fun h5 => fu_step (fu_ib_eq_t rfl h5) ?_) (fun h5 => fu_step (fu_ib_eq_f rfl h5) ?_)
        · refine fu_go 2 (pc' := 45) (ls' := [.ref P0, .int x1, .int x2, .int x3, .int x4, .int x5]) (st' := [.int (1 : Int32), .int x3]) (s' := s) rfl ?_
          exact fu_leaf rfl ⟨.inr rfl, .inr rfl, .inr rfl, .inl rfl, .inr rfl, .inr rfl, trivial⟩
        · refine fu_go 1 (pc' := 45) (ls' := [.ref P0, .int x1, .int x2, .int x3, .int x4, .int x5]) (st' := [.int (0 : Int32), .int x3]) (s' := s) rfl ?_
          exact fu_leaf rfl ⟨.inr rfl, .inr rfl, .inr rfl, .inl rfl, .inr rfl, .inr rfl, trivial⟩
      show fu_J _ _ (fc_X d (some .int) k_X1_countCouples 45 [.ref P0, .int x1, .int x2, am_U, .int x4, .int x5] [.int (fu_b j4), .int x3] s)
      refine fu_go 4 (pc' := 17) (ls' := [.ref P0, .int x1, .int x2, .int (x3 + (fu_b j4)), .int x4, .int (x5 + (1 : Int32))]) (st' := []) (s' := s) rfl ?_
      exact fu_drop (ls' := [.ref P0, .int x1, .int x2, .int (x3 + (fu_b j4)), .int x4, .int (x5 + (1 : Int32))]) ⟨.inr rfl, .inr rfl, .inr rfl, .inr rfl, .inr rfl, .inr rfl, trivial⟩ (ih s P0 hP0 x1 x2 (x3 + (fu_b j4)) x4 (x5 + (1 : Int32)))
    · exact fu_leaf rfl ⟨.inr rfl, .inr rfl, .inr rfl, .inr rfl, .inr rfl, .inl rfl, trivial⟩
theorem el_X1_countCouples_5 (d : Nat) (hd : 3 ≤ d) : ∀ (n : Nat) (s : fu_S) (P0 : Nat) (hP0 : fc_is3 P0) (x1 : Int32) (x2 : Int32) (x3 : Int32) (x4 : Int32), fu_J (l_X1_countCouples_5 n s P0 x1 x2 x3 x4) (fun r => fc_X d (some .int) k_X1_countCouples 59 [am_U, am_U, am_U, .int r, am_U, am_U] [] s) (fc_X d (some .int) k_X1_countCouples 5 [.ref P0, .int x1, .int x2, .int x3, .int x4, am_U] [] s) := by
  intro n
  induction n with
  | zero => intros; exact fu_none
  | succ n ih =>
    intro s P0 hP0 x1 x2 x3 x4
    rw [l_X1_countCouples_5]
    refine fu_go 2 (pc' := 8) (ls' := [.ref P0, .int x1, .int x2, .int x3, .int x4, am_U]) (st' := [.ref P0, .int x4]) (s' := s) rfl ?_
    refine fu_step (fu_cV rfl rfl rfl rfl rfl (fu_recv hP0.1 am_at_X4_people rfl) (fu_eq (e_X4_people d (by omega) s P0 hP0) rfl)) ?_
    show fu_J _ _ (fc_X d (some .int) k_X1_countCouples 11 [.ref P0, .int x1, .int x2, .int x3, .int x4, am_U] [.int (f_X4_people s P0), .int x4] s)
    refine fu_ite (fun h1 => fu_step (fu_ic_ge_t rfl h1) ?_) (fun h1 => fu_step (fu_ic_ge_f rfl h1) ?_)
    · refine fu_go 2 (pc' := 17) (ls' := [.ref P0, .int x1, .int x2, .int x3, .int x4, .int (0 : Int32)]) (st' := []) (s' := s) rfl ?_
      refine fu_drop (ls' := [.ref P0, .int x1, .int x2, .int x3, .int x4, .int (0 : Int32)]) ⟨.inr rfl, .inr rfl, .inr rfl, .inr rfl, .inr rfl, .inr rfl, trivial⟩ ?_
      refine fu_bind (el_X1_countCouples_17 d (by omega) fu_N s P0 hP0 x1 x2 x3 x4 (0 : Int32)) (fun r6 => ?_)
      show fu_J _ _ (fc_X d (some .int) k_X1_countCouples 53 [.ref P0, .int x1, .int x2, .int r6, .int x4, am_U] [] s)
      refine fu_go 2 (pc' := 5) (ls' := [.ref P0, .int x1, .int x2, .int r6, .int (x4 + (1 : Int32)), am_U]) (st' := []) (s' := s) rfl ?_
      exact fu_drop (ls' := [.ref P0, .int x1, .int x2, .int r6, .int (x4 + (1 : Int32)), am_U]) ⟨.inr rfl, .inr rfl, .inr rfl, .inr rfl, .inr rfl, .inl rfl, trivial⟩ (ih s P0 hP0 x1 x2 r6 (x4 + (1 : Int32)))
    · exact fu_leaf rfl ⟨.inl rfl, .inl rfl, .inl rfl, .inr rfl, .inl rfl, .inl rfl, trivial⟩
set_option maxRecDepth 100000 in
theorem e_X1_countCouples (d : Nat) (hd : 4 ≤ d) (s : fu_S) (P0 : Nat) (hP0 : fc_is3 P0) (a1 : Int32) (a2 : Int32) : fu_J (f_X1_countCouples s P0 a1 a2) (fun r => some (some (.int r), s)) (am_D (fu_ho fc_sh) am_m d 14 [.ref P0, .int a1, .int a2] s) := by
  obtain ⟨d, rfl⟩ : ∃ e, d = e + 1 := ⟨d - 1, by omega⟩
  refine fu_enter (ls := [.ref P0, .int a1, .int a2, am_U, am_U, am_U]) am_at_X1_countCouples rfl rfl ?_
  show fu_J _ _ (fc_X d (some .int) k_X1_countCouples 0 [.ref P0, .int a1, .int a2, am_U, am_U, am_U] [] s)
  unfold f_X1_countCouples
  refine fu_go 4 (pc' := 5) (ls' := [.ref P0, .int a1, .int a2, .int (0 : Int32), .int (0 : Int32), am_U]) (st' := []) (s' := s) rfl ?_
  refine fu_drop (ls' := [.ref P0, .int a1, .int a2, .int (0 : Int32), .int (0 : Int32), am_U]) ⟨.inr rfl, .inr rfl, .inr rfl, .inr rfl, .inr rfl, .inl rfl, trivial⟩ ?_
  refine fu_bind (el_X1_countCouples_5 d (by omega) fu_N s P0 hP0 a1 a2 (0 : Int32) (0 : Int32)) (fun r7 => ?_)
  show fu_J _ _ (fc_X d (some .int) k_X1_countCouples 59 [am_U, am_U, am_U, .int r7, am_U, am_U] [] s)
  refine fu_go 1 (pc' := 60) (ls' := [am_U, am_U, am_U, .int r7, am_U, am_U]) (st' := [.int r7]) (s' := s) rfl ?_
  exact fu_iret rfl rfl
/-! X4_ofKind -/
set_option maxRecDepth 100000 in
theorem e_X4_ofKind (d : Nat) (hd : 2 ≤ d) (s : fu_S) (P0 : Nat) (hP0 : fc_is3 P0) (a1 : Int32) (a2 : Int32) : fu_J (f_X4_ofKind s P0 a1 a2) (fun r => some (some (.int r), s)) (am_D (fu_ho fc_sh) am_m d 59 [.ref P0, .int a1, .int a2] s) := by
  obtain ⟨d, rfl⟩ : ∃ e, d = e + 1 := ⟨d - 1, by omega⟩
  refine fu_enter (ls := [.ref P0, .int a1, .int a2]) am_at_X4_ofKind rfl rfl ?_
  show fu_J _ _ (fc_X d (some .int) k_X4_ofKind 0 [.ref P0, .int a1, .int a2] [] s)
  unfold f_X4_ofKind
  refine fu_go 2 (pc' := 2) (ls' := [.ref P0, .int a1, .int a2]) (st' := [.int a1, .ref P0]) (s' := s) rfl ?_
  refine fu_step (fu_cV rfl rfl rfl rfl rfl (fu_recv hP0.1 am_at_X4_hasKind rfl) (fu_eq (e_X4_hasKind d (by omega) s P0 hP0 a1) rfl)) ?_
  show fu_J _ _ (fc_X d (some .int) k_X4_ofKind 5 [.ref P0, .int a1, .int a2] [.int (fu_b (f_X4_hasKind s P0 a1))] s)
  refine fu_bind (V := fun j1 : Int32 => fc_X d (some .int) k_X4_ofKind 45 [am_U, am_U, am_U] [.int j1] s) ?_ (fun j1 => ?_)
  · refine fu_ite (fun h2 => fu_step (fu_ib_ne_t rfl h2) ?_) (fun h2 => fu_step (fu_ib_ne_f rfl h2) ?_)
    · refine fu_go 1 (pc' := 13) (ls' := [.ref P0, .int a1, .int a2]) (st' := [.int a2]) (s' := s) rfl ?_
      refine fu_ite (fun h3 => fu_step (fu_if_ne_t rfl h3) ?_) (fun h3 => fu_step (fu_if_ne_f rfl h3) ?_)
      · refine fu_go 1 (pc' := 17) (ls' := [.ref P0, .int a1, .int a2]) (st' := [.ref P0]) (s' := s) rfl ?_
        refine fu_step (fu_getR rfl hP0.1 rfl rfl) ?_
        refine fu_go 1 (pc' := 21) (ls' := [.ref P0, .int a1, .int a2]) (st' := [.int a1, .ref (P0 + 1)]) (s' := s) rfl ?_
        refine fu_guard (fun h4 => fu_step (fu_ldI rfl hP0.2.1 h4) ?_)
        refine fu_go 1 (pc' := 45) (ls' := [.ref P0, .int a1, .int a2]) (st' := [.int (s.1 (P0 + 1) (Int32.toNatClampNeg a1))]) (s' := s) rfl ?_
        exact fu_leaf rfl ⟨.inl rfl, .inl rfl, .inl rfl, trivial⟩
      · refine fu_go 2 (pc' := 27) (ls' := [.ref P0, .int a1, .int a2]) (st' := [.int (1 : Int32), .int a2]) (s' := s) rfl ?_
        refine fu_ite (fun h5 => fu_step (fu_ic_ne_t rfl h5) ?_) (fun h5 => fu_step (fu_ic_ne_f rfl h5) ?_)
        · refine fu_go 1 (pc' := 31) (ls' := [.ref P0, .int a1, .int a2]) (st' := [.ref P0]) (s' := s) rfl ?_
          refine fu_step (fu_getR rfl hP0.1 rfl rfl) ?_
          refine fu_go 1 (pc' := 35) (ls' := [.ref P0, .int a1, .int a2]) (st' := [.int a1, .ref (P0 + 2)]) (s' := s) rfl ?_
          refine fu_guard (fun h6 => fu_step (fu_ldI rfl hP0.2.2.1 h6) ?_)
          refine fu_go 1 (pc' := 45) (ls' := [.ref P0, .int a1, .int a2]) (st' := [.int (s.1 (P0 + 2) (Int32.toNatClampNeg a1))]) (s' := s) rfl ?_
          exact fu_leaf rfl ⟨.inl rfl, .inl rfl, .inl rfl, trivial⟩
        · refine fu_go 1 (pc' := 40) (ls' := [.ref P0, .int a1, .int a2]) (st' := [.ref P0]) (s' := s) rfl ?_
          refine fu_step (fu_getR rfl hP0.1 rfl rfl) ?_
          refine fu_go 1 (pc' := 44) (ls' := [.ref P0, .int a1, .int a2]) (st' := [.int a1, .ref (P0 + 3)]) (s' := s) rfl ?_
          refine fu_guard (fun h7 => fu_step (fu_ldI rfl hP0.2.2.2.1 h7) ?_)
          exact fu_leaf rfl ⟨.inl rfl, .inl rfl, .inl rfl, trivial⟩
    · refine fu_go 2 (pc' := 45) (ls' := [.ref P0, .int a1, .int a2]) (st' := [.int (0 : Int32)]) (s' := s) rfl ?_
      exact fu_leaf rfl ⟨.inl rfl, .inl rfl, .inl rfl, trivial⟩
  show fu_J _ _ (fc_X d (some .int) k_X4_ofKind 45 [am_U, am_U, am_U] [.int j1] s)
  exact fu_iret rfl rfl
/-! X4_weightOfKind -/
set_option maxRecDepth 100000 in
theorem e_X4_weightOfKind (d : Nat) (hd : 3 ≤ d) (s : fu_S) (P0 : Nat) (hP0 : fc_is3 P0) (a1 : Int32) : fu_J (f_X4_weightOfKind s P0 a1) (fun r => some (some (.int r), s)) (am_D (fu_ho fc_sh) am_m d 60 [.ref P0, .int a1] s) := by
  obtain ⟨d, rfl⟩ : ∃ e, d = e + 1 := ⟨d - 1, by omega⟩
  refine fu_enter (ls := [.ref P0, .int a1]) am_at_X4_weightOfKind rfl rfl ?_
  show fu_J _ _ (fc_X d (some .int) k_X4_weightOfKind 0 [.ref P0, .int a1] [] s)
  unfold f_X4_weightOfKind
  refine fu_go 3 (pc' := 3) (ls' := [.ref P0, .int a1]) (st' := [.int (2 : Int32), .int a1, .ref P0]) (s' := s) rfl ?_
  refine fu_bind (fu_cVJ rfl rfl rfl rfl rfl (fu_recv hP0.1 am_at_X4_ofKind rfl) (e_X4_ofKind d (by omega) s P0 hP0 a1 (2 : Int32))) (fun r1 => ?_)
  show fu_J _ _ (fc_X d (some .int) k_X4_weightOfKind 6 [.ref P0, .int a1] [.int r1] s)
  exact fu_iret rfl rfl
/-! X1_weightOf -/
theorem el_X1_weightOf_6 (d : Nat) (hd : 3 ≤ d) : ∀ (n : Nat) (s : fu_S) (P0 : Nat) (hP0 : fc_is3 P0) (x1 : Int32) (x2 : Int32) (x3 : Int32) (x4 : Int32) (x5 : Int32), fu_J (l_X1_weightOf_6 n s P0 x1 x2 x3 x4 x5) (fun r => fc_X d (some .int) k_X1_weightOf 48 [am_U, am_U, am_U, am_U, .int r, am_U] [] s) (fc_X d (some .int) k_X1_weightOf 6 [.ref P0, .int x1, .int x2, .int x3, .int x4, .int x5] [] s) := by
  intro n
  induction n with
  | zero => intros; exact fu_none
  | succ n ih =>
    intro s P0 hP0 x1 x2 x3 x4 x5
    rw [l_X1_weightOf_6]
    refine fu_go 2 (pc' := 9) (ls' := [.ref P0, .int x1, .int x2, .int x3, .int x4, .int x5]) (st' := [.ref P0, .int x5]) (s' := s) rfl ?_
    refine fu_step (fu_cV rfl rfl rfl rfl rfl (fu_recv hP0.1 am_at_X4_kinds rfl) (fu_eq (e_X4_kinds d (by omega) s P0 hP0) rfl)) ?_
    show fu_J _ _ (fc_X d (some .int) k_X1_weightOf 12 [.ref P0, .int x1, .int x2, .int x3, .int x4, .int x5] [.int (f_X4_kinds s P0), .int x5] s)
    refine fu_ite (fun h1 => fu_step (fu_ic_ge_t rfl h1) ?_) (fun h1 => fu_step (fu_ic_ge_f rfl h1) ?_)
    · refine fu_go 6 (pc' := 23) (ls' := [.ref P0, .int x1, .int x2, .int x3, .int x4, .int x5]) (st' := [.int x2, .int x1, .int x5, .int x3, .ref P0, .int x4]) (s' := s) rfl ?_
      refine fu_bind (fu_cSJ rfl rfl rfl rfl rfl rfl (e_X1_itches d (by omega) s P0 hP0 x3 x5 x1 x2)) (fun r2 => ?_)
      show fu_J _ _ (fc_X d (some .int) k_X1_weightOf 26 [.ref P0, .int x1, .int x2, .int x3, .int x4, .int x5] [.int (fu_b r2), .int x4] s)
      refine fu_bind (V := fun j3 : Int32 => fc_X d (some .int) k_X1_weightOf 39 [.ref P0, .int x1, .int x2, .int x3, am_U, .int x5] [.int j3, .int x4] s) ?_ (fun j3 => ?_)
      · refine fu_ite (fun h4 => fu_step (fu_ib_eq_t rfl h4) ?_) (fun h4 => fu_step (fu_ib_eq_f rfl h4) ?_)
        · refine fu_go 2 (pc' := 32) (ls' := [.ref P0, .int x1, .int x2, .int x3, .int x4, .int x5]) (st' := [.int x5, .ref P0, .int x4]) (s' := s) rfl ?_
          refine fu_bind (fu_cVJ rfl rfl rfl rfl rfl (fu_recv hP0.1 am_at_X4_weightOfKind rfl) (e_X4_weightOfKind d (by omega) s P0 hP0 x5)) (fun r5 => ?_)
          show fu_J _ _ (fc_X d (some .int) k_X1_weightOf 35 [.ref P0, .int x1, .int x2, .int x3, .int x4, .int x5] [.int r5, .int x4] s)
          refine fu_go 1 (pc' := 39) (ls' := [.ref P0, .int x1, .int x2, .int x3, .int x4, .int x5]) (st' := [.int r5, .int x4]) (s' := s) rfl ?_
          exact fu_leaf rfl ⟨.inr rfl, .inr rfl, .inr rfl, .inr rfl, .inl rfl, .inr rfl, trivial⟩
        · refine fu_go 1 (pc' := 39) (ls' := [.ref P0, .int x1, .int x2, .int x3, .int x4, .int x5]) (st' := [.int (0 : Int32), .int x4]) (s' := s) rfl ?_
          exact fu_leaf rfl ⟨.inr rfl, .inr rfl, .inr rfl, .inr rfl, .inl rfl, .inr rfl, trivial⟩
      show fu_J _ _ (fc_X d (some .int) k_X1_weightOf 39 [.ref P0, .int x1, .int x2, .int x3, am_U, .int x5] [.int j3, .int x4] s)
      refine fu_go 4 (pc' := 6) (ls' := [.ref P0, .int x1, .int x2, .int x3, .int (x4 + j3), .int (x5 + (1 : Int32))]) (st' := []) (s' := s) rfl ?_
      exact fu_drop (ls' := [.ref P0, .int x1, .int x2, .int x3, .int (x4 + j3), .int (x5 + (1 : Int32))]) ⟨.inr rfl, .inr rfl, .inr rfl, .inr rfl, .inr rfl, .inr rfl, trivial⟩ (ih s P0 hP0 x1 x2 x3 (x4 + j3) (x5 + (1 : Int32)))
    · exact fu_leaf rfl ⟨.inl rfl, .inl rfl, .inl rfl, .inl rfl, .inr rfl, .inl rfl, trivial⟩
set_option maxRecDepth 100000 in
theorem e_X1_weightOf (d : Nat) (hd : 4 ≤ d) (s : fu_S) (P0 : Nat) (hP0 : fc_is3 P0) (a1 : Int32) (a2 : Int32) (a3 : Int32) : fu_J (f_X1_weightOf s P0 a1 a2 a3) (fun r => some (some (.int r), s)) (am_D (fu_ho fc_sh) am_m d 15 [.ref P0, .int a1, .int a2, .int a3] s) := by
  obtain ⟨d, rfl⟩ : ∃ e, d = e + 1 := ⟨d - 1, by omega⟩
  refine fu_enter (ls := [.ref P0, .int a1, .int a2, .int a3, am_U, am_U]) am_at_X1_weightOf rfl rfl ?_
  show fu_J _ _ (fc_X d (some .int) k_X1_weightOf 0 [.ref P0, .int a1, .int a2, .int a3, am_U, am_U] [] s)
  unfold f_X1_weightOf
  refine fu_go 4 (pc' := 6) (ls' := [.ref P0, .int a1, .int a2, .int a3, .int (0 : Int32), .int (0 : Int32)]) (st' := []) (s' := s) rfl ?_
  refine fu_drop (ls' := [.ref P0, .int a1, .int a2, .int a3, .int (0 : Int32), .int (0 : Int32)]) ⟨.inr rfl, .inr rfl, .inr rfl, .inr rfl, .inr rfl, .inr rfl, trivial⟩ ?_
  refine fu_bind (el_X1_weightOf_6 d (by omega) fu_N s P0 hP0 a1 a2 a3 (0 : Int32) (0 : Int32)) (fun r6 => ?_)
  show fu_J _ _ (fc_X d (some .int) k_X1_weightOf 48 [am_U, am_U, am_U, am_U, .int r6, am_U] [] s)
  refine fu_go 1 (pc' := 50) (ls' := [am_U, am_U, am_U, am_U, .int r6, am_U]) (st' := [.int r6]) (s' := s) rfl ?_
  exact fu_iret rfl rfl
/-! X1_spotSet -/
theorem el_X1_spotSet_5 (d : Nat) (hd : 2 ≤ d) : ∀ (n : Nat) (s : fu_S) (P0 : Nat) (hP0 : fc_is3 P0) (x1 : Int32) (x2 : Int32) (x3 : Int32) (x4 : Int32), fu_J (l_X1_spotSet_5 n s P0 x1 x2 x3 x4) (fun r => fc_X d (some .int) k_X1_spotSet 47 [am_U, am_U, am_U, .int r, am_U] [] s) (fc_X d (some .int) k_X1_spotSet 5 [.ref P0, .int x1, .int x2, .int x3, .int x4] [] s) := by
  intro n
  induction n with
  | zero => intros; exact fu_none
  | succ n ih =>
    intro s P0 hP0 x1 x2 x3 x4
    rw [l_X1_spotSet_5]
    refine fu_go 2 (pc' := 8) (ls' := [.ref P0, .int x1, .int x2, .int x3, .int x4]) (st' := [.ref P0, .int x4]) (s' := s) rfl ?_
    refine fu_step (fu_cV rfl rfl rfl rfl rfl (fu_recv hP0.1 am_at_X4_kinds rfl) (fu_eq (e_X4_kinds d (by omega) s P0 hP0) rfl)) ?_
    show fu_J _ _ (fc_X d (some .int) k_X1_spotSet 11 [.ref P0, .int x1, .int x2, .int x3, .int x4] [.int (f_X4_kinds s P0), .int x4] s)
    refine fu_ite (fun h1 => fu_step (fu_ic_ge_t rfl h1) ?_) (fun h1 => fu_step (fu_ic_ge_f rfl h1) ?_)
    · refine fu_go 4 (pc' := 19) (ls' := [.ref P0, .int x1, .int x2, .int x3, .int x4]) (st' := [.int x4, .int x1, .ref P0, .int x3]) (s' := s) rfl ?_
      refine fu_bind (fu_cVJ rfl rfl rfl rfl rfl (fu_recv hP0.1 am_at_X4_bearerBy rfl) (e_X4_bearerBy d (by omega) s P0 hP0 x1 x4)) (fun r2 => ?_)
      show fu_J _ _ (fc_X d (some .int) k_X1_spotSet 22 [.ref P0, .int x1, .int x2, .int x3, .int x4] [.int r2, .int x3] s)
      refine fu_go 1 (pc' := 23) (ls' := [.ref P0, .int x1, .int x2, .int x3, .int x4]) (st' := [.int x2, .int r2, .int x3]) (s' := s) rfl ?_
      refine fu_bind (V := fun j3 : Int32 => fc_X d (some .int) k_X1_spotSet 39 [.ref P0, .int x1, .int x2, am_U, .int x4] [.int j3, .int x3] s) ?_ (fun j3 => ?_)
      · refine fu_ite (fun h4 => fu_step (fu_ic_ne_t rfl h4) ?_) (fun h4 => fu_step (fu_ic_ne_f rfl h4) ?_)
        · refine fu_go 4 (pc' := 31) (ls' := [.ref P0, .int x1, .int x2, .int x3, .int x4]) (st' := [.int x4, .int x1, .ref P0, .int (1 : Int32), .int x3]) (s' := s) rfl ?_
          refine fu_bind (fu_cVJ rfl rfl rfl rfl rfl (fu_recv hP0.1 am_at_X4_spotBy rfl) (e_X4_spotBy d (by omega) s P0 hP0 x1 x4)) (fun r5 => ?_)
          show fu_J _ _ (fc_X d (some .int) k_X1_spotSet 34 [.ref P0, .int x1, .int x2, .int x3, .int x4] [.int r5, .int (1 : Int32), .int x3] s)
          refine fu_go 2 (pc' := 39) (ls' := [.ref P0, .int x1, .int x2, .int x3, .int x4]) (st' := [.int ((1 : Int32) <<< (r5 &&& 31)), .int x3]) (s' := s) rfl ?_
          exact fu_leaf rfl ⟨.inr rfl, .inr rfl, .inr rfl, .inl rfl, .inr rfl, trivial⟩
        · refine fu_go 1 (pc' := 39) (ls' := [.ref P0, .int x1, .int x2, .int x3, .int x4]) (st' := [.int (0 : Int32), .int x3]) (s' := s) rfl ?_
          exact fu_leaf rfl ⟨.inr rfl, .inr rfl, .inr rfl, .inl rfl, .inr rfl, trivial⟩
      show fu_J _ _ (fc_X d (some .int) k_X1_spotSet 39 [.ref P0, .int x1, .int x2, am_U, .int x4] [.int j3, .int x3] s)
      refine fu_go 4 (pc' := 5) (ls' := [.ref P0, .int x1, .int x2, .int (x3 ||| j3), .int (x4 + (1 : Int32))]) (st' := []) (s' := s) rfl ?_
      exact fu_drop (ls' := [.ref P0, .int x1, .int x2, .int (x3 ||| j3), .int (x4 + (1 : Int32))]) ⟨.inr rfl, .inr rfl, .inr rfl, .inr rfl, .inr rfl, trivial⟩ (ih s P0 hP0 x1 x2 (x3 ||| j3) (x4 + (1 : Int32)))
    · exact fu_leaf rfl ⟨.inl rfl, .inl rfl, .inl rfl, .inr rfl, .inl rfl, trivial⟩
set_option maxRecDepth 100000 in
theorem e_X1_spotSet (d : Nat) (hd : 3 ≤ d) (s : fu_S) (P0 : Nat) (hP0 : fc_is3 P0) (a1 : Int32) (a2 : Int32) : fu_J (f_X1_spotSet s P0 a1 a2) (fun r => some (some (.int r), s)) (am_D (fu_ho fc_sh) am_m d 16 [.ref P0, .int a1, .int a2] s) := by
  obtain ⟨d, rfl⟩ : ∃ e, d = e + 1 := ⟨d - 1, by omega⟩
  refine fu_enter (ls := [.ref P0, .int a1, .int a2, am_U, am_U]) am_at_X1_spotSet rfl rfl ?_
  show fu_J _ _ (fc_X d (some .int) k_X1_spotSet 0 [.ref P0, .int a1, .int a2, am_U, am_U] [] s)
  unfold f_X1_spotSet
  refine fu_go 4 (pc' := 5) (ls' := [.ref P0, .int a1, .int a2, .int (0 : Int32), .int (0 : Int32)]) (st' := []) (s' := s) rfl ?_
  refine fu_drop (ls' := [.ref P0, .int a1, .int a2, .int (0 : Int32), .int (0 : Int32)]) ⟨.inr rfl, .inr rfl, .inr rfl, .inr rfl, .inr rfl, trivial⟩ ?_
  refine fu_bind (el_X1_spotSet_5 d (by omega) fu_N s P0 hP0 a1 a2 (0 : Int32) (0 : Int32)) (fun r6 => ?_)
  show fu_J _ _ (fc_X d (some .int) k_X1_spotSet 47 [am_U, am_U, am_U, .int r6, am_U] [] s)
  refine fu_go 1 (pc' := 48) (ls' := [am_U, am_U, am_U, .int r6, am_U]) (st' := [.int r6]) (s' := s) rfl ?_
  exact fu_iret rfl rfl
