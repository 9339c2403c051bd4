/-! printed by wip/whole/lift/lift.py: the small machine comes to what the functions answer -/
/-! X12_empties -/
theorem el_X12_empties_2 (d : Nat) (hd : 0 ≤ d) : ∀ (n : Nat) (s : fu_S) (x1 : Int32) (x2 : Int32), fu_J (l_X12_empties_2 n s x1 x2) (fun r => fr_X d none k_X12_empties 28 [.ref 117, .int x1, am_U] [] r) (fr_X d none k_X12_empties 2 [.ref 117, .int x1, .int x2] [] s) := by
  intro n
  induction n with
  | zero => intros; exact fu_none
  | succ n ih =>
    intro s x1 x2
    rw [l_X12_empties_2]
    refine fu_go 2 (pc' := 6) (ls' := [.ref 117, .int x1, .int x2]) (st' := [.int (355 : Int32), .int x2]) (s' := s) rfl ?_
    refine fu_ite (fun h1 => fu_step (fu_ic_ge_t rfl h1) ?_) (fun h1 => fu_step (fu_ic_ge_f rfl h1) ?_)
    · refine fu_go 1 (pc' := 10) (ls' := [.ref 117, .int x1, .int x2]) (st' := [.ref 117]) (s' := s) rfl ?_
      refine fu_step (fu_getR rfl fr_117 rfl rfl) ?_
      refine fu_go 6 (pc' := 21) (ls' := [.ref 117, .int x1, .int x2]) (st' := [.int (0 : Int32), .int (((355 : Int32) * x1) + x2), .ref 122]) (s' := s) rfl ?_
      refine fu_guard (fun h3 => fu_lets (b := (fu_pi s 122 (Int32.toNatClampNeg (((355 : Int32) * x1) + x2)) (0 : Int32))) (fu_stI rfl fr_122 h3) (fun s2 => ?_))
      refine fu_go 2 (pc' := 2) (ls' := [.ref 117, .int x1, .int (x2 + (1 : Int32))]) (st' := []) (s' := s2) rfl ?_
      exact fu_drop (ls' := [.ref 117, .int x1, .int (x2 + (1 : Int32))]) ⟨.inr rfl, .inr rfl, .inr rfl, trivial⟩ (ih s2 x1 (x2 + (1 : Int32)))
    · exact fu_leaf rfl ⟨.inr rfl, .inr rfl, .inl rfl, trivial⟩
set_option maxRecDepth 100000 in
theorem e_X12_empties (d : Nat) (hd : 1 ≤ d) (s : fu_S) (a1 : Int32) : fu_J (f_X12_empties s a1) (fun r => some (none, r)) (am_D (fu_ho fr_sh) am_m d 287 [.ref 117, .int a1] s) := by
  obtain ⟨d, rfl⟩ : ∃ e, d = e + 1 := ⟨d - 1, by omega⟩
  refine fu_enter (ls := [.ref 117, .int a1, am_U]) am_at_X12_empties rfl rfl ?_
  show fu_J _ _ (fr_X d none k_X12_empties 0 [.ref 117, .int a1, am_U] [] s)
  unfold f_X12_empties
  refine fu_go 2 (pc' := 2) (ls' := [.ref 117, .int a1, .int (0 : Int32)]) (st' := []) (s' := s) rfl ?_
  refine fu_drop (ls' := [.ref 117, .int a1, .int (0 : Int32)]) ⟨.inr rfl, .inr rfl, .inr rfl, trivial⟩ ?_
  refine fu_bind (el_X12_empties_2 d (by omega) fu_N s a1 (0 : Int32)) (fun r4 => ?_)
  show fu_J _ _ (fr_X d none k_X12_empties 28 [.ref 117, .int a1, am_U] [] r4)
  refine fu_go 1 (pc' := 29) (ls' := [.ref 117, .int a1, am_U]) (st' := [.ref 117]) (s' := r4) rfl ?_
  refine fu_step (fu_getR rfl fr_117 rfl rfl) ?_
  refine fu_go 6 (pc' := 40) (ls' := [.ref 117, .int a1, am_U]) (st' := [.int (4 : Int32), .int (((355 : Int32) * a1) + (3 : Int32)), .ref 122]) (s' := r4) rfl ?_
  refine fu_guard (fun h6 => fu_lets (b := (fu_pi r4 122 (Int32.toNatClampNeg (((355 : Int32) * a1) + (3 : Int32))) (4 : Int32))) (fu_stI rfl fr_122 h6) (fun s5 => ?_))
  refine fu_go 1 (pc' := 42) (ls' := [.ref 117, .int a1, am_U]) (st' := [.ref 117]) (s' := s5) rfl ?_
  refine fu_step (fu_getR rfl fr_117 rfl rfl) ?_
  refine fu_go 6 (pc' := 53) (ls' := [.ref 117, .int a1, am_U]) (st' := [.int (5 : Int32), .int (((355 : Int32) * a1) + (4 : Int32)), .ref 122]) (s' := s5) rfl ?_
  refine fu_guard (fun h8 => fu_lets (b := (fu_pi s5 122 (Int32.toNatClampNeg (((355 : Int32) * a1) + (4 : Int32))) (5 : Int32))) (fu_stI rfl fr_122 h8) (fun s7 => ?_))
  exact fu_vret rfl rfl
/-! X12_status -/
set_option maxRecDepth 100000 in
theorem e_X12_status (d : Nat) (hd : 1 ≤ d) (s : fu_S) : fu_J (some (f_X12_status s)) (fun r => some (some (.int r.1), r.2)) (am_D (fu_ho fr_sh) am_m d 234 [.ref 117] s) := by
  obtain ⟨d, rfl⟩ : ∃ e, d = e + 1 := ⟨d - 1, by omega⟩
  refine fu_enter (ls := [.ref 117]) am_at_X12_status rfl rfl ?_
  show fu_J _ _ (fr_X d (some .int) k_X12_status 0 [.ref 117] [] s)
  unfold f_X12_status
  refine fu_go 2 (pc' := 2) (ls' := [.ref 117]) (st' := [.int (0 : Int32), .ref 117]) (s' := s) rfl ?_
  refine fu_letsS (b := (fu_pi s 117 1 (0 : Int32))) (fu_putI rfl fr_117 rfl rfl) (fun s1 => ?_)
  refine fu_go 1 (pc' := 6) (ls' := [.ref 117]) (st' := [.ref 117]) (s' := s1) rfl ?_
  refine fu_step (fu_getI rfl fr_117 rfl rfl) ?_
  exact fu_iret rfl rfl
/-! X12_top -/
set_option maxRecDepth 100000 in
theorem e_X12_top (d : Nat) (hd : 1 ≤ d) (s : fu_S) : fu_J (some (f_X12_top s)) (fun r => some (some (.long r.1), r.2)) (am_D (fu_ho fr_sh) am_m d 235 [.ref 117] s) := by
  obtain ⟨d, rfl⟩ : ∃ e, d = e + 1 := ⟨d - 1, by omega⟩
  refine fu_enter (ls := [.ref 117]) am_at_X12_top rfl rfl ?_
  show fu_J _ _ (fr_X d (some .long) k_X12_top 0 [.ref 117] [] s)
  unfold f_X12_top
  refine fu_go 2 (pc' := 2) (ls' := [.ref 117]) (st' := [.int (0 : Int32), .ref 117]) (s' := s) rfl ?_
  refine fu_letsS (b := (fu_pi s 117 1 (0 : Int32))) (fu_putI rfl fr_117 rfl rfl) (fun s1 => ?_)
  refine fu_go 1 (pc' := 6) (ls' := [.ref 117]) (st' := [.ref 117]) (s' := s1) rfl ?_
  refine fu_step (fu_getL rfl fr_117 rfl rfl) ?_
  exact fu_lret rfl rfl
/-! X12_bottom -/
set_option maxRecDepth 100000 in
theorem e_X12_bottom (d : Nat) (hd : 1 ≤ d) (s : fu_S) : fu_J (some (f_X12_bottom s)) (fun r => some (some (.long r.1), r.2)) (am_D (fu_ho fr_sh) am_m d 236 [.ref 117] s) := by
  obtain ⟨d, rfl⟩ : ∃ e, d = e + 1 := ⟨d - 1, by omega⟩
  refine fu_enter (ls := [.ref 117]) am_at_X12_bottom rfl rfl ?_
  show fu_J _ _ (fr_X d (some .long) k_X12_bottom 0 [.ref 117] [] s)
  unfold f_X12_bottom
  refine fu_go 2 (pc' := 2) (ls' := [.ref 117]) (st' := [.int (0 : Int32), .ref 117]) (s' := s) rfl ?_
  refine fu_letsS (b := (fu_pi s 117 1 (0 : Int32))) (fu_putI rfl fr_117 rfl rfl) (fun s1 => ?_)
  refine fu_go 1 (pc' := 6) (ls' := [.ref 117]) (st' := [.ref 117]) (s' := s1) rfl ?_
  refine fu_step (fu_getL rfl fr_117 rfl rfl) ?_
  exact fu_lret rfl rfl
/-! X12_refuse -/
set_option maxRecDepth 100000 in
theorem e_X12_refuse (d : Nat) (hd : 1 ≤ d) (s : fu_S) (a1 : Int32) : fu_J (some (f_X12_refuse s a1)) (fun r => some (some (.int r.1), r.2)) (am_D (fu_ho fr_sh) am_m d 237 [.ref 117, .int a1] s) := by
  obtain ⟨d, rfl⟩ : ∃ e, d = e + 1 := ⟨d - 1, by omega⟩
  refine fu_enter (ls := [.ref 117, .int a1]) am_at_X12_refuse rfl rfl ?_
  show fu_J _ _ (fr_X d (some .int) k_X12_refuse 0 [.ref 117, .int a1] [] s)
  unfold f_X12_refuse
  refine fu_go 2 (pc' := 2) (ls' := [.ref 117, .int a1]) (st' := [.int a1, .ref 117]) (s' := s) rfl ?_
  refine fu_letsS (b := (fu_pi s 117 0 a1)) (fu_putI rfl fr_117 rfl rfl) (fun s1 => ?_)
  refine fu_go 1 (pc' := 6) (ls' := [.ref 117, .int a1]) (st' := [.int (-1 : Int32)]) (s' := s1) rfl ?_
  exact fu_iret rfl rfl
/-! X12_no -/
set_option maxRecDepth 100000 in
theorem e_X12_no (d : Nat) (hd : 1 ≤ d) (s : fu_S) (a1 : Int32) : fu_J (some (f_X12_no s a1)) (fun r => some (some (.int (fu_b r.1)), r.2)) (am_D (fu_ho fr_sh) am_m d 238 [.ref 117, .int a1] s) := by
  obtain ⟨d, rfl⟩ : ∃ e, d = e + 1 := ⟨d - 1, by omega⟩
  refine fu_enter (ls := [.ref 117, .int a1]) am_at_X12_no rfl rfl ?_
  show fu_J _ _ (fr_X d (some .boolean) k_X12_no 0 [.ref 117, .int a1] [] s)
  unfold f_X12_no
  refine fu_go 2 (pc' := 2) (ls' := [.ref 117, .int a1]) (st' := [.int a1, .ref 117]) (s' := s) rfl ?_
  refine fu_letsS (b := (fu_pi s 117 0 a1)) (fu_putI rfl fr_117 rfl rfl) (fun s1 => ?_)
  refine fu_go 1 (pc' := 6) (ls' := [.ref 117, .int a1]) (st' := [.int (0 : Int32)]) (s' := s1) rfl ?_
  exact fu_bret (b := false) rfl rfl
/-! X12_isIn -/
set_option maxRecDepth 100000 in
theorem e_X12_isIn (d : Nat) (hd : 1 ≤ d) (s : fu_S) (a0 : Int64) (a1 : Int64) (a2 : Int64) : fu_J (some (f_X12_isIn a0 a1 a2)) (fun r => some (some (.int (fu_b r)), s)) (am_D (fu_ho fr_sh) am_m d 239 [.long a0, .long a1, .long a2] s) := by
  obtain ⟨d, rfl⟩ : ∃ e, d = e + 1 := ⟨d - 1, by omega⟩
  refine fu_enter (ls := [.long a0, am_U, .long a1, am_U, .long a2, am_U]) am_at_X12_isIn rfl rfl ?_
  show fu_J _ _ (fr_X d (some .boolean) k_X12_isIn 0 [.long a0, am_U, .long a1, am_U, .long a2, am_U] [] s)
  unfold f_X12_isIn
  refine fu_go 2 (pc' := 2) (ls' := [.long a0, am_U, .long a1, am_U, .long a2, am_U]) (st' := [.long a1, .long a0]) (s' := s) rfl ?_
  refine fu_letS (V := fun j1 : Bool => fr_X d (some .boolean) k_X12_isIn 18 [am_U, am_U, am_U, am_U, am_U, am_U] [.int (fu_b j1)] s) ?_ (fun j1 => ?_)
  · refine fu_iteS (fun h2 => fu_step (fu_lc_lt_t rfl rfl h2) ?_) (fun h2 => fu_step (fu_lc_lt_f rfl rfl h2) ?_)
    · refine fu_go 1 (pc' := 18) (ls' := [.long a0, am_U, .long a1, am_U, .long a2, am_U]) (st' := [.int (0 : Int32)]) (s' := s) rfl ?_
      exact fu_leaf rfl ⟨.inl rfl, .inl rfl, .inl rfl, .inl rfl, .inl rfl, .inl rfl, trivial⟩
    · refine fu_go 2 (pc' := 9) (ls' := [.long a0, am_U, .long a1, am_U, .long a2, am_U]) (st' := [.long a2, .long a0]) (s' := s) rfl ?_
      refine fu_iteS (fun h3 => fu_step (fu_lc_gt_t rfl rfl h3) ?_) (fun h3 => fu_step (fu_lc_gt_f rfl rfl h3) ?_)
      · refine fu_go 2 (pc' := 18) (ls' := [.long a0, am_U, .long a1, am_U, .long a2, am_U]) (st' := [.int (1 : Int32)]) (s' := s) rfl ?_
        exact fu_leaf rfl ⟨.inl rfl, .inl rfl, .inl rfl, .inl rfl, .inl rfl, .inl rfl, trivial⟩
      · refine fu_go 1 (pc' := 18) (ls' := [.long a0, am_U, .long a1, am_U, .long a2, am_U]) (st' := [.int (0 : Int32)]) (s' := s) rfl ?_
        exact fu_leaf rfl ⟨.inl rfl, .inl rfl, .inl rfl, .inl rfl, .inl rfl, .inl rfl, trivial⟩
  show fu_J _ _ (fr_X d (some .boolean) k_X12_isIn 18 [am_U, am_U, am_U, am_U, am_U, am_U] [.int (fu_b j1)] s)
  exact fu_bret (b := j1) rfl rfl
/-! X12_fraction -/
theorem el_X12_fraction_9 (d : Nat) (hd : 0 ≤ d) : ∀ (n : Nat) (s : fu_S) (x1 : Int64) (x3 : Int64) (x5 : Int64) (x7 : Int64), fu_J (l_X12_fraction_9 n s x1 x3 x5 x7) (fun r => fr_X d (some .boolean) k_X12_fraction 34 [.ref 117, .long x1, am_U, .long x3, am_U, .long r, am_U, am_U, am_U, am_U, am_U] [] s) (fr_X d (some .boolean) k_X12_fraction 9 [.ref 117, .long x1, am_U, .long x3, am_U, .long x5, am_U, .long x7, am_U, am_U, am_U] [] s) := by
  intro n
  induction n with
  | zero => intros; exact fu_none
  | succ n ih =>
    intro s x1 x3 x5 x7
    rw [l_X12_fraction_9]
    refine fu_go 2 (pc' := 12) (ls' := [.ref 117, .long x1, am_U, .long x3, am_U, .long x5, am_U, .long x7, am_U, am_U, am_U]) (st' := [.long (0 : Int64), .long x7]) (s' := s) rfl ?_
    refine fu_ite (fun h1 => fu_step (fu_lc_eq_t rfl rfl h1) ?_) (fun h1 => fu_step (fu_lc_eq_f rfl rfl h1) ?_)
    · exact fu_leaf rfl ⟨.inr rfl, .inr rfl, .inl rfl, .inr rfl, .inl rfl, .inr rfl, .inl rfl, .inl rfl, .inl rfl, .inl rfl, .inl rfl, trivial⟩
    · refine fu_go 2 (pc' := 20) (ls' := [.ref 117, .long x1, am_U, .long x3, am_U, .long x5, am_U, .long x7, am_U, am_U, am_U]) (st' := [.long x7, .long x5]) (s' := s) rfl ?_
      refine fu_ite (fun _ => fu_none) (fun h2 => fu_step (fu_lrem rfl h2) ?_)
      refine fu_go 6 (pc' := 9) (ls' := [.ref 117, .long x1, am_U, .long x3, am_U, .long x7, am_U, .long (x5 - x5 / x7 * x7), am_U, .long (x5 - x5 / x7 * x7), am_U]) (st' := []) (s' := s) rfl ?_
      exact fu_drop (ls' := [.ref 117, .long x1, am_U, .long x3, am_U, .long x7, am_U, .long (x5 - x5 / x7 * x7), am_U, am_U, am_U]) ⟨.inr rfl, .inr rfl, .inl rfl, .inr rfl, .inl rfl, .inr rfl, .inl rfl, .inr rfl, .inl rfl, .inl rfl, .inl rfl, trivial⟩ (ih s x1 x3 x7 (x5 - x5 / x7 * x7))
set_option maxRecDepth 100000 in
theorem e_X12_fraction (d : Nat) (hd : 1 ≤ d) (s : fu_S) (a1 : Int64) (a2 : Int64) : fu_J (f_X12_fraction s a1 a2) (fun r => some (some (.int (fu_b r.1)), r.2)) (am_D (fu_ho fr_sh) am_m d 240 [.ref 117, .long a1, .long a2] s) := by
  obtain ⟨d, rfl⟩ : ∃ e, d = e + 1 := ⟨d - 1, by omega⟩
  refine fu_enter (ls := [.ref 117, .long a1, am_U, .long a2, am_U, am_U, am_U, am_U, am_U, am_U, am_U]) am_at_X12_fraction rfl rfl ?_
  show fu_J _ _ (fr_X d (some .boolean) k_X12_fraction 0 [.ref 117, .long a1, am_U, .long a2, am_U, am_U, am_U, am_U, am_U, am_U, am_U] [] s)
  unfold f_X12_fraction
  refine fu_go 1 (pc' := 1) (ls' := [.ref 117, .long a1, am_U, .long a2, am_U, am_U, am_U, am_U, am_U, am_U, am_U]) (st' := [.long a1]) (s' := s) rfl ?_
  refine fu_step (fu_prim rfl rfl rfl rfl) ?_
  refine fu_go 3 (pc' := 9) (ls' := [.ref 117, .long a1, am_U, .long a2, am_U, .long (fu_abl a1), am_U, .long a2, am_U, am_U, am_U]) (st' := []) (s' := s) rfl ?_
  refine fu_drop (ls' := [.ref 117, .long a1, am_U, .long a2, am_U, .long (fu_abl a1), am_U, .long a2, am_U, am_U, am_U]) ⟨.inr rfl, .inr rfl, .inl rfl, .inr rfl, .inl rfl, .inr rfl, .inl rfl, .inr rfl, .inl rfl, .inl rfl, .inl rfl, trivial⟩ ?_
  refine fu_bind (el_X12_fraction_9 d (by omega) fu_N s a1 a2 (fu_abl a1) a2) (fun r3 => ?_)
  show fu_J _ _ (fr_X d (some .boolean) k_X12_fraction 34 [.ref 117, .long a1, am_U, .long a2, am_U, .long r3, am_U, am_U, am_U, am_U, am_U] [] s)
  refine fu_go 3 (pc' := 38) (ls' := [.ref 117, .long a1, am_U, .long a2, am_U, .long r3, am_U, am_U, am_U, am_U, am_U]) (st' := [.long r3, .long a1, .ref 117]) (s' := s) rfl ?_
  refine fu_ite (fun _ => fu_none) (fun h4 => fu_step (fu_ldiv rfl h4) ?_)
  refine fu_lets (b := (fu_pl s 117 2 (a1 / r3))) (fu_putL rfl fr_117 rfl rfl) (fun s5 => ?_)
  refine fu_go 3 (pc' := 46) (ls' := [.ref 117, .long a1, am_U, .long a2, am_U, .long r3, am_U, am_U, am_U, am_U, am_U]) (st' := [.long r3, .long a2, .ref 117]) (s' := s5) rfl ?_
  refine fu_ite (fun _ => fu_none) (fun h6 => fu_step (fu_ldiv rfl h6) ?_)
  refine fu_lets (b := (fu_pl s5 117 3 (a2 / r3))) (fu_putL rfl fr_117 rfl rfl) (fun s7 => ?_)
  refine fu_go 1 (pc' := 51) (ls' := [.ref 117, .long a1, am_U, .long a2, am_U, .long r3, am_U, am_U, am_U, am_U, am_U]) (st' := [.int (1 : Int32)]) (s' := s7) rfl ?_
  exact fu_bret (b := true) rfl rfl
/-! X12_cut -/
set_option maxRecDepth 100000 in
theorem e_X12_cut (d : Nat) (hd : 1 ≤ d) (s : fu_S) (a0 : Int32) (a1 : Int64) : fu_J (some (f_X12_cut a0 a1)) (fun r => some (some (.long r), s)) (am_D (fu_ho fr_sh) am_m d 241 [.int a0, .long a1] s) := by
  obtain ⟨d, rfl⟩ : ∃ e, d = e + 1 := ⟨d - 1, by omega⟩
  refine fu_enter (ls := [.int a0, .long a1, am_U]) am_at_X12_cut rfl rfl ?_
  show fu_J _ _ (fr_X d (some .long) k_X12_cut 0 [.int a0, .long a1, am_U] [] s)
  unfold f_X12_cut
  refine fu_go 1 (pc' := 1) (ls' := [.int a0, .long a1, am_U]) (st' := [.int a0]) (s' := s) rfl ?_
  refine fu_letS (V := fun j1 : Int64 => fr_X d (some .long) k_X12_cut 35 [am_U, am_U, am_U] [.long j1] s) ?_ (fun j1 => ?_)
  · refine fu_iteS (fun h2 => fu_step (fu_if_ne_t rfl h2) ?_) (fun h2 => fu_step (fu_if_ne_f rfl h2) ?_)
    · refine fu_go 5 (pc' := 35) (ls' := [.int a0, .long a1, am_U]) (st' := [.long (Int32.toInt64 (Int8.toInt32 (Int32.toInt8 (Int64.toInt32 a1))))]) (s' := s) rfl ?_
      exact fu_leaf rfl ⟨.inl rfl, .inl rfl, .inl rfl, trivial⟩
    · refine fu_go 2 (pc' := 13) (ls' := [.int a0, .long a1, am_U]) (st' := [.int (1 : Int32), .int a0]) (s' := s) rfl ?_
      refine fu_iteS (fun h3 => fu_step (fu_ic_ne_t rfl h3) ?_) (fun h3 => fu_step (fu_ic_ne_f rfl h3) ?_)
      · refine fu_go 5 (pc' := 35) (ls' := [.int a0, .long a1, am_U]) (st' := [.long (Int32.toInt64 (Int16.toInt32 (Int32.toInt16 (Int64.toInt32 a1))))]) (s' := s) rfl ?_
        exact fu_leaf rfl ⟨.inl rfl, .inl rfl, .inl rfl, trivial⟩
      · refine fu_go 2 (pc' := 25) (ls' := [.int a0, .long a1, am_U]) (st' := [.int (2 : Int32), .int a0]) (s' := s) rfl ?_
        refine fu_iteS (fun h4 => fu_step (fu_ic_ne_t rfl h4) ?_) (fun h4 => fu_step (fu_ic_ne_f rfl h4) ?_)
        · refine fu_go 4 (pc' := 35) (ls' := [.int a0, .long a1, am_U]) (st' := [.long (Int32.toInt64 (Int64.toInt32 a1))]) (s' := s) rfl ?_
          exact fu_leaf rfl ⟨.inl rfl, .inl rfl, .inl rfl, trivial⟩
        · refine fu_go 1 (pc' := 35) (ls' := [.int a0, .long a1, am_U]) (st' := [.long a1]) (s' := s) rfl ?_
          exact fu_leaf rfl ⟨.inl rfl, .inl rfl, .inl rfl, trivial⟩
  show fu_J _ _ (fr_X d (some .long) k_X12_cut 35 [am_U, am_U, am_U] [.long j1] s)
  exact fu_lret rfl rfl
/-! X12_tray -/
theorem el_X12_tray_74 (d : Nat) (hd : 0 ≤ d) : ∀ (n : Nat) (s : fu_S) (x1 : Int32) (x3 : Int32) (x4 : Int32), fu_J (l_X12_tray_74 n s x1 x3 x4) (fun r => fr_X d (some .boolean) k_X12_tray 99 [am_U, am_U, am_U, am_U, am_U] [] r) (fr_X d (some .boolean) k_X12_tray 74 [.ref 117, .int x1, am_U, .int x3, .int x4] [] s) := by
  intro n
  induction n with
  | zero => intros; exact fu_none
  | succ n ih =>
    intro s x1 x3 x4
    rw [l_X12_tray_74]
    refine fu_go 2 (pc' := 77) (ls' := [.ref 117, .int x1, am_U, .int x3, .int x4]) (st' := [.int x3, .int x4]) (s' := s) rfl ?_
    refine fu_ite (fun h16 => fu_step (fu_ic_ge_t rfl h16) ?_) (fun h16 => fu_step (fu_ic_ge_f rfl h16) ?_)
    · refine fu_go 1 (pc' := 81) (ls' := [.ref 117, .int x1, am_U, .int x3, .int x4]) (st' := [.ref 117]) (s' := s) rfl ?_
      refine fu_step (fu_getR rfl fr_117 rfl rfl) ?_
      refine fu_go 6 (pc' := 92) (ls' := [.ref 117, .int x1, am_U, .int x3, .int x4]) (st' := [.long (0 : Int64), .int (((60 : Int32) * x1) + x4), .ref 120]) (s' := s) rfl ?_
      refine fu_guard (fun h18 => fu_lets (b := (fu_pl s 120 (Int32.toNatClampNeg (((60 : Int32) * x1) + x4)) (0 : Int64))) (fu_stL rfl fr_120 h18) (fun s17 => ?_))
      refine fu_go 2 (pc' := 74) (ls' := [.ref 117, .int x1, am_U, .int x3, .int (x4 + (1 : Int32))]) (st' := []) (s' := s17) rfl ?_
      exact fu_drop (ls' := [.ref 117, .int x1, am_U, .int x3, .int (x4 + (1 : Int32))]) ⟨.inr rfl, .inr rfl, .inl rfl, .inr rfl, .inr rfl, trivial⟩ (ih s17 x1 x3 (x4 + (1 : Int32)))
    · exact fu_leaf rfl ⟨.inl rfl, .inl rfl, .inl rfl, .inl rfl, .inl rfl, trivial⟩
set_option maxRecDepth 100000 in
theorem e_X12_tray (d : Nat) (hd : 2 ≤ d) (s : fu_S) (a1 : Int32) (a2 : Int32) (a3 : Int32) : fu_J (f_X12_tray s a1 a2 a3) (fun r => some (some (.int (fu_b r.1)), r.2)) (am_D (fu_ho fr_sh) am_m d 242 [.ref 117, .int a1, .int a2, .int a3] s) := by
  obtain ⟨d, rfl⟩ : ∃ e, d = e + 1 := ⟨d - 1, by omega⟩
  refine fu_enter (ls := [.ref 117, .int a1, .int a2, .int a3, am_U]) am_at_X12_tray rfl rfl ?_
  show fu_J _ _ (fr_X d (some .boolean) k_X12_tray 0 [.ref 117, .int a1, .int a2, .int a3, am_U] [] s)
  unfold f_X12_tray
  refine fu_go 2 (pc' := 2) (ls' := [.ref 117, .int a1, .int a2, .int a3, am_U]) (st' := [.int (0 : Int32), .ref 117]) (s' := s) rfl ?_
  refine fu_lets (b := (fu_pi s 117 1 (0 : Int32))) (fu_putI rfl fr_117 rfl rfl) (fun s1 => ?_)
  refine fu_go 2 (pc' := 7) (ls' := [.ref 117, .int a1, .int a2, .int a3, am_U]) (st' := [.int (0 : Int32), .ref 117]) (s' := s1) rfl ?_
  refine fu_lets (b := (fu_pi s1 117 0 (0 : Int32))) (fu_putI rfl fr_117 rfl rfl) (fun s2 => ?_)
  refine fu_go 1 (pc' := 11) (ls' := [.ref 117, .int a1, .int a2, .int a3, am_U]) (st' := [.int a1]) (s' := s2) rfl ?_
  refine fu_ite (fun h3 => fu_step (fu_if_lt_t rfl h3) ?_) (fun h3 => fu_step (fu_if_lt_f rfl h3) ?_)
  · refine fu_go 2 (pc' := 30) (ls' := [.ref 117, .int a1, .int a2, .int a3, am_U]) (st' := [.int (1 : Int32), .ref 117]) (s' := s2) rfl ?_
    refine fu_let (fu_cVJ rfl rfl rfl rfl rfl (fu_recv fr_117 am_at_X12_no rfl) (e_X12_no d (by omega) s2 (1 : Int32))) (fun r4 => ?_)
    show fu_J _ _ (fr_X d (some .boolean) k_X12_tray 33 [.ref 117, .int a1, .int a2, .int a3, am_U] [.int (fu_b r4.1)] r4.2)
    exact fu_bret (b := r4.1) rfl rfl
  · refine fu_go 2 (pc' := 16) (ls' := [.ref 117, .int a1, .int a2, .int a3, am_U]) (st' := [.int (4 : Int32), .int a1]) (s' := s2) rfl ?_
    refine fu_ite (fun h5 => fu_step (fu_ic_ge_t rfl h5) ?_) (fun h5 => fu_step (fu_ic_ge_f rfl h5) ?_)
    · refine fu_go 1 (pc' := 20) (ls' := [.ref 117, .int a1, .int a2, .int a3, am_U]) (st' := [.int a2]) (s' := s2) rfl ?_
      refine fu_ite (fun h6 => fu_step (fu_if_lt_t rfl h6) ?_) (fun h6 => fu_step (fu_if_lt_f rfl h6) ?_)
      · refine fu_go 2 (pc' := 30) (ls' := [.ref 117, .int a1, .int a2, .int a3, am_U]) (st' := [.int (1 : Int32), .ref 117]) (s' := s2) rfl ?_
        refine fu_let (fu_cVJ rfl rfl rfl rfl rfl (fu_recv fr_117 am_at_X12_no rfl) (e_X12_no d (by omega) s2 (1 : Int32))) (fun r7 => ?_)
        show fu_J _ _ (fr_X d (some .boolean) k_X12_tray 33 [.ref 117, .int a1, .int a2, .int a3, am_U] [.int (fu_b r7.1)] r7.2)
        exact fu_bret (b := r7.1) rfl rfl
      · refine fu_go 2 (pc' := 25) (ls' := [.ref 117, .int a1, .int a2, .int a3, am_U]) (st' := [.int (3 : Int32), .int a2]) (s' := s2) rfl ?_
        refine fu_ite (fun h8 => fu_step (fu_ic_le_t rfl h8) ?_) (fun h8 => fu_step (fu_ic_le_f rfl h8) ?_)
        · refine fu_go 2 (pc' := 37) (ls' := [.ref 117, .int a1, .int a2, .int a3, am_U]) (st' := [.int (60 : Int32), .int a3]) (s' := s2) rfl ?_
          refine fu_ite (fun h9 => fu_step (fu_ic_le_t rfl h9) ?_) (fun h9 => fu_step (fu_ic_le_f rfl h9) ?_)
          · refine fu_go 1 (pc' := 47) (ls' := [.ref 117, .int a1, .int a2, .int a3, am_U]) (st' := [.int a3]) (s' := s2) rfl ?_
            refine fu_ite (fun h10 => fu_step (fu_if_ge_t rfl h10) ?_) (fun h10 => fu_step (fu_if_ge_f rfl h10) ?_)
            · refine fu_go 2 (pc' := 53) (ls' := [.ref 117, .int a1, .int a2, .int a3, am_U]) (st' := [.int (6 : Int32), .ref 117]) (s' := s2) rfl ?_
              refine fu_let (fu_cVJ rfl rfl rfl rfl rfl (fu_recv fr_117 am_at_X12_no rfl) (e_X12_no d (by omega) s2 (6 : Int32))) (fun r11 => ?_)
              show fu_J _ _ (fr_X d (some .boolean) k_X12_tray 56 [.ref 117, .int a1, .int a2, .int a3, am_U] [.int (fu_b r11.1)] r11.2)
              exact fu_bret (b := r11.1) rfl rfl
            · refine fu_go 1 (pc' := 58) (ls' := [.ref 117, .int a1, .int a2, .int a3, am_U]) (st' := [.ref 117]) (s' := s2) rfl ?_
              refine fu_step (fu_getR rfl fr_117 rfl rfl) ?_
              refine fu_go 2 (pc' := 63) (ls' := [.ref 117, .int a1, .int a2, .int a3, am_U]) (st' := [.int a2, .int a1, .ref 118]) (s' := s2) rfl ?_
              refine fu_guard (fun h13 => fu_lets (b := (fu_pi s2 118 (Int32.toNatClampNeg a1) a2)) (fu_stI rfl fr_118 h13) (fun s12 => ?_))
              refine fu_go 1 (pc' := 65) (ls' := [.ref 117, .int a1, .int a2, .int a3, am_U]) (st' := [.ref 117]) (s' := s12) rfl ?_
              refine fu_step (fu_getR rfl fr_117 rfl rfl) ?_
              refine fu_go 2 (pc' := 70) (ls' := [.ref 117, .int a1, .int a2, .int a3, am_U]) (st' := [.int a3, .int a1, .ref 119]) (s' := s12) rfl ?_
              refine fu_guard (fun h15 => fu_lets (b := (fu_pi s12 119 (Int32.toNatClampNeg a1) a3)) (fu_stI rfl fr_119 h15) (fun s14 => ?_))
              refine fu_go 2 (pc' := 74) (ls' := [.ref 117, .int a1, .int a2, .int a3, .int (0 : Int32)]) (st' := []) (s' := s14) rfl ?_
              refine fu_drop (ls' := [.ref 117, .int a1, am_U, .int a3, .int (0 : Int32)]) ⟨.inr rfl, .inr rfl, .inl rfl, .inr rfl, .inr rfl, trivial⟩ ?_
              refine fu_bind (el_X12_tray_74 d (by omega) fu_N s14 a1 a3 (0 : Int32)) (fun r19 => ?_)
              show fu_J _ _ (fr_X d (some .boolean) k_X12_tray 99 [am_U, am_U, am_U, am_U, am_U] [] r19)
              refine fu_go 1 (pc' := 100) (ls' := [am_U, am_U, am_U, am_U, am_U]) (st' := [.int (1 : Int32)]) (s' := r19) rfl ?_
              exact fu_bret (b := true) rfl rfl
          · refine fu_go 2 (pc' := 42) (ls' := [.ref 117, .int a1, .int a2, .int a3, am_U]) (st' := [.int (5 : Int32), .ref 117]) (s' := s2) rfl ?_
            refine fu_let (fu_cVJ rfl rfl rfl rfl rfl (fu_recv fr_117 am_at_X12_no rfl) (e_X12_no d (by omega) s2 (5 : Int32))) (fun r20 => ?_)
            show fu_J _ _ (fr_X d (some .boolean) k_X12_tray 45 [.ref 117, .int a1, .int a2, .int a3, am_U] [.int (fu_b r20.1)] r20.2)
            exact fu_bret (b := r20.1) rfl rfl
        · refine fu_go 2 (pc' := 30) (ls' := [.ref 117, .int a1, .int a2, .int a3, am_U]) (st' := [.int (1 : Int32), .ref 117]) (s' := s2) rfl ?_
          refine fu_let (fu_cVJ rfl rfl rfl rfl rfl (fu_recv fr_117 am_at_X12_no rfl) (e_X12_no d (by omega) s2 (1 : Int32))) (fun r21 => ?_)
          show fu_J _ _ (fr_X d (some .boolean) k_X12_tray 33 [.ref 117, .int a1, .int a2, .int a3, am_U] [.int (fu_b r21.1)] r21.2)
          exact fu_bret (b := r21.1) rfl rfl
    · refine fu_go 2 (pc' := 30) (ls' := [.ref 117, .int a1, .int a2, .int a3, am_U]) (st' := [.int (1 : Int32), .ref 117]) (s' := s2) rfl ?_
      refine fu_let (fu_cVJ rfl rfl rfl rfl rfl (fu_recv fr_117 am_at_X12_no rfl) (e_X12_no d (by omega) s2 (1 : Int32))) (fun r22 => ?_)
      show fu_J _ _ (fr_X d (some .boolean) k_X12_tray 33 [.ref 117, .int a1, .int a2, .int a3, am_U] [.int (fu_b r22.1)] r22.2)
      exact fu_bret (b := r22.1) rfl rfl
/-! X12_trayed -/
set_option maxRecDepth 100000 in
theorem e_X12_trayed (d : Nat) (hd : 1 ≤ d) (s : fu_S) (a1 : Int32) : fu_J (f_X12_trayed s a1) (fun r => some (some (.int r), s)) (am_D (fu_ho fr_sh) am_m d 243 [.ref 117, .int a1] s) := by
  obtain ⟨d, rfl⟩ : ∃ e, d = e + 1 := ⟨d - 1, by omega⟩
  refine fu_enter (ls := [.ref 117, .int a1]) am_at_X12_trayed rfl rfl ?_
  show fu_J _ _ (fr_X d (some .int) k_X12_trayed 0 [.ref 117, .int a1] [] s)
  unfold f_X12_trayed
  refine fu_go 1 (pc' := 1) (ls' := [.ref 117, .int a1]) (st' := [.int a1]) (s' := s) rfl ?_
  refine fu_bind (V := fun j1 : Int32 => fr_X d (some .int) k_X12_trayed 27 [am_U, am_U] [.int j1] s) ?_ (fun j1 => ?_)
  · refine fu_ite (fun h2 => fu_step (fu_if_lt_t rfl h2) ?_) (fun h2 => fu_step (fu_if_lt_f rfl h2) ?_)
    · refine fu_go 2 (pc' := 27) (ls' := [.ref 117, .int a1]) (st' := [.int (1 : Int32)]) (s' := s) rfl ?_
      exact fu_leaf rfl ⟨.inl rfl, .inl rfl, trivial⟩
    · refine fu_go 2 (pc' := 6) (ls' := [.ref 117, .int a1]) (st' := [.int (4 : Int32), .int a1]) (s' := s) rfl ?_
      refine fu_ite (fun h3 => fu_step (fu_ic_lt_t rfl h3) ?_) (fun h3 => fu_step (fu_ic_lt_f rfl h3) ?_)
      · refine fu_go 1 (pc' := 14) (ls' := [.ref 117, .int a1]) (st' := [.ref 117]) (s' := s) rfl ?_
        refine fu_step (fu_getR rfl fr_117 rfl rfl) ?_
        refine fu_go 1 (pc' := 18) (ls' := [.ref 117, .int a1]) (st' := [.int a1, .ref 119]) (s' := s) rfl ?_
        refine fu_guard (fun h4 => fu_step (fu_ldI rfl fr_119 h4) ?_)
        refine fu_ite (fun h5 => fu_step (fu_if_ge_t rfl h5) ?_) (fun h5 => fu_step (fu_if_ge_f rfl h5) ?_)
        · refine fu_go 2 (pc' := 27) (ls' := [.ref 117, .int a1]) (st' := [.int (3 : Int32)]) (s' := s) rfl ?_
          exact fu_leaf rfl ⟨.inl rfl, .inl rfl, trivial⟩
        · refine fu_go 1 (pc' := 27) (ls' := [.ref 117, .int a1]) (st' := [.int (0 : Int32)]) (s' := s) rfl ?_
          exact fu_leaf rfl ⟨.inl rfl, .inl rfl, trivial⟩
      · refine fu_go 2 (pc' := 27) (ls' := [.ref 117, .int a1]) (st' := [.int (1 : Int32)]) (s' := s) rfl ?_
        exact fu_leaf rfl ⟨.inl rfl, .inl rfl, trivial⟩
  show fu_J _ _ (fr_X d (some .int) k_X12_trayed 27 [am_U, am_U] [.int j1] s)
  exact fu_iret rfl rfl
/-! X12_placed -/
set_option maxRecDepth 100000 in
theorem e_X12_placed (d : Nat) (hd : 2 ≤ d) (s : fu_S) (a1 : Int32) (a2 : Int32) : fu_J (f_X12_placed s a1 a2) (fun r => some (some (.int r), s)) (am_D (fu_ho fr_sh) am_m d 244 [.ref 117, .int a1, .int a2] s) := by
  obtain ⟨d, rfl⟩ : ∃ e, d = e + 1 := ⟨d - 1, by omega⟩
  refine fu_enter (ls := [.ref 117, .int a1, .int a2, am_U]) am_at_X12_placed rfl rfl ?_
  show fu_J _ _ (fr_X d (some .int) k_X12_placed 0 [.ref 117, .int a1, .int a2, am_U] [] s)
  unfold f_X12_placed
  refine fu_go 2 (pc' := 2) (ls' := [.ref 117, .int a1, .int a2, am_U]) (st' := [.int a1, .ref 117]) (s' := s) rfl ?_
  refine fu_bind (fu_cVJ rfl rfl rfl rfl rfl (fu_recv fr_117 am_at_X12_trayed rfl) (e_X12_trayed d (by omega) s a1)) (fun r1 => ?_)
  show fu_J _ _ (fr_X d (some .int) k_X12_placed 5 [.ref 117, .int a1, .int a2, am_U] [.int r1] s)
  refine fu_go 2 (pc' := 7) (ls' := [.ref 117, .int a1, .int a2, .int r1]) (st' := [.int r1]) (s' := s) rfl ?_
  refine fu_bind (V := fun j2 : Int32 => fr_X d (some .int) k_X12_placed 33 [am_U, am_U, am_U, am_U] [.int j2] s) ?_ (fun j2 => ?_)
  · refine fu_ite (fun h3 => fu_step (fu_if_le_t rfl h3) ?_) (fun h3 => fu_step (fu_if_le_f rfl h3) ?_)
    · refine fu_go 1 (pc' := 15) (ls' := [.ref 117, .int a1, .int a2, .int r1]) (st' := [.int a2]) (s' := s) rfl ?_
      refine fu_ite (fun h4 => fu_step (fu_if_lt_t rfl h4) ?_) (fun h4 => fu_step (fu_if_lt_f rfl h4) ?_)
      · refine fu_go 2 (pc' := 33) (ls' := [.ref 117, .int a1, .int a2, .int r1]) (st' := [.int (4 : Int32)]) (s' := s) rfl ?_
        exact fu_leaf rfl ⟨.inl rfl, .inl rfl, .inl rfl, .inl rfl, trivial⟩
      · refine fu_go 2 (pc' := 20) (ls' := [.ref 117, .int a1, .int a2, .int r1]) (st' := [.ref 117, .int a2]) (s' := s) rfl ?_
        refine fu_step (fu_getR rfl fr_117 rfl rfl) ?_
        refine fu_go 1 (pc' := 24) (ls' := [.ref 117, .int a1, .int a2, .int r1]) (st' := [.int a1, .ref 119, .int a2]) (s' := s) rfl ?_
        refine fu_guard (fun h5 => fu_step (fu_ldI rfl fr_119 h5) ?_)
        refine fu_ite (fun h6 => fu_step (fu_ic_lt_t rfl h6) ?_) (fun h6 => fu_step (fu_ic_lt_f rfl h6) ?_)
        · refine fu_go 1 (pc' := 33) (ls' := [.ref 117, .int a1, .int a2, .int r1]) (st' := [.int (0 : Int32)]) (s' := s) rfl ?_
          exact fu_leaf rfl ⟨.inl rfl, .inl rfl, .inl rfl, .inl rfl, trivial⟩
        · refine fu_go 2 (pc' := 33) (ls' := [.ref 117, .int a1, .int a2, .int r1]) (st' := [.int (4 : Int32)]) (s' := s) rfl ?_
          exact fu_leaf rfl ⟨.inl rfl, .inl rfl, .inl rfl, .inl rfl, trivial⟩
    · refine fu_go 2 (pc' := 33) (ls' := [.ref 117, .int a1, .int a2, .int r1]) (st' := [.int r1]) (s' := s) rfl ?_
      exact fu_leaf rfl ⟨.inl rfl, .inl rfl, .inl rfl, .inl rfl, trivial⟩
  show fu_J _ _ (fr_X d (some .int) k_X12_placed 33 [am_U, am_U, am_U, am_U] [.int j2] s)
  exact fu_iret rfl rfl
/-! X12_write -/
set_option maxRecDepth 100000 in
theorem e_X12_write (d : Nat) (hd : 3 ≤ d) (s : fu_S) (a1 : Int32) (a2 : Int32) (a3 : Int64) : fu_J (f_X12_write s a1 a2 a3) (fun r => some (some (.int (fu_b r.1)), r.2)) (am_D (fu_ho fr_sh) am_m d 245 [.ref 117, .int a1, .int a2, .long a3] s) := by
  obtain ⟨d, rfl⟩ : ∃ e, d = e + 1 := ⟨d - 1, by omega⟩
  refine fu_enter (ls := [.ref 117, .int a1, .int a2, .long a3, am_U]) am_at_X12_write rfl rfl ?_
  show fu_J _ _ (fr_X d (some .boolean) k_X12_write 0 [.ref 117, .int a1, .int a2, .long a3, am_U] [] s)
  unfold f_X12_write
  refine fu_go 2 (pc' := 2) (ls' := [.ref 117, .int a1, .int a2, .long a3, am_U]) (st' := [.int (0 : Int32), .ref 117]) (s' := s) rfl ?_
  refine fu_lets (b := (fu_pi s 117 1 (0 : Int32))) (fu_putI rfl fr_117 rfl rfl) (fun s1 => ?_)
  refine fu_go 4 (pc' := 9) (ls' := [.ref 117, .int a1, .int a2, .long a3, am_U]) (st' := [.int a2, .int a1, .ref 117, .ref 117]) (s' := s1) rfl ?_
  refine fu_bind (fu_cVJ rfl rfl rfl rfl rfl (fu_recv fr_117 am_at_X12_placed rfl) (e_X12_placed d (by omega) s1 a1 a2)) (fun r2 => ?_)
  show fu_J _ _ (fr_X d (some .boolean) k_X12_write 12 [.ref 117, .int a1, .int a2, .long a3, am_U] [.int r2, .ref 117] s1)
  refine fu_lets (b := (fu_pi s1 117 0 r2)) (fu_putI rfl fr_117 rfl rfl) (fun s3 => ?_)
  refine fu_go 1 (pc' := 16) (ls' := [.ref 117, .int a1, .int a2, .long a3, am_U]) (st' := [.ref 117]) (s' := s3) rfl ?_
  refine fu_step (fu_getI rfl fr_117 rfl rfl) ?_
  refine fu_ite (fun h4 => fu_step (fu_if_le_t rfl h4) ?_) (fun h4 => fu_step (fu_if_le_f rfl h4) ?_)
  · refine fu_go 1 (pc' := 25) (ls' := [.ref 117, .int a1, .int a2, .long a3, am_U]) (st' := [.ref 117]) (s' := s3) rfl ?_
    refine fu_step (fu_getR rfl fr_117 rfl rfl) ?_
    refine fu_go 6 (pc' := 35) (ls' := [.ref 117, .int a1, .int a2, .long a3, am_U]) (st' := [.ref 117, .int (((60 : Int32) * a1) + a2), .ref 120]) (s' := s3) rfl ?_
    refine fu_step (fu_getR rfl fr_117 rfl rfl) ?_
    refine fu_go 1 (pc' := 39) (ls' := [.ref 117, .int a1, .int a2, .long a3, am_U]) (st' := [.int a1, .ref 118, .int (((60 : Int32) * a1) + a2), .ref 120]) (s' := s3) rfl ?_
    refine fu_guard (fun h5 => fu_step (fu_ldI rfl fr_118 h5) ?_)
    refine fu_go 1 (pc' := 41) (ls' := [.ref 117, .int a1, .int a2, .long a3, am_U]) (st' := [.long a3, .int (s3.1 118 (Int32.toNatClampNeg a1)), .int (((60 : Int32) * a1) + a2), .ref 120]) (s' := s3) rfl ?_
    refine fu_step (fu_cS rfl rfl rfl rfl rfl rfl (fu_eq (e_X12_cut d (by omega) s3 (s3.1 118 (Int32.toNatClampNeg a1)) a3) rfl)) ?_
    show fu_J _ _ (fr_X d (some .boolean) k_X12_write 44 [.ref 117, .int a1, .int a2, .long a3, am_U] [.long (f_X12_cut (s3.1 118 (Int32.toNatClampNeg a1)) a3), .int (((60 : Int32) * a1) + a2), .ref 120] s3)
    refine fu_guard (fun h7 => fu_lets (b := (fu_pl s3 120 (Int32.toNatClampNeg (((60 : Int32) * a1) + a2)) (f_X12_cut (s3.1 118 (Int32.toNatClampNeg a1)) a3))) (fu_stL rfl fr_120 h7) (fun s6 => ?_))
    refine fu_go 1 (pc' := 46) (ls' := [.ref 117, .int a1, .int a2, .long a3, am_U]) (st' := [.int (1 : Int32)]) (s' := s6) rfl ?_
    exact fu_bret (b := true) rfl rfl
  · refine fu_go 1 (pc' := 23) (ls' := [.ref 117, .int a1, .int a2, .long a3, am_U]) (st' := [.int (0 : Int32)]) (s' := s3) rfl ?_
    exact fu_bret (b := false) rfl rfl
/-! X12_read -/
set_option maxRecDepth 100000 in
theorem e_X12_read (d : Nat) (hd : 3 ≤ d) (s : fu_S) (a1 : Int32) (a2 : Int32) : fu_J (f_X12_read s a1 a2) (fun r => some (some (.long r.1), r.2)) (am_D (fu_ho fr_sh) am_m d 246 [.ref 117, .int a1, .int a2] s) := by
  obtain ⟨d, rfl⟩ : ∃ e, d = e + 1 := ⟨d - 1, by omega⟩
  refine fu_enter (ls := [.ref 117, .int a1, .int a2]) am_at_X12_read rfl rfl ?_
  show fu_J _ _ (fr_X d (some .long) k_X12_read 0 [.ref 117, .int a1, .int a2] [] s)
  unfold f_X12_read
  refine fu_go 2 (pc' := 2) (ls' := [.ref 117, .int a1, .int a2]) (st' := [.int (0 : Int32), .ref 117]) (s' := s) rfl ?_
  refine fu_lets (b := (fu_pi s 117 1 (0 : Int32))) (fu_putI rfl fr_117 rfl rfl) (fun s1 => ?_)
  refine fu_go 4 (pc' := 9) (ls' := [.ref 117, .int a1, .int a2]) (st' := [.int a2, .int a1, .ref 117, .ref 117]) (s' := s1) rfl ?_
  refine fu_bind (fu_cVJ rfl rfl rfl rfl rfl (fu_recv fr_117 am_at_X12_placed rfl) (e_X12_placed d (by omega) s1 a1 a2)) (fun r2 => ?_)
  show fu_J _ _ (fr_X d (some .long) k_X12_read 12 [.ref 117, .int a1, .int a2] [.int r2, .ref 117] s1)
  refine fu_lets (b := (fu_pi s1 117 0 r2)) (fu_putI rfl fr_117 rfl rfl) (fun s3 => ?_)
  refine fu_go 1 (pc' := 16) (ls' := [.ref 117, .int a1, .int a2]) (st' := [.ref 117]) (s' := s3) rfl ?_
  refine fu_step (fu_getI rfl fr_117 rfl rfl) ?_
  refine fu_bind (V := fun j4 : Int64 => fr_X d (some .long) k_X12_read 39 [am_U, am_U, am_U] [.long j4] s3) ?_ (fun j4 => ?_)
  · refine fu_ite (fun h5 => fu_step (fu_if_le_t rfl h5) ?_) (fun h5 => fu_step (fu_if_le_f rfl h5) ?_)
    · refine fu_go 1 (pc' := 29) (ls' := [.ref 117, .int a1, .int a2]) (st' := [.ref 117]) (s' := s3) rfl ?_
      refine fu_step (fu_getR rfl fr_117 rfl rfl) ?_
      refine fu_go 5 (pc' := 38) (ls' := [.ref 117, .int a1, .int a2]) (st' := [.int (((60 : Int32) * a1) + a2), .ref 120]) (s' := s3) rfl ?_
      refine fu_guard (fun h6 => fu_step (fu_ldL rfl fr_120 h6) ?_)
      exact fu_leaf rfl ⟨.inl rfl, .inl rfl, .inl rfl, trivial⟩
    · refine fu_go 2 (pc' := 39) (ls' := [.ref 117, .int a1, .int a2]) (st' := [.long (-1 : Int64)]) (s' := s3) rfl ?_
      exact fu_leaf rfl ⟨.inl rfl, .inl rfl, .inl rfl, trivial⟩
  show fu_J _ _ (fr_X d (some .long) k_X12_read 39 [am_U, am_U, am_U] [.long j4] s3)
  exact fu_lret rfl rfl
/-! X12_pour -/
theorem el_X12_pour_158 (d : Nat) (hd : 0 ≤ d) : ∀ (n : Nat) (s : fu_S) (x1 : Int32) (x2 : Int32) (x3 : Int32) (x4 : Int32) (x5 : Int32) (x6 : Bool) (x7 : Int32), fu_J (l_X12_pour_158 n s x1 x2 x3 x4 x5 x6 x7) (fun r => fr_X d (some .boolean) k_X12_pour 219 [am_U, am_U, am_U, am_U, am_U, am_U, am_U, am_U, am_U] [] r) (fr_X d (some .boolean) k_X12_pour 158 [.ref 117, .int x1, .int x2, .int x3, .int x4, .int x5, .int (fu_b x6), .int x7, am_U] [] s) := by
  intro n
  induction n with
  | zero => intros; exact fu_none
  | succ n ih =>
    intro s x1 x2 x3 x4 x5 x6 x7
    rw [l_X12_pour_158]
    refine fu_go 2 (pc' := 162) (ls' := [.ref 117, .int x1, .int x2, .int x3, .int x4, .int x5, .int (fu_b x6), .int x7, am_U]) (st' := [.int x5, .int x7]) (s' := s) rfl ?_
    refine fu_ite (fun h30 => fu_step (fu_ic_ge_t rfl h30) ?_) (fun h30 => fu_step (fu_ic_ge_f rfl h30) ?_)
    · refine fu_go 1 (pc' := 167) (ls' := [.ref 117, .int x1, .int x2, .int x3, .int x4, .int x5, .int (fu_b x6), .int x7, am_U]) (st' := [.int (fu_b x6)]) (s' := s) rfl ?_
      refine fu_bind (V := fun j31 : Int32 => fr_X d (some .boolean) k_X12_pour 182 [.ref 117, .int x1, .int x2, .int x3, .int x4, .int x5, .int (fu_b x6), .int x7, am_U] [.int j31] s) ?_ (fun j31 => ?_)
      · refine fu_ite (fun h32 => fu_step (fu_ib_eq_t rfl h32) ?_) (fun h32 => fu_step (fu_ib_eq_f rfl h32) ?_)
        · refine fu_go 6 (pc' := 182) (ls' := [.ref 117, .int x1, .int x2, .int x3, .int x4, .int x5, .int (fu_b x6), .int x7, am_U]) (st' := [.int ((x5 - (1 : Int32)) - x7)]) (s' := s) rfl ?_
          exact fu_leaf rfl ⟨.inr rfl, .inr rfl, .inr rfl, .inr rfl, .inr rfl, .inr rfl, .inr rfl, .inr rfl, .inl rfl, trivial⟩
        · refine fu_go 1 (pc' := 182) (ls' := [.ref 117, .int x1, .int x2, .int x3, .int x4, .int x5, .int (fu_b x6), .int x7, am_U]) (st' := [.int x7]) (s' := s) rfl ?_
          exact fu_leaf rfl ⟨.inr rfl, .inr rfl, .inr rfl, .inr rfl, .inr rfl, .inr rfl, .inr rfl, .inr rfl, .inl rfl, trivial⟩
      show fu_J _ _ (fr_X d (some .boolean) k_X12_pour 182 [.ref 117, .int x1, .int x2, .int x3, .int x4, .int x5, .int (fu_b x6), .int x7, am_U] [.int j31] s)
      refine fu_go 2 (pc' := 185) (ls' := [.ref 117, .int x1, .int x2, .int x3, .int x4, .int x5, .int (fu_b x6), .int x7, .int j31]) (st' := [.ref 117]) (s' := s) rfl ?_
      refine fu_step (fu_getR rfl fr_117 rfl rfl) ?_
      refine fu_go 8 (pc' := 199) (ls' := [.ref 117, .int x1, .int x2, .int x3, .int x4, .int x5, .int (fu_b x6), .int x7, .int j31]) (st' := [.ref 117, .int ((((60 : Int32) * x3) + x4) + j31), .ref 120]) (s' := s) rfl ?_
      refine fu_step (fu_getR rfl fr_117 rfl rfl) ?_
      refine fu_go 7 (pc' := 211) (ls' := [.ref 117, .int x1, .int x2, .int x3, .int x4, .int x5, .int (fu_b x6), .int x7, .int j31]) (st' := [.int ((((60 : Int32) * x1) + x2) + j31), .ref 120, .int ((((60 : Int32) * x3) + x4) + j31), .ref 120]) (s' := s) rfl ?_
      refine fu_guard (fun h33 => fu_step (fu_ldL rfl fr_120 h33) ?_)
      refine fu_guard (fun h35 => fu_lets (b := (fu_pl s 120 (Int32.toNatClampNeg ((((60 : Int32) * x3) + x4) + j31)) (s.2 120 (Int32.toNatClampNeg ((((60 : Int32) * x1) + x2) + j31))))) (fu_stL rfl fr_120 h35) (fun s34 => ?_))
      refine fu_go 2 (pc' := 158) (ls' := [.ref 117, .int x1, .int x2, .int x3, .int x4, .int x5, .int (fu_b x6), .int (x7 + (1 : Int32)), .int j31]) (st' := []) (s' := s34) rfl ?_
      exact fu_drop (ls' := [.ref 117, .int x1, .int x2, .int x3, .int x4, .int x5, .int (fu_b x6), .int (x7 + (1 : Int32)), am_U]) ⟨.inr rfl, .inr rfl, .inr rfl, .inr rfl, .inr rfl, .inr rfl, .inr rfl, .inr rfl, .inl rfl, trivial⟩ (ih s34 x1 x2 x3 x4 x5 x6 (x7 + (1 : Int32)))
    · exact fu_leaf rfl ⟨.inl rfl, .inl rfl, .inl rfl, .inl rfl, .inl rfl, .inl rfl, .inl rfl, .inl rfl, .inl rfl, trivial⟩
set_option maxRecDepth 100000 in
theorem e_X12_pour (d : Nat) (hd : 2 ≤ d) (s : fu_S) (a1 : Int32) (a2 : Int32) (a3 : Int32) (a4 : Int32) (a5 : Int32) : fu_J (f_X12_pour s a1 a2 a3 a4 a5) (fun r => some (some (.int (fu_b r.1)), r.2)) (am_D (fu_ho fr_sh) am_m d 247 [.ref 117, .int a1, .int a2, .int a3, .int a4, .int a5] s) := by
  obtain ⟨d, rfl⟩ : ∃ e, d = e + 1 := ⟨d - 1, by omega⟩
  refine fu_enter (ls := [.ref 117, .int a1, .int a2, .int a3, .int a4, .int a5, am_U, am_U, am_U]) am_at_X12_pour rfl rfl ?_
  show fu_J _ _ (fr_X d (some .boolean) k_X12_pour 0 [.ref 117, .int a1, .int a2, .int a3, .int a4, .int a5, am_U, am_U, am_U] [] s)
  unfold f_X12_pour
  refine fu_go 2 (pc' := 2) (ls' := [.ref 117, .int a1, .int a2, .int a3, .int a4, .int a5, am_U, am_U, am_U]) (st' := [.int (0 : Int32), .ref 117]) (s' := s) rfl ?_
  refine fu_lets (b := (fu_pi s 117 1 (0 : Int32))) (fu_putI rfl fr_117 rfl rfl) (fun s1 => ?_)
  refine fu_go 2 (pc' := 7) (ls' := [.ref 117, .int a1, .int a2, .int a3, .int a4, .int a5, am_U, am_U, am_U]) (st' := [.int (0 : Int32), .ref 117]) (s' := s1) rfl ?_
  refine fu_lets (b := (fu_pi s1 117 0 (0 : Int32))) (fu_putI rfl fr_117 rfl rfl) (fun s2 => ?_)
  refine fu_go 1 (pc' := 11) (ls' := [.ref 117, .int a1, .int a2, .int a3, .int a4, .int a5, am_U, am_U, am_U]) (st' := [.int a1]) (s' := s2) rfl ?_
  refine fu_ite (fun h3 => fu_step (fu_if_lt_t rfl h3) ?_) (fun h3 => fu_step (fu_if_lt_f rfl h3) ?_)
  · refine fu_go 2 (pc' := 30) (ls' := [.ref 117, .int a1, .int a2, .int a3, .int a4, .int a5, am_U, am_U, am_U]) (st' := [.int (1 : Int32), .ref 117]) (s' := s2) rfl ?_
    refine fu_let (fu_cVJ rfl rfl rfl rfl rfl (fu_recv fr_117 am_at_X12_no rfl) (e_X12_no d (by omega) s2 (1 : Int32))) (fun r4 => ?_)
    show fu_J _ _ (fr_X d (some .boolean) k_X12_pour 33 [.ref 117, .int a1, .int a2, .int a3, .int a4, .int a5, am_U, am_U, am_U] [.int (fu_b r4.1)] r4.2)
    exact fu_bret (b := r4.1) rfl rfl
  · refine fu_go 2 (pc' := 16) (ls' := [.ref 117, .int a1, .int a2, .int a3, .int a4, .int a5, am_U, am_U, am_U]) (st' := [.int (4 : Int32), .int a1]) (s' := s2) rfl ?_
    refine fu_ite (fun h5 => fu_step (fu_ic_ge_t rfl h5) ?_) (fun h5 => fu_step (fu_ic_ge_f rfl h5) ?_)
    · refine fu_go 1 (pc' := 20) (ls' := [.ref 117, .int a1, .int a2, .int a3, .int a4, .int a5, am_U, am_U, am_U]) (st' := [.int a3]) (s' := s2) rfl ?_
      refine fu_ite (fun h6 => fu_step (fu_if_lt_t rfl h6) ?_) (fun h6 => fu_step (fu_if_lt_f rfl h6) ?_)
      · refine fu_go 2 (pc' := 30) (ls' := [.ref 117, .int a1, .int a2, .int a3, .int a4, .int a5, am_U, am_U, am_U]) (st' := [.int (1 : Int32), .ref 117]) (s' := s2) rfl ?_
        refine fu_let (fu_cVJ rfl rfl rfl rfl rfl (fu_recv fr_117 am_at_X12_no rfl) (e_X12_no d (by omega) s2 (1 : Int32))) (fun r7 => ?_)
        show fu_J _ _ (fr_X d (some .boolean) k_X12_pour 33 [.ref 117, .int a1, .int a2, .int a3, .int a4, .int a5, am_U, am_U, am_U] [.int (fu_b r7.1)] r7.2)
        exact fu_bret (b := r7.1) rfl rfl
      · refine fu_go 2 (pc' := 25) (ls' := [.ref 117, .int a1, .int a2, .int a3, .int a4, .int a5, am_U, am_U, am_U]) (st' := [.int (4 : Int32), .int a3]) (s' := s2) rfl ?_
        refine fu_ite (fun h8 => fu_step (fu_ic_lt_t rfl h8) ?_) (fun h8 => fu_step (fu_ic_lt_f rfl h8) ?_)
        · refine fu_go 1 (pc' := 35) (ls' := [.ref 117, .int a1, .int a2, .int a3, .int a4, .int a5, am_U, am_U, am_U]) (st' := [.ref 117]) (s' := s2) rfl ?_
          refine fu_step (fu_getR rfl fr_117 rfl rfl) ?_
          refine fu_go 1 (pc' := 39) (ls' := [.ref 117, .int a1, .int a2, .int a3, .int a4, .int a5, am_U, am_U, am_U]) (st' := [.int a1, .ref 119]) (s' := s2) rfl ?_
          refine fu_guard (fun h9 => fu_step (fu_ldI rfl fr_119 h9) ?_)
          refine fu_ite (fun h10 => fu_step (fu_if_lt_t rfl h10) ?_) (fun h10 => fu_step (fu_if_lt_f rfl h10) ?_)
          · refine fu_go 2 (pc' := 54) (ls' := [.ref 117, .int a1, .int a2, .int a3, .int a4, .int a5, am_U, am_U, am_U]) (st' := [.int (3 : Int32), .ref 117]) (s' := s2) rfl ?_
            refine fu_let (fu_cVJ rfl rfl rfl rfl rfl (fu_recv fr_117 am_at_X12_no rfl) (e_X12_no d (by omega) s2 (3 : Int32))) (fun r11 => ?_)
            show fu_J _ _ (fr_X d (some .boolean) k_X12_pour 57 [.ref 117, .int a1, .int a2, .int a3, .int a4, .int a5, am_U, am_U, am_U] [.int (fu_b r11.1)] r11.2)
            exact fu_bret (b := r11.1) rfl rfl
          · refine fu_go 1 (pc' := 44) (ls' := [.ref 117, .int a1, .int a2, .int a3, .int a4, .int a5, am_U, am_U, am_U]) (st' := [.ref 117]) (s' := s2) rfl ?_
            refine fu_step (fu_getR rfl fr_117 rfl rfl) ?_
            refine fu_go 1 (pc' := 48) (ls' := [.ref 117, .int a1, .int a2, .int a3, .int a4, .int a5, am_U, am_U, am_U]) (st' := [.int a3, .ref 119]) (s' := s2) rfl ?_
            refine fu_guard (fun h12 => fu_step (fu_ldI rfl fr_119 h12) ?_)
            refine fu_ite (fun h13 => fu_step (fu_if_ge_t rfl h13) ?_) (fun h13 => fu_step (fu_if_ge_f rfl h13) ?_)
            · refine fu_go 2 (pc' := 54) (ls' := [.ref 117, .int a1, .int a2, .int a3, .int a4, .int a5, am_U, am_U, am_U]) (st' := [.int (3 : Int32), .ref 117]) (s' := s2) rfl ?_
              refine fu_let (fu_cVJ rfl rfl rfl rfl rfl (fu_recv fr_117 am_at_X12_no rfl) (e_X12_no d (by omega) s2 (3 : Int32))) (fun r14 => ?_)
              show fu_J _ _ (fr_X d (some .boolean) k_X12_pour 57 [.ref 117, .int a1, .int a2, .int a3, .int a4, .int a5, am_U, am_U, am_U] [.int (fu_b r14.1)] r14.2)
              exact fu_bret (b := r14.1) rfl rfl
            · refine fu_go 1 (pc' := 59) (ls' := [.ref 117, .int a1, .int a2, .int a3, .int a4, .int a5, am_U, am_U, am_U]) (st' := [.ref 117]) (s' := s2) rfl ?_
              refine fu_step (fu_getR rfl fr_117 rfl rfl) ?_
              refine fu_go 1 (pc' := 63) (ls' := [.ref 117, .int a1, .int a2, .int a3, .int a4, .int a5, am_U, am_U, am_U]) (st' := [.int a1, .ref 118]) (s' := s2) rfl ?_
              refine fu_guard (fun h15 => fu_step (fu_ldI rfl fr_118 h15) ?_)
              refine fu_go 1 (pc' := 65) (ls' := [.ref 117, .int a1, .int a2, .int a3, .int a4, .int a5, am_U, am_U, am_U]) (st' := [.ref 117, .int (s2.1 118 (Int32.toNatClampNeg a1))]) (s' := s2) rfl ?_
              refine fu_step (fu_getR rfl fr_117 rfl rfl) ?_
              refine fu_go 1 (pc' := 69) (ls' := [.ref 117, .int a1, .int a2, .int a3, .int a4, .int a5, am_U, am_U, am_U]) (st' := [.int a3, .ref 118, .int (s2.1 118 (Int32.toNatClampNeg a1))]) (s' := s2) rfl ?_
              refine fu_guard (fun h16 => fu_step (fu_ldI rfl fr_118 h16) ?_)
              refine fu_ite (fun h17 => fu_step (fu_ic_eq_t rfl h17) ?_) (fun h17 => fu_step (fu_ic_eq_f rfl h17) ?_)
              · refine fu_go 1 (pc' := 82) (ls' := [.ref 117, .int a1, .int a2, .int a3, .int a4, .int a5, am_U, am_U, am_U]) (st' := [.int a5]) (s' := s2) rfl ?_
                refine fu_ite (fun h18 => fu_step (fu_if_ge_t rfl h18) ?_) (fun h18 => fu_step (fu_if_ge_f rfl h18) ?_)
                · refine fu_go 2 (pc' := 88) (ls' := [.ref 117, .int a1, .int a2, .int a3, .int a4, .int a5, am_U, am_U, am_U]) (st' := [.int (6 : Int32), .ref 117]) (s' := s2) rfl ?_
                  refine fu_let (fu_cVJ rfl rfl rfl rfl rfl (fu_recv fr_117 am_at_X12_no rfl) (e_X12_no d (by omega) s2 (6 : Int32))) (fun r19 => ?_)
                  show fu_J _ _ (fr_X d (some .boolean) k_X12_pour 91 [.ref 117, .int a1, .int a2, .int a3, .int a4, .int a5, am_U, am_U, am_U] [.int (fu_b r19.1)] r19.2)
                  exact fu_bret (b := r19.1) rfl rfl
                · refine fu_go 1 (pc' := 93) (ls' := [.ref 117, .int a1, .int a2, .int a3, .int a4, .int a5, am_U, am_U, am_U]) (st' := [.int a2]) (s' := s2) rfl ?_
                  refine fu_ite (fun h20 => fu_step (fu_if_lt_t rfl h20) ?_) (fun h20 => fu_step (fu_if_lt_f rfl h20) ?_)
                  · refine fu_go 2 (pc' := 138) (ls' := [.ref 117, .int a1, .int a2, .int a3, .int a4, .int a5, am_U, am_U, am_U]) (st' := [.int (4 : Int32), .ref 117]) (s' := s2) rfl ?_
                    refine fu_let (fu_cVJ rfl rfl rfl rfl rfl (fu_recv fr_117 am_at_X12_no rfl) (e_X12_no d (by omega) s2 (4 : Int32))) (fun r21 => ?_)
                    show fu_J _ _ (fr_X d (some .boolean) k_X12_pour 141 [.ref 117, .int a1, .int a2, .int a3, .int a4, .int a5, am_U, am_U, am_U] [.int (fu_b r21.1)] r21.2)
                    exact fu_bret (b := r21.1) rfl rfl
                  · refine fu_go 1 (pc' := 98) (ls' := [.ref 117, .int a1, .int a2, .int a3, .int a4, .int a5, am_U, am_U, am_U]) (st' := [.int a4]) (s' := s2) rfl ?_
                    refine fu_ite (fun h22 => fu_step (fu_if_lt_t rfl h22) ?_) (fun h22 => fu_step (fu_if_lt_f rfl h22) ?_)
                    · refine fu_go 2 (pc' := 138) (ls' := [.ref 117, .int a1, .int a2, .int a3, .int a4, .int a5, am_U, am_U, am_U]) (st' := [.int (4 : Int32), .ref 117]) (s' := s2) rfl ?_
                      refine fu_let (fu_cVJ rfl rfl rfl rfl rfl (fu_recv fr_117 am_at_X12_no rfl) (e_X12_no d (by omega) s2 (4 : Int32))) (fun r23 => ?_)
                      show fu_J _ _ (fr_X d (some .boolean) k_X12_pour 141 [.ref 117, .int a1, .int a2, .int a3, .int a4, .int a5, am_U, am_U, am_U] [.int (fu_b r23.1)] r23.2)
                      exact fu_bret (b := r23.1) rfl rfl
                    · refine fu_go 6 (pc' := 108) (ls' := [.ref 117, .int a1, .int a2, .int a3, .int a4, .int a5, am_U, am_U, am_U]) (st' := [.ref 117, .long ((Int32.toInt64 a2) + (Int32.toInt64 a5))]) (s' := s2) rfl ?_
                      refine fu_step (fu_getR rfl fr_117 rfl rfl) ?_
                      refine fu_go 1 (pc' := 112) (ls' := [.ref 117, .int a1, .int a2, .int a3, .int a4, .int a5, am_U, am_U, am_U]) (st' := [.int a1, .ref 119, .long ((Int32.toInt64 a2) + (Int32.toInt64 a5))]) (s' := s2) rfl ?_
                      refine fu_guard (fun h24 => fu_step (fu_ldI rfl fr_119 h24) ?_)
                      refine fu_go 1 (pc' := 114) (ls' := [.ref 117, .int a1, .int a2, .int a3, .int a4, .int a5, am_U, am_U, am_U]) (st' := [.long (Int32.toInt64 (s2.1 119 (Int32.toNatClampNeg a1))), .long ((Int32.toInt64 a2) + (Int32.toInt64 a5))]) (s' := s2) rfl ?_
                      refine fu_ite (fun h25 => fu_step (fu_lc_gt_t rfl rfl h25) ?_) (fun h25 => fu_step (fu_lc_gt_f rfl rfl h25) ?_)
                      · refine fu_go 6 (pc' := 126) (ls' := [.ref 117, .int a1, .int a2, .int a3, .int a4, .int a5, am_U, am_U, am_U]) (st' := [.ref 117, .long ((Int32.toInt64 a4) + (Int32.toInt64 a5))]) (s' := s2) rfl ?_
                        refine fu_step (fu_getR rfl fr_117 rfl rfl) ?_
                        refine fu_go 1 (pc' := 130) (ls' := [.ref 117, .int a1, .int a2, .int a3, .int a4, .int a5, am_U, am_U, am_U]) (st' := [.int a3, .ref 119, .long ((Int32.toInt64 a4) + (Int32.toInt64 a5))]) (s' := s2) rfl ?_
                        refine fu_guard (fun h26 => fu_step (fu_ldI rfl fr_119 h26) ?_)
                        refine fu_go 1 (pc' := 132) (ls' := [.ref 117, .int a1, .int a2, .int a3, .int a4, .int a5, am_U, am_U, am_U]) (st' := [.long (Int32.toInt64 (s2.1 119 (Int32.toNatClampNeg a3))), .long ((Int32.toInt64 a4) + (Int32.toInt64 a5))]) (s' := s2) rfl ?_
                        refine fu_ite (fun h27 => fu_step (fu_lc_le_t rfl rfl h27) ?_) (fun h27 => fu_step (fu_lc_le_f rfl rfl h27) ?_)
                        · refine fu_go 2 (pc' := 145) (ls' := [.ref 117, .int a1, .int a2, .int a3, .int a4, .int a5, am_U, am_U, am_U]) (st' := [.int a4, .int a2]) (s' := s2) rfl ?_
                          refine fu_bind (V := fun j28 : Bool => fr_X d (some .boolean) k_X12_pour 153 [.ref 117, .int a1, .int a2, .int a3, .int a4, .int a5, am_U, am_U, am_U] [.int (fu_b j28)] s2) ?_ (fun j28 => ?_)
                          · refine fu_ite (fun h29 => fu_step (fu_ic_ge_t rfl h29) ?_) (fun h29 => fu_step (fu_ic_ge_f rfl h29) ?_)
                            · refine fu_go 2 (pc' := 153) (ls' := [.ref 117, .int a1, .int a2, .int a3, .int a4, .int a5, am_U, am_U, am_U]) (st' := [.int (1 : Int32)]) (s' := s2) rfl ?_
                              exact fu_leaf rfl ⟨.inr rfl, .inr rfl, .inr rfl, .inr rfl, .inr rfl, .inr rfl, .inl rfl, .inl rfl, .inl rfl, trivial⟩
                            · refine fu_go 1 (pc' := 153) (ls' := [.ref 117, .int a1, .int a2, .int a3, .int a4, .int a5, am_U, am_U, am_U]) (st' := [.int (0 : Int32)]) (s' := s2) rfl ?_
                              exact fu_leaf rfl ⟨.inr rfl, .inr rfl, .inr rfl, .inr rfl, .inr rfl, .inr rfl, .inl rfl, .inl rfl, .inl rfl, trivial⟩
                          show fu_J _ _ (fr_X d (some .boolean) k_X12_pour 153 [.ref 117, .int a1, .int a2, .int a3, .int a4, .int a5, am_U, am_U, am_U] [.int (fu_b j28)] s2)
                          refine fu_go 3 (pc' := 158) (ls' := [.ref 117, .int a1, .int a2, .int a3, .int a4, .int a5, .int (fu_b j28), .int (0 : Int32), am_U]) (st' := []) (s' := s2) rfl ?_
                          refine fu_drop (ls' := [.ref 117, .int a1, .int a2, .int a3, .int a4, .int a5, .int (fu_b j28), .int (0 : Int32), am_U]) ⟨.inr rfl, .inr rfl, .inr rfl, .inr rfl, .inr rfl, .inr rfl, .inr rfl, .inr rfl, .inl rfl, trivial⟩ ?_
                          refine fu_bind (el_X12_pour_158 d (by omega) fu_N s2 a1 a2 a3 a4 a5 j28 (0 : Int32)) (fun r36 => ?_)
                          show fu_J _ _ (fr_X d (some .boolean) k_X12_pour 219 [am_U, am_U, am_U, am_U, am_U, am_U, am_U, am_U, am_U] [] r36)
                          refine fu_go 1 (pc' := 220) (ls' := [am_U, am_U, am_U, am_U, am_U, am_U, am_U, am_U, am_U]) (st' := [.int (1 : Int32)]) (s' := r36) rfl ?_
                          exact fu_bret (b := true) rfl rfl
                        · refine fu_go 2 (pc' := 138) (ls' := [.ref 117, .int a1, .int a2, .int a3, .int a4, .int a5, am_U, am_U, am_U]) (st' := [.int (4 : Int32), .ref 117]) (s' := s2) rfl ?_
                          refine fu_let (fu_cVJ rfl rfl rfl rfl rfl (fu_recv fr_117 am_at_X12_no rfl) (e_X12_no d (by omega) s2 (4 : Int32))) (fun r37 => ?_)
                          show fu_J _ _ (fr_X d (some .boolean) k_X12_pour 141 [.ref 117, .int a1, .int a2, .int a3, .int a4, .int a5, am_U, am_U, am_U] [.int (fu_b r37.1)] r37.2)
                          exact fu_bret (b := r37.1) rfl rfl
                      · refine fu_go 2 (pc' := 138) (ls' := [.ref 117, .int a1, .int a2, .int a3, .int a4, .int a5, am_U, am_U, am_U]) (st' := [.int (4 : Int32), .ref 117]) (s' := s2) rfl ?_
                        refine fu_let (fu_cVJ rfl rfl rfl rfl rfl (fu_recv fr_117 am_at_X12_no rfl) (e_X12_no d (by omega) s2 (4 : Int32))) (fun r38 => ?_)
                        show fu_J _ _ (fr_X d (some .boolean) k_X12_pour 141 [.ref 117, .int a1, .int a2, .int a3, .int a4, .int a5, am_U, am_U, am_U] [.int (fu_b r38.1)] r38.2)
                        exact fu_bret (b := r38.1) rfl rfl
              · refine fu_go 2 (pc' := 76) (ls' := [.ref 117, .int a1, .int a2, .int a3, .int a4, .int a5, am_U, am_U, am_U]) (st' := [.int (11 : Int32), .ref 117]) (s' := s2) rfl ?_
                refine fu_let (fu_cVJ rfl rfl rfl rfl rfl (fu_recv fr_117 am_at_X12_no rfl) (e_X12_no d (by omega) s2 (11 : Int32))) (fun r39 => ?_)
                show fu_J _ _ (fr_X d (some .boolean) k_X12_pour 79 [.ref 117, .int a1, .int a2, .int a3, .int a4, .int a5, am_U, am_U, am_U] [.int (fu_b r39.1)] r39.2)
                exact fu_bret (b := r39.1) rfl rfl
        · refine fu_go 2 (pc' := 30) (ls' := [.ref 117, .int a1, .int a2, .int a3, .int a4, .int a5, am_U, am_U, am_U]) (st' := [.int (1 : Int32), .ref 117]) (s' := s2) rfl ?_
          refine fu_let (fu_cVJ rfl rfl rfl rfl rfl (fu_recv fr_117 am_at_X12_no rfl) (e_X12_no d (by omega) s2 (1 : Int32))) (fun r40 => ?_)
          show fu_J _ _ (fr_X d (some .boolean) k_X12_pour 33 [.ref 117, .int a1, .int a2, .int a3, .int a4, .int a5, am_U, am_U, am_U] [.int (fu_b r40.1)] r40.2)
          exact fu_bret (b := r40.1) rfl rfl
    · refine fu_go 2 (pc' := 30) (ls' := [.ref 117, .int a1, .int a2, .int a3, .int a4, .int a5, am_U, am_U, am_U]) (st' := [.int (1 : Int32), .ref 117]) (s' := s2) rfl ?_
      refine fu_let (fu_cVJ rfl rfl rfl rfl rfl (fu_recv fr_117 am_at_X12_no rfl) (e_X12_no d (by omega) s2 (1 : Int32))) (fun r41 => ?_)
      show fu_J _ _ (fr_X d (some .boolean) k_X12_pour 33 [.ref 117, .int a1, .int a2, .int a3, .int a4, .int a5, am_U, am_U, am_U] [.int (fu_b r41.1)] r41.2)
      exact fu_bret (b := r41.1) rfl rfl
/-! X12_numberOf -/
set_option maxRecDepth 100000 in
theorem e_X12_numberOf (d : Nat) (hd : 1 ≤ d) (s : fu_S) (a1 : Int32) (a2 : Int32) : fu_J (f_X12_numberOf s a1 a2) (fun r => some (some (.long r), s)) (am_D (fu_ho fr_sh) am_m d 248 [.ref 117, .int a1, .int a2] s) := by
  obtain ⟨d, rfl⟩ : ∃ e, d = e + 1 := ⟨d - 1, by omega⟩
  refine fu_enter (ls := [.ref 117, .int a1, .int a2]) am_at_X12_numberOf rfl rfl ?_
  show fu_J _ _ (fr_X d (some .long) k_X12_numberOf 0 [.ref 117, .int a1, .int a2] [] s)
  unfold f_X12_numberOf
  refine fu_go 1 (pc' := 1) (ls' := [.ref 117, .int a1, .int a2]) (st' := [.ref 117]) (s' := s) rfl ?_
  refine fu_step (fu_getR rfl fr_117 rfl rfl) ?_
  refine fu_go 5 (pc' := 10) (ls' := [.ref 117, .int a1, .int a2]) (st' := [.int (((60 : Int32) * a1) + a2), .ref 120]) (s' := s) rfl ?_
  refine fu_guard (fun h1 => fu_step (fu_ldL rfl fr_120 h1) ?_)
  exact fu_lret rfl rfl
/-! X12_isTray -/
set_option maxRecDepth 100000 in
theorem e_X12_isTray (d : Nat) (hd : 2 ≤ d) (s : fu_S) (a1 : Int32) : fu_J (some (f_X12_isTray a1)) (fun r => some (some (.int (fu_b r)), s)) (am_D (fu_ho fr_sh) am_m d 249 [.ref 117, .int a1] s) := by
  obtain ⟨d, rfl⟩ : ∃ e, d = e + 1 := ⟨d - 1, by omega⟩
  refine fu_enter (ls := [.ref 117, .int a1]) am_at_X12_isTray rfl rfl ?_
  show fu_J _ _ (fr_X d (some .boolean) k_X12_isTray 0 [.ref 117, .int a1] [] s)
  unfold f_X12_isTray
  refine fu_go 4 (pc' := 6) (ls' := [.ref 117, .int a1]) (st' := [.long (3 : Int64), .long (0 : Int64), .long (Int32.toInt64 a1)]) (s' := s) rfl ?_
  refine fu_step (fu_cS rfl rfl rfl rfl rfl rfl (fu_eq (e_X12_isIn d (by omega) s (Int32.toInt64 a1) (0 : Int64) (3 : Int64)) rfl)) ?_
  show fu_J _ _ (fr_X d (some .boolean) k_X12_isTray 9 [.ref 117, .int a1] [.int (fu_b (f_X12_isIn (Int32.toInt64 a1) (0 : Int64) (3 : Int64)))] s)
  exact fu_bret (b := (f_X12_isIn (Int32.toInt64 a1) (0 : Int64) (3 : Int64))) rfl rfl
/-! X12_has -/
set_option maxRecDepth 100000 in
theorem e_X12_has (d : Nat) (hd : 1 ≤ d) (s : fu_S) (a0 : Int32) (a1 : Int32) : fu_J (some (f_X12_has a0 a1)) (fun r => some (some (.int (fu_b r)), s)) (am_D (fu_ho fr_sh) am_m d 250 [.int a0, .int a1] s) := by
  obtain ⟨d, rfl⟩ : ∃ e, d = e + 1 := ⟨d - 1, by omega⟩
  refine fu_enter (ls := [.int a0, .int a1]) am_at_X12_has rfl rfl ?_
  show fu_J _ _ (fr_X d (some .boolean) k_X12_has 0 [.int a0, .int a1] [] s)
  unfold f_X12_has
  refine fu_go 6 (pc' := 6) (ls' := [.int a0, .int a1]) (st' := [.int (1 : Int32), .int ((a0 >>> (a1 &&& 31)) &&& (1 : Int32))]) (s' := s) rfl ?_
  refine fu_letS (V := fun j1 : Bool => fr_X d (some .boolean) k_X12_has 14 [am_U, am_U] [.int (fu_b j1)] s) ?_ (fun j1 => ?_)
  · refine fu_iteS (fun h2 => fu_step (fu_ic_ne_t rfl h2) ?_) (fun h2 => fu_step (fu_ic_ne_f rfl h2) ?_)
    · refine fu_go 2 (pc' := 14) (ls' := [.int a0, .int a1]) (st' := [.int (1 : Int32)]) (s' := s) rfl ?_
      exact fu_leaf rfl ⟨.inl rfl, .inl rfl, trivial⟩
    · refine fu_go 1 (pc' := 14) (ls' := [.int a0, .int a1]) (st' := [.int (0 : Int32)]) (s' := s) rfl ?_
      exact fu_leaf rfl ⟨.inl rfl, .inl rfl, trivial⟩
  show fu_J _ _ (fr_X d (some .boolean) k_X12_has 14 [am_U, am_U] [.int (fu_b j1)] s)
  exact fu_bret (b := j1) rfl rfl
/-! X12_sizeOf -/
theorem el_X12_sizeOf_4 (d : Nat) (hd : 1 ≤ d) : ∀ (n : Nat) (s : fu_S) (x0 : Int32) (x1 : Int32) (x2 : Int32), fu_J (l_X12_sizeOf_4 n x0 x1 x2) (fun r => fr_X d (some .int) k_X12_sizeOf 32 [am_U, .int r, am_U] [] s) (fr_X d (some .int) k_X12_sizeOf 4 [.int x0, .int x1, .int x2] [] s) := by
  intro n
  induction n with
  | zero => intros; exact fu_none
  | succ n ih =>
    intro s x0 x1 x2
    rw [l_X12_sizeOf_4]
    refine fu_go 2 (pc' := 7) (ls' := [.int x0, .int x1, .int x2]) (st' := [.int (10 : Int32), .int x2]) (s' := s) rfl ?_
    refine fu_ite (fun h1 => fu_step (fu_ic_ge_t rfl h1) ?_) (fun h1 => fu_step (fu_ic_ge_f rfl h1) ?_)
    · refine fu_go 3 (pc' := 13) (ls' := [.int x0, .int x1, .int x2]) (st' := [.int x2, .int x0, .int x1]) (s' := s) rfl ?_
      refine fu_step (fu_cS rfl rfl rfl rfl rfl rfl (fu_eq (e_X12_has d (by omega) s x0 x2) rfl)) ?_
      show fu_J _ _ (fr_X d (some .int) k_X12_sizeOf 16 [.int x0, .int x1, .int x2] [.int (fu_b (f_X12_has x0 x2)), .int x1] s)
      refine fu_bind (V := fun j2 : Bool => fr_X d (some .int) k_X12_sizeOf 24 [.int x0, am_U, .int x2] [.int (fu_b j2), .int x1] s) ?_ (fun j2 => ?_)
      · refine fu_ite (fun h3 => fu_step (fu_ib_eq_t rfl h3) ?_) (fun h3 => fu_step (fu_ib_eq_f rfl h3) ?_)
        · refine fu_go 2 (pc' := 24) (ls' := [.int x0, .int x1, .int x2]) (st' := [.int (1 : Int32), .int x1]) (s' := s) rfl ?_
          exact fu_leaf rfl ⟨.inr rfl, .inl rfl, .inr rfl, trivial⟩
        · refine fu_go 1 (pc' := 24) (ls' := [.int x0, .int x1, .int x2]) (st' := [.int (0 : Int32), .int x1]) (s' := s) rfl ?_
          exact fu_leaf rfl ⟨.inr rfl, .inl rfl, .inr rfl, trivial⟩
      show fu_J _ _ (fr_X d (some .int) k_X12_sizeOf 24 [.int x0, am_U, .int x2] [.int (fu_b j2), .int x1] s)
      refine fu_go 4 (pc' := 4) (ls' := [.int x0, .int (x1 + (fu_b j2)), .int (x2 + (1 : Int32))]) (st' := []) (s' := s) rfl ?_
      exact fu_drop (ls' := [.int x0, .int (x1 + (fu_b j2)), .int (x2 + (1 : Int32))]) ⟨.inr rfl, .inr rfl, .inr rfl, trivial⟩ (ih s x0 (x1 + (fu_b j2)) (x2 + (1 : Int32)))
    · exact fu_leaf rfl ⟨.inl rfl, .inr rfl, .inl rfl, trivial⟩
set_option maxRecDepth 100000 in
theorem e_X12_sizeOf (d : Nat) (hd : 2 ≤ d) (s : fu_S) (a0 : Int32) : fu_J (f_X12_sizeOf a0) (fun r => some (some (.int r), s)) (am_D (fu_ho fr_sh) am_m d 251 [.int a0] s) := by
  obtain ⟨d, rfl⟩ : ∃ e, d = e + 1 := ⟨d - 1, by omega⟩
  refine fu_enter (ls := [.int a0, am_U, am_U]) am_at_X12_sizeOf rfl rfl ?_
  show fu_J _ _ (fr_X d (some .int) k_X12_sizeOf 0 [.int a0, am_U, am_U] [] s)
  unfold f_X12_sizeOf
  refine fu_go 4 (pc' := 4) (ls' := [.int a0, .int (0 : Int32), .int (0 : Int32)]) (st' := []) (s' := s) rfl ?_
  refine fu_drop (ls' := [.int a0, .int (0 : Int32), .int (0 : Int32)]) ⟨.inr rfl, .inr rfl, .inr rfl, trivial⟩ ?_
  refine fu_bind (el_X12_sizeOf_4 d (by omega) fu_N s a0 (0 : Int32) (0 : Int32)) (fun r4 => ?_)
  show fu_J _ _ (fr_X d (some .int) k_X12_sizeOf 32 [am_U, .int r4, am_U] [] s)
  refine fu_go 1 (pc' := 33) (ls' := [am_U, .int r4, am_U]) (st' := [.int r4]) (s' := s) rfl ?_
  exact fu_iret rfl rfl
/-! X12_look2 -/
set_option maxRecDepth 100000 in
theorem e_X12_look2 (d : Nat) (hd : 1 ≤ d) (s : fu_S) (a1 : Int32) : fu_J (f_X12_look2 s a1) (fun r => some (some (.int r), s)) (am_D (fu_ho fr_sh) am_m d 252 [.ref 117, .int a1] s) := by
  obtain ⟨d, rfl⟩ : ∃ e, d = e + 1 := ⟨d - 1, by omega⟩
  refine fu_enter (ls := [.ref 117, .int a1]) am_at_X12_look2 rfl rfl ?_
  show fu_J _ _ (fr_X d (some .int) k_X12_look2 0 [.ref 117, .int a1] [] s)
  unfold f_X12_look2
  refine fu_go 2 (pc' := 2) (ls' := [.ref 117, .int a1]) (st' := [.ref 117, .int a1]) (s' := s) rfl ?_
  refine fu_step (fu_getI rfl fr_117 rfl rfl) ?_
  refine fu_bind (V := fun j1 : Int32 => fr_X d (some .int) k_X12_look2 22 [am_U, am_U] [.int j1] s) ?_ (fun j1 => ?_)
  · refine fu_ite (fun h2 => fu_step (fu_ic_ge_t rfl h2) ?_) (fun h2 => fu_step (fu_ic_ge_f rfl h2) ?_)
    · refine fu_go 1 (pc' := 9) (ls' := [.ref 117, .int a1]) (st' := [.ref 117]) (s' := s) rfl ?_
      refine fu_step (fu_getR rfl fr_117 rfl rfl) ?_
      refine fu_go 1 (pc' := 13) (ls' := [.ref 117, .int a1]) (st' := [.int a1, .ref 121]) (s' := s) rfl ?_
      refine fu_guard (fun h3 => fu_step (fu_ldB rfl fr_121 h3) ?_)
      refine fu_go 3 (pc' := 22) (ls' := [.ref 117, .int a1]) (st' := [.int ((s.1 121 (Int32.toNatClampNeg a1)) &&& (255 : Int32))]) (s' := s) rfl ?_
      exact fu_leaf rfl ⟨.inl rfl, .inl rfl, trivial⟩
    · refine fu_go 1 (pc' := 22) (ls' := [.ref 117, .int a1]) (st' := [.int (0 : Int32)]) (s' := s) rfl ?_
      exact fu_leaf rfl ⟨.inl rfl, .inl rfl, trivial⟩
  show fu_J _ _ (fr_X d (some .int) k_X12_look2 22 [am_U, am_U] [.int j1] s)
  exact fu_iret rfl rfl
/-! X12_isLetter -/
set_option maxRecDepth 100000 in
theorem e_X12_isLetter (d : Nat) (hd : 1 ≤ d) (s : fu_S) (a0 : Int32) : fu_J (some (f_X12_isLetter a0)) (fun r => some (some (.int (fu_b r)), s)) (am_D (fu_ho fr_sh) am_m d 253 [.int a0] s) := by
  obtain ⟨d, rfl⟩ : ∃ e, d = e + 1 := ⟨d - 1, by omega⟩
  refine fu_enter (ls := [.int a0]) am_at_X12_isLetter rfl rfl ?_
  show fu_J _ _ (fr_X d (some .boolean) k_X12_isLetter 0 [.int a0] [] s)
  unfold f_X12_isLetter
  refine fu_go 2 (pc' := 3) (ls' := [.int a0]) (st' := [.int (97 : Int32), .int a0]) (s' := s) rfl ?_
  refine fu_letS (V := fun j1 : Bool => fr_X d (some .boolean) k_X12_isLetter 17 [am_U] [.int (fu_b j1)] s) ?_ (fun j1 => ?_)
  · refine fu_iteS (fun h2 => fu_step (fu_ic_lt_t rfl h2) ?_) (fun h2 => fu_step (fu_ic_lt_f rfl h2) ?_)
    · refine fu_go 1 (pc' := 17) (ls' := [.int a0]) (st' := [.int (0 : Int32)]) (s' := s) rfl ?_
      exact fu_leaf rfl ⟨.inl rfl, trivial⟩
    · refine fu_go 2 (pc' := 9) (ls' := [.int a0]) (st' := [.int (122 : Int32), .int a0]) (s' := s) rfl ?_
      refine fu_iteS (fun h3 => fu_step (fu_ic_gt_t rfl h3) ?_) (fun h3 => fu_step (fu_ic_gt_f rfl h3) ?_)
      · refine fu_go 2 (pc' := 17) (ls' := [.int a0]) (st' := [.int (1 : Int32)]) (s' := s) rfl ?_
        exact fu_leaf rfl ⟨.inl rfl, trivial⟩
      · refine fu_go 1 (pc' := 17) (ls' := [.int a0]) (st' := [.int (0 : Int32)]) (s' := s) rfl ?_
        exact fu_leaf rfl ⟨.inl rfl, trivial⟩
  show fu_J _ _ (fr_X d (some .boolean) k_X12_isLetter 17 [am_U] [.int (fu_b j1)] s)
  exact fu_bret (b := j1) rfl rfl
/-! X12_isDigit -/
set_option maxRecDepth 100000 in
theorem e_X12_isDigit (d : Nat) (hd : 1 ≤ d) (s : fu_S) (a0 : Int32) : fu_J (some (f_X12_isDigit a0)) (fun r => some (some (.int (fu_b r)), s)) (am_D (fu_ho fr_sh) am_m d 254 [.int a0] s) := by
  obtain ⟨d, rfl⟩ : ∃ e, d = e + 1 := ⟨d - 1, by omega⟩
  refine fu_enter (ls := [.int a0]) am_at_X12_isDigit rfl rfl ?_
  show fu_J _ _ (fr_X d (some .boolean) k_X12_isDigit 0 [.int a0] [] s)
  unfold f_X12_isDigit
  refine fu_go 2 (pc' := 3) (ls' := [.int a0]) (st' := [.int (48 : Int32), .int a0]) (s' := s) rfl ?_
  refine fu_letS (V := fun j1 : Bool => fr_X d (some .boolean) k_X12_isDigit 17 [am_U] [.int (fu_b j1)] s) ?_ (fun j1 => ?_)
  · refine fu_iteS (fun h2 => fu_step (fu_ic_lt_t rfl h2) ?_) (fun h2 => fu_step (fu_ic_lt_f rfl h2) ?_)
    · refine fu_go 1 (pc' := 17) (ls' := [.int a0]) (st' := [.int (0 : Int32)]) (s' := s) rfl ?_
      exact fu_leaf rfl ⟨.inl rfl, trivial⟩
    · refine fu_go 2 (pc' := 9) (ls' := [.int a0]) (st' := [.int (57 : Int32), .int a0]) (s' := s) rfl ?_
      refine fu_iteS (fun h3 => fu_step (fu_ic_gt_t rfl h3) ?_) (fun h3 => fu_step (fu_ic_gt_f rfl h3) ?_)
      · refine fu_go 2 (pc' := 17) (ls' := [.int a0]) (st' := [.int (1 : Int32)]) (s' := s) rfl ?_
        exact fu_leaf rfl ⟨.inl rfl, trivial⟩
      · refine fu_go 1 (pc' := 17) (ls' := [.int a0]) (st' := [.int (0 : Int32)]) (s' := s) rfl ?_
        exact fu_leaf rfl ⟨.inl rfl, trivial⟩
  show fu_J _ _ (fr_X d (some .boolean) k_X12_isDigit 17 [am_U] [.int (fu_b j1)] s)
  exact fu_bret (b := j1) rfl rfl
/-! X12_isSignByte -/
set_option maxRecDepth 100000 in
theorem e_X12_isSignByte (d : Nat) (hd : 1 ≤ d) (s : fu_S) (a1 : Int32) : fu_J (some (f_X12_isSignByte a1)) (fun r => some (some (.int (fu_b r)), s)) (am_D (fu_ho fr_sh) am_m d 255 [.ref 117, .int a1] s) := by
  obtain ⟨d, rfl⟩ : ∃ e, d = e + 1 := ⟨d - 1, by omega⟩
  refine fu_enter (ls := [.ref 117, .int a1]) am_at_X12_isSignByte rfl rfl ?_
  show fu_J _ _ (fr_X d (some .boolean) k_X12_isSignByte 0 [.ref 117, .int a1] [] s)
  unfold f_X12_isSignByte
  refine fu_go 2 (pc' := 3) (ls' := [.ref 117, .int a1]) (st' := [.int (59 : Int32), .int a1]) (s' := s) rfl ?_
  refine fu_letS (V := fun j1 : Bool => fr_X d (some .boolean) k_X12_isSignByte 29 [am_U, am_U] [.int (fu_b j1)] s) ?_ (fun j1 => ?_)
  · refine fu_iteS (fun h2 => fu_step (fu_ic_eq_t rfl h2) ?_) (fun h2 => fu_step (fu_ic_eq_f rfl h2) ?_)
    · refine fu_go 2 (pc' := 29) (ls' := [.ref 117, .int a1]) (st' := [.int (1 : Int32)]) (s' := s) rfl ?_
      exact fu_leaf rfl ⟨.inl rfl, .inl rfl, trivial⟩
    · refine fu_go 2 (pc' := 9) (ls' := [.ref 117, .int a1]) (st' := [.int (60 : Int32), .int a1]) (s' := s) rfl ?_
      refine fu_iteS (fun h3 => fu_step (fu_ic_eq_t rfl h3) ?_) (fun h3 => fu_step (fu_ic_eq_f rfl h3) ?_)
      · refine fu_go 2 (pc' := 29) (ls' := [.ref 117, .int a1]) (st' := [.int (1 : Int32)]) (s' := s) rfl ?_
        exact fu_leaf rfl ⟨.inl rfl, .inl rfl, trivial⟩
      · refine fu_go 2 (pc' := 15) (ls' := [.ref 117, .int a1]) (st' := [.int (62 : Int32), .int a1]) (s' := s) rfl ?_
        refine fu_iteS (fun h4 => fu_step (fu_ic_eq_t rfl h4) ?_) (fun h4 => fu_step (fu_ic_eq_f rfl h4) ?_)
        · refine fu_go 2 (pc' := 29) (ls' := [.ref 117, .int a1]) (st' := [.int (1 : Int32)]) (s' := s) rfl ?_
          exact fu_leaf rfl ⟨.inl rfl, .inl rfl, trivial⟩
        · refine fu_go 2 (pc' := 21) (ls' := [.ref 117, .int a1]) (st' := [.int (61 : Int32), .int a1]) (s' := s) rfl ?_
          refine fu_iteS (fun h5 => fu_step (fu_ic_ne_t rfl h5) ?_) (fun h5 => fu_step (fu_ic_ne_f rfl h5) ?_)
          · refine fu_go 2 (pc' := 29) (ls' := [.ref 117, .int a1]) (st' := [.int (1 : Int32)]) (s' := s) rfl ?_
            exact fu_leaf rfl ⟨.inl rfl, .inl rfl, trivial⟩
          · refine fu_go 1 (pc' := 29) (ls' := [.ref 117, .int a1]) (st' := [.int (0 : Int32)]) (s' := s) rfl ?_
            exact fu_leaf rfl ⟨.inl rfl, .inl rfl, trivial⟩
  show fu_J _ _ (fr_X d (some .boolean) k_X12_isSignByte 29 [am_U, am_U] [.int (fu_b j1)] s)
  exact fu_bret (b := j1) rfl rfl
/-! X12_advance -/
theorem el_X12_advance_8 (d : Nat) (hd : 1 ≤ d) : ∀ (n : Nat) (s : fu_S), fu_J (l_X12_advance_8 n s) (fun r => fr_X d none k_X12_advance 58 [.ref 117, am_U] [] r) (fr_X d none k_X12_advance 8 [.ref 117, am_U] [] s) := by
  intro n
  induction n with
  | zero => intros; exact fu_none
  | succ n ih =>
    intro s
    rw [l_X12_advance_8]
    refine fu_go 1 (pc' := 9) (ls' := [.ref 117, am_U]) (st' := [.ref 117]) (s' := s) rfl ?_
    refine fu_step (fu_getI rfl fr_117 rfl rfl) ?_
    refine fu_go 1 (pc' := 13) (ls' := [.ref 117, am_U]) (st' := [.ref 117, .int (s.1 117 15)]) (s' := s) rfl ?_
    refine fu_step (fu_getI rfl fr_117 rfl rfl) ?_
    refine fu_ite (fun h2 => fu_step (fu_ic_ge_t rfl h2) ?_) (fun h2 => fu_step (fu_ic_ge_f rfl h2) ?_)
    · refine fu_go 2 (pc' := 21) (ls' := [.ref 117, am_U]) (st' := [.ref 117, .ref 117]) (s' := s) rfl ?_
      refine fu_step (fu_getI rfl fr_117 rfl rfl) ?_
      refine fu_bind (fu_cVJ rfl rfl rfl rfl rfl (fu_recv fr_117 am_at_X12_look2 rfl) (e_X12_look2 d (by omega) s (s.1 117 15))) (fun r3 => ?_)
      show fu_J _ _ (fr_X d none k_X12_advance 27 [.ref 117, am_U] [.int r3] s)
      refine fu_go 1 (pc' := 29) (ls' := [.ref 117, am_U]) (st' := [.int (10 : Int32), .int r3]) (s' := s) rfl ?_
      refine fu_ite (fun h4 => fu_step (fu_ic_eq_t rfl h4) ?_) (fun h4 => fu_step (fu_ic_eq_f rfl h4) ?_)
      · refine fu_go 2 (pc' := 47) (ls' := [.ref 117, am_U]) (st' := [.ref 117, .ref 117]) (s' := s) rfl ?_
        refine fu_step (fu_getI rfl fr_117 rfl rfl) ?_
        refine fu_go 2 (pc' := 52) (ls' := [.ref 117, am_U]) (st' := [.int ((s.1 117 15) + (1 : Int32)), .ref 117]) (s' := s) rfl ?_
        refine fu_lets (b := (fu_pi s 117 15 ((s.1 117 15) + (1 : Int32)))) (fu_putI rfl fr_117 rfl rfl) (fun s5 => ?_)
        refine fu_go 1 (pc' := 8) (ls' := [.ref 117, am_U]) (st' := []) (s' := s5) rfl ?_
        exact fu_drop (ls' := [.ref 117, am_U]) ⟨.inr rfl, .inl rfl, trivial⟩ (ih s5)
      · refine fu_go 2 (pc' := 34) (ls' := [.ref 117, am_U]) (st' := [.ref 117, .ref 117]) (s' := s) rfl ?_
        refine fu_step (fu_getI rfl fr_117 rfl rfl) ?_
        refine fu_bind (fu_cVJ rfl rfl rfl rfl rfl (fu_recv fr_117 am_at_X12_look2 rfl) (e_X12_look2 d (by omega) s (s.1 117 15))) (fun r6 => ?_)
        show fu_J _ _ (fr_X d none k_X12_advance 40 [.ref 117, am_U] [.int r6] s)
        refine fu_go 1 (pc' := 42) (ls' := [.ref 117, am_U]) (st' := [.int (32 : Int32), .int r6]) (s' := s) rfl ?_
        refine fu_ite (fun h7 => fu_step (fu_ic_ne_t rfl h7) ?_) (fun h7 => fu_step (fu_ic_ne_f rfl h7) ?_)
        · refine fu_go 2 (pc' := 47) (ls' := [.ref 117, am_U]) (st' := [.ref 117, .ref 117]) (s' := s) rfl ?_
          refine fu_step (fu_getI rfl fr_117 rfl rfl) ?_
          refine fu_go 2 (pc' := 52) (ls' := [.ref 117, am_U]) (st' := [.int ((s.1 117 15) + (1 : Int32)), .ref 117]) (s' := s) rfl ?_
          refine fu_lets (b := (fu_pi s 117 15 ((s.1 117 15) + (1 : Int32)))) (fu_putI rfl fr_117 rfl rfl) (fun s8 => ?_)
          refine fu_go 1 (pc' := 8) (ls' := [.ref 117, am_U]) (st' := []) (s' := s8) rfl ?_
          exact fu_drop (ls' := [.ref 117, am_U]) ⟨.inr rfl, .inl rfl, trivial⟩ (ih s8)
        · exact fu_leaf rfl ⟨.inr rfl, .inl rfl, trivial⟩
    · exact fu_leaf rfl ⟨.inr rfl, .inl rfl, trivial⟩
theorem el_X12_advance_109 (d : Nat) (hd : 1 ≤ d) : ∀ (n : Nat) (s : fu_S), fu_J (l_X12_advance_109 n s) (fun r => fr_X d none k_X12_advance 182 [.ref 117, am_U] [] r) (fr_X d none k_X12_advance 109 [.ref 117, am_U] [] s) := by
  intro n
  induction n with
  | zero => intros; exact fu_none
  | succ n ih =>
    intro s
    rw [l_X12_advance_109]
    refine fu_go 2 (pc' := 111) (ls' := [.ref 117, am_U]) (st' := [.ref 117, .ref 117]) (s' := s) rfl ?_
    refine fu_step (fu_getI rfl fr_117 rfl rfl) ?_
    refine fu_bind (fu_cVJ rfl rfl rfl rfl rfl (fu_recv fr_117 am_at_X12_look2 rfl) (e_X12_look2 d (by omega) s (s.1 117 16))) (fun r17 => ?_)
    show fu_J _ _ (fr_X d none k_X12_advance 117 [.ref 117, am_U] [.int r17] s)
    refine fu_step (fu_cS rfl rfl rfl rfl rfl rfl (fu_eq (e_X12_isLetter d (by omega) s r17) rfl)) ?_
    show fu_J _ _ (fr_X d none k_X12_advance 120 [.ref 117, am_U] [.int (fu_b (f_X12_isLetter r17))] s)
    refine fu_ite (fun h18 => fu_step (fu_ib_eq_t rfl h18) ?_) (fun h18 => fu_step (fu_ib_eq_f rfl h18) ?_)
    · refine fu_go 2 (pc' := 125) (ls' := [.ref 117, am_U]) (st' := [.ref 117, .ref 117]) (s' := s) rfl ?_
      refine fu_step (fu_getI rfl fr_117 rfl rfl) ?_
      refine fu_go 1 (pc' := 129) (ls' := [.ref 117, am_U]) (st' := [.ref 117, .int (s.1 117 16), .ref 117]) (s' := s) rfl ?_
      refine fu_step (fu_getI rfl fr_117 rfl rfl) ?_
      refine fu_go 2 (pc' := 135) (ls' := [.ref 117, am_U]) (st' := [.int (8 : Int32), .int ((s.1 117 16) - (s.1 117 15)), .ref 117]) (s' := s) rfl ?_
      refine fu_bind (V := fun j19 : Int64 => fr_X d none k_X12_advance 166 [.ref 117, am_U] [.long j19, .ref 117] s) ?_ (fun j19 => ?_)
      · refine fu_ite (fun h20 => fu_step (fu_ic_ge_t rfl h20) ?_) (fun h20 => fu_step (fu_ic_ge_f rfl h20) ?_)
        · refine fu_go 1 (pc' := 139) (ls' := [.ref 117, am_U]) (st' := [.ref 117, .ref 117]) (s' := s) rfl ?_
          refine fu_step (fu_getL rfl fr_117 rfl rfl) ?_
          refine fu_go 4 (pc' := 148) (ls' := [.ref 117, am_U]) (st' := [.ref 117, .ref 117, .long ((s.2 117 19) * (32 : Int64)), .ref 117]) (s' := s) rfl ?_
          refine fu_step (fu_getI rfl fr_117 rfl rfl) ?_
          refine fu_bind (fu_cVJ rfl rfl rfl rfl rfl (fu_recv fr_117 am_at_X12_look2 rfl) (e_X12_look2 d (by omega) s (s.1 117 16))) (fun r21 => ?_)
          show fu_J _ _ (fr_X d none k_X12_advance 154 [.ref 117, am_U] [.int r21, .long ((s.2 117 19) * (32 : Int64)), .ref 117] s)
          refine fu_go 5 (pc' := 166) (ls' := [.ref 117, am_U]) (st' := [.long ((((s.2 117 19) * (32 : Int64)) + (Int32.toInt64 r21)) - (96 : Int64)), .ref 117]) (s' := s) rfl ?_
          exact fu_leaf rfl ⟨.inr rfl, .inl rfl, trivial⟩
        · refine fu_go 1 (pc' := 166) (ls' := [.ref 117, am_U]) (st' := [.long (-1 : Int64), .ref 117]) (s' := s) rfl ?_
          exact fu_leaf rfl ⟨.inr rfl, .inl rfl, trivial⟩
      show fu_J _ _ (fr_X d none k_X12_advance 166 [.ref 117, am_U] [.long j19, .ref 117] s)
      refine fu_lets (b := (fu_pl s 117 19 j19)) (fu_putL rfl fr_117 rfl rfl) (fun s22 => ?_)
      refine fu_go 2 (pc' := 171) (ls' := [.ref 117, am_U]) (st' := [.ref 117, .ref 117]) (s' := s22) rfl ?_
      refine fu_step (fu_getI rfl fr_117 rfl rfl) ?_
      refine fu_go 2 (pc' := 176) (ls' := [.ref 117, am_U]) (st' := [.int ((s22.1 117 16) + (1 : Int32)), .ref 117]) (s' := s22) rfl ?_
      refine fu_lets (b := (fu_pi s22 117 16 ((s22.1 117 16) + (1 : Int32)))) (fu_putI rfl fr_117 rfl rfl) (fun s23 => ?_)
      refine fu_go 1 (pc' := 109) (ls' := [.ref 117, am_U]) (st' := []) (s' := s23) rfl ?_
      exact fu_drop (ls' := [.ref 117, am_U]) ⟨.inr rfl, .inl rfl, trivial⟩ (ih s23)
    · exact fu_leaf rfl ⟨.inr rfl, .inl rfl, trivial⟩
theorem el_X12_advance_210 (d : Nat) (hd : 1 ≤ d) : ∀ (n : Nat) (s : fu_S), fu_J (l_X12_advance_210 n s) (fun r => fr_X d none k_X12_advance 273 [.ref 117, am_U] [] r) (fr_X d none k_X12_advance 210 [.ref 117, am_U] [] s) := by
  intro n
  induction n with
  | zero => intros; exact fu_none
  | succ n ih =>
    intro s
    rw [l_X12_advance_210]
    refine fu_go 2 (pc' := 212) (ls' := [.ref 117, am_U]) (st' := [.ref 117, .ref 117]) (s' := s) rfl ?_
    refine fu_step (fu_getI rfl fr_117 rfl rfl) ?_
    refine fu_bind (fu_cVJ rfl rfl rfl rfl rfl (fu_recv fr_117 am_at_X12_look2 rfl) (e_X12_look2 d (by omega) s (s.1 117 16))) (fun r28 => ?_)
    show fu_J _ _ (fr_X d none k_X12_advance 218 [.ref 117, am_U] [.int r28] s)
    refine fu_step (fu_cS rfl rfl rfl rfl rfl rfl (fu_eq (e_X12_isDigit d (by omega) s r28) rfl)) ?_
    show fu_J _ _ (fr_X d none k_X12_advance 221 [.ref 117, am_U] [.int (fu_b (f_X12_isDigit r28))] s)
    refine fu_ite (fun h29 => fu_step (fu_ib_eq_t rfl h29) ?_) (fun h29 => fu_step (fu_ib_eq_f rfl h29) ?_)
    · refine fu_go 1 (pc' := 225) (ls' := [.ref 117, am_U]) (st' := [.ref 117]) (s' := s) rfl ?_
      refine fu_step (fu_getI rfl fr_117 rfl rfl) ?_
      refine fu_go 1 (pc' := 229) (ls' := [.ref 117, am_U]) (st' := [.ref 117, .int (s.1 117 16)]) (s' := s) rfl ?_
      refine fu_step (fu_getI rfl fr_117 rfl rfl) ?_
      refine fu_go 2 (pc' := 234) (ls' := [.ref 117, am_U]) (st' := [.int (4 : Int32), .int ((s.1 117 16) - (s.1 117 15))]) (s' := s) rfl ?_
      refine fu_bind (V := fun j30 : fu_S => fr_X d none k_X12_advance 260 [.ref 117, am_U] [] j30) ?_ (fun j30 => ?_)
      · refine fu_ite (fun h31 => fu_step (fu_ic_ge_t rfl h31) ?_) (fun h31 => fu_step (fu_ic_ge_f rfl h31) ?_)
        · refine fu_go 3 (pc' := 241) (ls' := [.ref 117, am_U]) (st' := [.ref 117, .int (10 : Int32), .ref 117]) (s' := s) rfl ?_
          refine fu_step (fu_getI rfl fr_117 rfl rfl) ?_
          refine fu_go 3 (pc' := 247) (ls' := [.ref 117, am_U]) (st' := [.ref 117, .ref 117, .int ((10 : Int32) * (s.1 117 17)), .ref 117]) (s' := s) rfl ?_
          refine fu_step (fu_getI rfl fr_117 rfl rfl) ?_
          refine fu_bind (fu_cVJ rfl rfl rfl rfl rfl (fu_recv fr_117 am_at_X12_look2 rfl) (e_X12_look2 d (by omega) s (s.1 117 16))) (fun r32 => ?_)
          show fu_J _ _ (fr_X d none k_X12_advance 253 [.ref 117, am_U] [.int r32, .int ((10 : Int32) * (s.1 117 17)), .ref 117] s)
          refine fu_go 3 (pc' := 257) (ls' := [.ref 117, am_U]) (st' := [.int ((((10 : Int32) * (s.1 117 17)) + r32) - (48 : Int32)), .ref 117]) (s' := s) rfl ?_
          refine fu_lets (b := (fu_pi s 117 17 ((((10 : Int32) * (s.1 117 17)) + r32) - (48 : Int32)))) (fu_putI rfl fr_117 rfl rfl) (fun s33 => ?_)
          exact fu_leaf rfl ⟨.inr rfl, .inl rfl, trivial⟩
        · exact fu_leaf rfl ⟨.inr rfl, .inl rfl, trivial⟩
      show fu_J _ _ (fr_X d none k_X12_advance 260 [.ref 117, am_U] [] j30)
      refine fu_go 2 (pc' := 262) (ls' := [.ref 117, am_U]) (st' := [.ref 117, .ref 117]) (s' := j30) rfl ?_
      refine fu_step (fu_getI rfl fr_117 rfl rfl) ?_
      refine fu_go 2 (pc' := 267) (ls' := [.ref 117, am_U]) (st' := [.int ((j30.1 117 16) + (1 : Int32)), .ref 117]) (s' := j30) rfl ?_
      refine fu_lets (b := (fu_pi j30 117 16 ((j30.1 117 16) + (1 : Int32)))) (fu_putI rfl fr_117 rfl rfl) (fun s34 => ?_)
      refine fu_go 1 (pc' := 210) (ls' := [.ref 117, am_U]) (st' := []) (s' := s34) rfl ?_
      exact fu_drop (ls' := [.ref 117, am_U]) ⟨.inr rfl, .inl rfl, trivial⟩ (ih s34)
    · exact fu_leaf rfl ⟨.inr rfl, .inl rfl, trivial⟩
set_option maxRecDepth 100000 in
theorem e_X12_advance (d : Nat) (hd : 2 ≤ d) (s : fu_S) : fu_J (f_X12_advance s) (fun r => some (none, r)) (am_D (fu_ho fr_sh) am_m d 256 [.ref 117] s) := by
  obtain ⟨d, rfl⟩ : ∃ e, d = e + 1 := ⟨d - 1, by omega⟩
  refine fu_enter (ls := [.ref 117, am_U]) am_at_X12_advance rfl rfl ?_
  show fu_J _ _ (fr_X d none k_X12_advance 0 [.ref 117, am_U] [] s)
  unfold f_X12_advance
  refine fu_go 2 (pc' := 2) (ls' := [.ref 117, am_U]) (st' := [.ref 117, .ref 117]) (s' := s) rfl ?_
  refine fu_step (fu_getI rfl fr_117 rfl rfl) ?_
  refine fu_lets (b := (fu_pi s 117 15 (s.1 117 16))) (fu_putI rfl fr_117 rfl rfl) (fun s1 => ?_)
  refine fu_drop (ls' := [.ref 117, am_U]) ⟨.inr rfl, .inl rfl, trivial⟩ ?_
  refine fu_bind (el_X12_advance_8 d (by omega) fu_N s1) (fun r9 => ?_)
  show fu_J _ _ (fr_X d none k_X12_advance 58 [.ref 117, am_U] [] r9)
  refine fu_go 2 (pc' := 60) (ls' := [.ref 117, am_U]) (st' := [.ref 117, .ref 117]) (s' := r9) rfl ?_
  refine fu_step (fu_getI rfl fr_117 rfl rfl) ?_
  refine fu_lets (b := (fu_pi r9 117 16 (r9.1 117 15))) (fu_putI rfl fr_117 rfl rfl) (fun s10 => ?_)
  refine fu_go 1 (pc' := 67) (ls' := [.ref 117, am_U]) (st' := [.ref 117]) (s' := s10) rfl ?_
  refine fu_step (fu_getI rfl fr_117 rfl rfl) ?_
  refine fu_go 1 (pc' := 71) (ls' := [.ref 117, am_U]) (st' := [.ref 117, .int (s10.1 117 15)]) (s' := s10) rfl ?_
  refine fu_step (fu_getI rfl fr_117 rfl rfl) ?_
  refine fu_ite (fun h11 => fu_step (fu_ic_lt_t rfl h11) ?_) (fun h11 => fu_step (fu_ic_lt_f rfl h11) ?_)
  · refine fu_go 2 (pc' := 85) (ls' := [.ref 117, am_U]) (st' := [.ref 117, .ref 117]) (s' := s10) rfl ?_
    refine fu_step (fu_getI rfl fr_117 rfl rfl) ?_
    refine fu_bind (fu_cVJ rfl rfl rfl rfl rfl (fu_recv fr_117 am_at_X12_look2 rfl) (e_X12_look2 d (by omega) s10 (s10.1 117 15))) (fun r12 => ?_)
    show fu_J _ _ (fr_X d none k_X12_advance 91 [.ref 117, am_U] [.int r12] s10)
    refine fu_go 2 (pc' := 93) (ls' := [.ref 117, .int r12]) (st' := [.int r12]) (s' := s10) rfl ?_
    refine fu_step (fu_cS rfl rfl rfl rfl rfl rfl (fu_eq (e_X12_isLetter d (by omega) s10 r12) rfl)) ?_
    show fu_J _ _ (fr_X d none k_X12_advance 96 [.ref 117, .int r12] [.int (fu_b (f_X12_isLetter r12))] s10)
    refine fu_bind (V := fun j13 : fu_S => fr_X d none k_X12_advance 330 [am_U, am_U] [] j13) ?_ (fun j13 => ?_)
    · refine fu_ite (fun h14 => fu_step (fu_ib_eq_t rfl h14) ?_) (fun h14 => fu_step (fu_ib_eq_f rfl h14) ?_)
      · refine fu_go 2 (pc' := 101) (ls' := [.ref 117, .int r12]) (st' := [.int (1 : Int32), .ref 117]) (s' := s10) rfl ?_
        refine fu_lets (b := (fu_pi s10 117 14 (1 : Int32))) (fu_putI rfl fr_117 rfl rfl) (fun s15 => ?_)
        refine fu_go 2 (pc' := 106) (ls' := [.ref 117, .int r12]) (st' := [.long (0 : Int64), .ref 117]) (s' := s15) rfl ?_
        refine fu_lets (b := (fu_pl s15 117 19 (0 : Int64))) (fu_putL rfl fr_117 rfl rfl) (fun s16 => ?_)
        refine fu_drop (ls' := [.ref 117, am_U]) ⟨.inr rfl, .inl rfl, trivial⟩ ?_
        refine fu_bind (el_X12_advance_109 d (by omega) fu_N s16) (fun r24 => ?_)
        show fu_J _ _ (fr_X d none k_X12_advance 182 [.ref 117, am_U] [] r24)
        refine fu_go 2 (pc' := 184) (ls' := [.ref 117, am_U]) (st' := [.ref 117, .ref 117]) (s' := r24) rfl ?_
        refine fu_step (fu_getI rfl fr_117 rfl rfl) ?_
        refine fu_go 1 (pc' := 188) (ls' := [.ref 117, am_U]) (st' := [.ref 117, .int (r24.1 117 16), .ref 117]) (s' := r24) rfl ?_
        refine fu_step (fu_getI rfl fr_117 rfl rfl) ?_
        refine fu_go 1 (pc' := 192) (ls' := [.ref 117, am_U]) (st' := [.int ((r24.1 117 16) - (r24.1 117 15)), .ref 117]) (s' := r24) rfl ?_
        refine fu_lets (b := (fu_pi r24 117 18 ((r24.1 117 16) - (r24.1 117 15)))) (fu_putI rfl fr_117 rfl rfl) (fun s25 => ?_)
        refine fu_go 1 (pc' := 330) (ls' := [.ref 117, am_U]) (st' := []) (s' := s25) rfl ?_
        exact fu_leaf rfl ⟨.inl rfl, .inl rfl, trivial⟩
      · refine fu_go 1 (pc' := 199) (ls' := [.ref 117, .int r12]) (st' := [.int r12]) (s' := s10) rfl ?_
        refine fu_step (fu_cS rfl rfl rfl rfl rfl rfl (fu_eq (e_X12_isDigit d (by omega) s10 r12) rfl)) ?_
        show fu_J _ _ (fr_X d none k_X12_advance 202 [.ref 117, .int r12] [.int (fu_b (f_X12_isDigit r12))] s10)
        refine fu_ite (fun h26 => fu_step (fu_ib_eq_t rfl h26) ?_) (fun h26 => fu_step (fu_ib_eq_f rfl h26) ?_)
        · refine fu_go 2 (pc' := 207) (ls' := [.ref 117, .int r12]) (st' := [.int (0 : Int32), .ref 117]) (s' := s10) rfl ?_
          refine fu_lets (b := (fu_pi s10 117 17 (0 : Int32))) (fu_putI rfl fr_117 rfl rfl) (fun s27 => ?_)
          refine fu_drop (ls' := [.ref 117, am_U]) ⟨.inr rfl, .inl rfl, trivial⟩ ?_
          refine fu_bind (el_X12_advance_210 d (by omega) fu_N s27) (fun r35 => ?_)
          show fu_J _ _ (fr_X d none k_X12_advance 273 [.ref 117, am_U] [] r35)
          refine fu_go 2 (pc' := 275) (ls' := [.ref 117, am_U]) (st' := [.ref 117, .ref 117]) (s' := r35) rfl ?_
          refine fu_step (fu_getI rfl fr_117 rfl rfl) ?_
          refine fu_go 1 (pc' := 279) (ls' := [.ref 117, am_U]) (st' := [.ref 117, .int (r35.1 117 16), .ref 117]) (s' := r35) rfl ?_
          refine fu_step (fu_getI rfl fr_117 rfl rfl) ?_
          refine fu_go 2 (pc' := 284) (ls' := [.ref 117, am_U]) (st' := [.int (4 : Int32), .int ((r35.1 117 16) - (r35.1 117 15)), .ref 117]) (s' := r35) rfl ?_
          refine fu_bind (V := fun j36 : Int32 => fr_X d none k_X12_advance 292 [am_U, am_U] [.int j36, .ref 117] r35) ?_ (fun j36 => ?_)
          · refine fu_ite (fun h37 => fu_step (fu_ic_le_t rfl h37) ?_) (fun h37 => fu_step (fu_ic_le_f rfl h37) ?_)
            · refine fu_go 1 (pc' := 292) (ls' := [.ref 117, am_U]) (st' := [.int (2 : Int32), .ref 117]) (s' := r35) rfl ?_
              exact fu_leaf rfl ⟨.inl rfl, .inl rfl, trivial⟩
            · refine fu_go 2 (pc' := 292) (ls' := [.ref 117, am_U]) (st' := [.int (4 : Int32), .ref 117]) (s' := r35) rfl ?_
              exact fu_leaf rfl ⟨.inl rfl, .inl rfl, trivial⟩
          show fu_J _ _ (fr_X d none k_X12_advance 292 [am_U, am_U] [.int j36, .ref 117] r35)
          refine fu_lets (b := (fu_pi r35 117 14 j36)) (fu_putI rfl fr_117 rfl rfl) (fun s38 => ?_)
          refine fu_go 1 (pc' := 330) (ls' := [am_U, am_U]) (st' := []) (s' := s38) rfl ?_
          exact fu_leaf rfl ⟨.inl rfl, .inl rfl, trivial⟩
        · refine fu_go 2 (pc' := 300) (ls' := [.ref 117, .int r12]) (st' := [.ref 117, .ref 117]) (s' := s10) rfl ?_
          refine fu_step (fu_getI rfl fr_117 rfl rfl) ?_
          refine fu_go 2 (pc' := 305) (ls' := [.ref 117, .int r12]) (st' := [.int ((s10.1 117 15) + (1 : Int32)), .ref 117]) (s' := s10) rfl ?_
          refine fu_lets (b := (fu_pi s10 117 16 ((s10.1 117 15) + (1 : Int32)))) (fu_putI rfl fr_117 rfl rfl) (fun s39 => ?_)
          refine fu_go 2 (pc' := 310) (ls' := [.ref 117, .int r12]) (st' := [.int r12, .ref 117]) (s' := s39) rfl ?_
          refine fu_lets (b := (fu_pi s39 117 17 r12)) (fu_putI rfl fr_117 rfl rfl) (fun s40 => ?_)
          refine fu_go 3 (pc' := 316) (ls' := [.ref 117, .int r12]) (st' := [.int r12, .ref 117, .ref 117]) (s' := s40) rfl ?_
          refine fu_step (fu_cV rfl rfl rfl rfl rfl (fu_recv fr_117 am_at_X12_isSignByte rfl) (fu_eq (e_X12_isSignByte d (by omega) s40 r12) rfl)) ?_
          show fu_J _ _ (fr_X d none k_X12_advance 319 [.ref 117, .int r12] [.int (fu_b (f_X12_isSignByte r12)), .ref 117] s40)
          refine fu_bind (V := fun j41 : Int32 => fr_X d none k_X12_advance 327 [am_U, am_U] [.int j41, .ref 117] s40) ?_ (fun j41 => ?_)
          · refine fu_ite (fun h42 => fu_step (fu_ib_eq_t rfl h42) ?_) (fun h42 => fu_step (fu_ib_eq_f rfl h42) ?_)
            · refine fu_go 2 (pc' := 327) (ls' := [.ref 117, .int r12]) (st' := [.int (3 : Int32), .ref 117]) (s' := s40) rfl ?_
              exact fu_leaf rfl ⟨.inl rfl, .inl rfl, trivial⟩
            · refine fu_go 1 (pc' := 327) (ls' := [.ref 117, .int r12]) (st' := [.int (4 : Int32), .ref 117]) (s' := s40) rfl ?_
              exact fu_leaf rfl ⟨.inl rfl, .inl rfl, trivial⟩
          show fu_J _ _ (fr_X d none k_X12_advance 327 [am_U, am_U] [.int j41, .ref 117] s40)
          refine fu_lets (b := (fu_pi s40 117 14 j41)) (fu_putI rfl fr_117 rfl rfl) (fun s43 => ?_)
          exact fu_leaf rfl ⟨.inl rfl, .inl rfl, trivial⟩
    show fu_J _ _ (fr_X d none k_X12_advance 330 [am_U, am_U] [] j13)
    exact fu_vret rfl rfl
  · refine fu_go 2 (pc' := 79) (ls' := [.ref 117, am_U]) (st' := [.int (0 : Int32), .ref 117]) (s' := s10) rfl ?_
    refine fu_lets (b := (fu_pi s10 117 14 (0 : Int32))) (fu_putI rfl fr_117 rfl rfl) (fun s44 => ?_)
    exact fu_vret rfl rfl
/-! X12_isSign -/
set_option maxRecDepth 100000 in
theorem e_X12_isSign (d : Nat) (hd : 1 ≤ d) (s : fu_S) (a1 : Int32) : fu_J (some (f_X12_isSign s a1)) (fun r => some (some (.int (fu_b r)), s)) (am_D (fu_ho fr_sh) am_m d 257 [.ref 117, .int a1] s) := by
  obtain ⟨d, rfl⟩ : ∃ e, d = e + 1 := ⟨d - 1, by omega⟩
  refine fu_enter (ls := [.ref 117, .int a1]) am_at_X12_isSign rfl rfl ?_
  show fu_J _ _ (fr_X d (some .boolean) k_X12_isSign 0 [.ref 117, .int a1] [] s)
  unfold f_X12_isSign
  refine fu_go 1 (pc' := 1) (ls' := [.ref 117, .int a1]) (st' := [.ref 117]) (s' := s) rfl ?_
  refine fu_step (fu_getI rfl fr_117 rfl rfl) ?_
  refine fu_go 1 (pc' := 5) (ls' := [.ref 117, .int a1]) (st' := [.int (3 : Int32), .int (s.1 117 14)]) (s' := s) rfl ?_
  refine fu_letS (V := fun j1 : Bool => fr_X d (some .boolean) k_X12_isSign 21 [am_U, am_U] [.int (fu_b j1)] s) ?_ (fun j1 => ?_)
  · refine fu_iteS (fun h2 => fu_step (fu_ic_ne_t rfl h2) ?_) (fun h2 => fu_step (fu_ic_ne_f rfl h2) ?_)
    · refine fu_go 1 (pc' := 9) (ls' := [.ref 117, .int a1]) (st' := [.ref 117]) (s' := s) rfl ?_
      refine fu_step (fu_getI rfl fr_117 rfl rfl) ?_
      refine fu_go 1 (pc' := 13) (ls' := [.ref 117, .int a1]) (st' := [.int a1, .int (s.1 117 17)]) (s' := s) rfl ?_
      refine fu_iteS (fun h3 => fu_step (fu_ic_ne_t rfl h3) ?_) (fun h3 => fu_step (fu_ic_ne_f rfl h3) ?_)
      · refine fu_go 2 (pc' := 21) (ls' := [.ref 117, .int a1]) (st' := [.int (1 : Int32)]) (s' := s) rfl ?_
        exact fu_leaf rfl ⟨.inl rfl, .inl rfl, trivial⟩
      · refine fu_go 1 (pc' := 21) (ls' := [.ref 117, .int a1]) (st' := [.int (0 : Int32)]) (s' := s) rfl ?_
        exact fu_leaf rfl ⟨.inl rfl, .inl rfl, trivial⟩
    · refine fu_go 1 (pc' := 21) (ls' := [.ref 117, .int a1]) (st' := [.int (0 : Int32)]) (s' := s) rfl ?_
      exact fu_leaf rfl ⟨.inl rfl, .inl rfl, trivial⟩
  show fu_J _ _ (fr_X d (some .boolean) k_X12_isSign 21 [am_U, am_U] [.int (fu_b j1)] s)
  exact fu_bret (b := j1) rfl rfl
/-! X12_spelled -/
set_option maxRecDepth 100000 in
theorem e_X12_spelled (d : Nat) (hd : 1 ≤ d) (s : fu_S) (a0 : Int32) (a1 : Int32) (a2 : Int32) (a3 : Int32) (a4 : Int32) (a5 : Int32) : fu_J (some (f_X12_spelled a0 a1 a2 a3 a4 a5)) (fun r => some (some (.long r), s)) (am_D (fu_ho fr_sh) am_m d 258 [.int a0, .int a1, .int a2, .int a3, .int a4, .int a5] s) := by
  obtain ⟨d, rfl⟩ : ∃ e, d = e + 1 := ⟨d - 1, by omega⟩
  refine fu_enter (ls := [.int a0, .int a1, .int a2, .int a3, .int a4, .int a5, am_U, am_U]) am_at_X12_spelled rfl rfl ?_
  show fu_J _ _ (fr_X d (some .long) k_X12_spelled 0 [.int a0, .int a1, .int a2, .int a3, .int a4, .int a5, am_U, am_U] [] s)
  unfold f_X12_spelled
  refine fu_go 13 (pc' := 20) (ls' := [.int a0, .int a1, .int a2, .int a3, .int a4, .int a5, .long (((((Int32.toInt64 a0) - (96 : Int64)) * (32 : Int64)) + (Int32.toInt64 a1)) - (96 : Int64)), am_U]) (st' := [.int a2]) (s' := s) rfl ?_
  refine fu_letS (V := fun j1 : Int64 => fr_X d (some .long) k_X12_spelled 41 [am_U, am_U, am_U, .int a3, .int a4, .int a5, am_U, am_U] [.long j1] s) ?_ (fun j1 => ?_)
  · refine fu_iteS (fun h2 => fu_step (fu_if_le_t rfl h2) ?_) (fun h2 => fu_step (fu_if_le_f rfl h2) ?_)
    · refine fu_go 1 (pc' := 41) (ls' := [.int a0, .int a1, .int a2, .int a3, .int a4, .int a5, .long (((((Int32.toInt64 a0) - (96 : Int64)) * (32 : Int64)) + (Int32.toInt64 a1)) - (96 : Int64)), am_U]) (st' := [.long (((((Int32.toInt64 a0) - (96 : Int64)) * (32 : Int64)) + (Int32.toInt64 a1)) - (96 : Int64))]) (s' := s) rfl ?_
      exact fu_leaf rfl ⟨.inl rfl, .inl rfl, .inl rfl, .inr rfl, .inr rfl, .inr rfl, .inl rfl, .inl rfl, trivial⟩
    · refine fu_go 9 (pc' := 41) (ls' := [.int a0, .int a1, .int a2, .int a3, .int a4, .int a5, .long (((((Int32.toInt64 a0) - (96 : Int64)) * (32 : Int64)) + (Int32.toInt64 a1)) - (96 : Int64)), am_U]) (st' := [.long ((((((((Int32.toInt64 a0) - (96 : Int64)) * (32 : Int64)) + (Int32.toInt64 a1)) - (96 : Int64)) * (32 : Int64)) + (Int32.toInt64 a2)) - (96 : Int64))]) (s' := s) rfl ?_
      exact fu_leaf rfl ⟨.inl rfl, .inl rfl, .inl rfl, .inr rfl, .inr rfl, .inr rfl, .inl rfl, .inl rfl, trivial⟩
  show fu_J _ _ (fr_X d (some .long) k_X12_spelled 41 [am_U, am_U, am_U, .int a3, .int a4, .int a5, am_U, am_U] [.long j1] s)
  refine fu_go 2 (pc' := 44) (ls' := [am_U, am_U, am_U, .int a3, .int a4, .int a5, .long j1, am_U]) (st' := [.int a3]) (s' := s) rfl ?_
  refine fu_letS (V := fun j3 : Int64 => fr_X d (some .long) k_X12_spelled 65 [am_U, am_U, am_U, am_U, .int a4, .int a5, am_U, am_U] [.long j3] s) ?_ (fun j3 => ?_)
  · refine fu_iteS (fun h4 => fu_step (fu_if_le_t rfl h4) ?_) (fun h4 => fu_step (fu_if_le_f rfl h4) ?_)
    · refine fu_go 1 (pc' := 65) (ls' := [am_U, am_U, am_U, .int a3, .int a4, .int a5, .long j1, am_U]) (st' := [.long j1]) (s' := s) rfl ?_
      exact fu_leaf rfl ⟨.inl rfl, .inl rfl, .inl rfl, .inl rfl, .inr rfl, .inr rfl, .inl rfl, .inl rfl, trivial⟩
    · refine fu_go 9 (pc' := 65) (ls' := [am_U, am_U, am_U, .int a3, .int a4, .int a5, .long j1, am_U]) (st' := [.long (((j1 * (32 : Int64)) + (Int32.toInt64 a3)) - (96 : Int64))]) (s' := s) rfl ?_
      exact fu_leaf rfl ⟨.inl rfl, .inl rfl, .inl rfl, .inl rfl, .inr rfl, .inr rfl, .inl rfl, .inl rfl, trivial⟩
  show fu_J _ _ (fr_X d (some .long) k_X12_spelled 65 [am_U, am_U, am_U, am_U, .int a4, .int a5, am_U, am_U] [.long j3] s)
  refine fu_go 2 (pc' := 69) (ls' := [am_U, am_U, am_U, am_U, .int a4, .int a5, .long j3, am_U]) (st' := [.int a4]) (s' := s) rfl ?_
  refine fu_letS (V := fun j5 : Int64 => fr_X d (some .long) k_X12_spelled 91 [am_U, am_U, am_U, am_U, am_U, .int a5, am_U, am_U] [.long j5] s) ?_ (fun j5 => ?_)
  · refine fu_iteS (fun h6 => fu_step (fu_if_le_t rfl h6) ?_) (fun h6 => fu_step (fu_if_le_f rfl h6) ?_)
    · refine fu_go 1 (pc' := 91) (ls' := [am_U, am_U, am_U, am_U, .int a4, .int a5, .long j3, am_U]) (st' := [.long j3]) (s' := s) rfl ?_
      exact fu_leaf rfl ⟨.inl rfl, .inl rfl, .inl rfl, .inl rfl, .inl rfl, .inr rfl, .inl rfl, .inl rfl, trivial⟩
    · refine fu_go 9 (pc' := 91) (ls' := [am_U, am_U, am_U, am_U, .int a4, .int a5, .long j3, am_U]) (st' := [.long (((j3 * (32 : Int64)) + (Int32.toInt64 a4)) - (96 : Int64))]) (s' := s) rfl ?_
      exact fu_leaf rfl ⟨.inl rfl, .inl rfl, .inl rfl, .inl rfl, .inl rfl, .inr rfl, .inl rfl, .inl rfl, trivial⟩
  show fu_J _ _ (fr_X d (some .long) k_X12_spelled 91 [am_U, am_U, am_U, am_U, am_U, .int a5, am_U, am_U] [.long j5] s)
  refine fu_go 2 (pc' := 95) (ls' := [am_U, am_U, am_U, am_U, am_U, .int a5, .long j5, am_U]) (st' := [.int a5]) (s' := s) rfl ?_
  refine fu_letS (V := fun j7 : Int64 => fr_X d (some .long) k_X12_spelled 117 [am_U, am_U, am_U, am_U, am_U, am_U, am_U, am_U] [.long j7] s) ?_ (fun j7 => ?_)
  · refine fu_iteS (fun h8 => fu_step (fu_if_le_t rfl h8) ?_) (fun h8 => fu_step (fu_if_le_f rfl h8) ?_)
    · refine fu_go 1 (pc' := 117) (ls' := [am_U, am_U, am_U, am_U, am_U, .int a5, .long j5, am_U]) (st' := [.long j5]) (s' := s) rfl ?_
      exact fu_leaf rfl ⟨.inl rfl, .inl rfl, .inl rfl, .inl rfl, .inl rfl, .inl rfl, .inl rfl, .inl rfl, trivial⟩
    · refine fu_go 9 (pc' := 117) (ls' := [am_U, am_U, am_U, am_U, am_U, .int a5, .long j5, am_U]) (st' := [.long (((j5 * (32 : Int64)) + (Int32.toInt64 a5)) - (96 : Int64))]) (s' := s) rfl ?_
      exact fu_leaf rfl ⟨.inl rfl, .inl rfl, .inl rfl, .inl rfl, .inl rfl, .inl rfl, .inl rfl, .inl rfl, trivial⟩
  show fu_J _ _ (fr_X d (some .long) k_X12_spelled 117 [am_U, am_U, am_U, am_U, am_U, am_U, am_U, am_U] [.long j7] s)
  exact fu_lret rfl rfl
/-! X12_isWord -/
set_option maxRecDepth 100000 in
theorem e_X12_isWord (d : Nat) (hd : 1 ≤ d) (s : fu_S) (a1 : Int64) : fu_J (some (f_X12_isWord s a1)) (fun r => some (some (.int (fu_b r)), s)) (am_D (fu_ho fr_sh) am_m d 259 [.ref 117, .long a1] s) := by
  obtain ⟨d, rfl⟩ : ∃ e, d = e + 1 := ⟨d - 1, by omega⟩
  refine fu_enter (ls := [.ref 117, .long a1, am_U]) am_at_X12_isWord rfl rfl ?_
  show fu_J _ _ (fr_X d (some .boolean) k_X12_isWord 0 [.ref 117, .long a1, am_U] [] s)
  unfold f_X12_isWord
  refine fu_go 1 (pc' := 1) (ls' := [.ref 117, .long a1, am_U]) (st' := [.ref 117]) (s' := s) rfl ?_
  refine fu_step (fu_getI rfl fr_117 rfl rfl) ?_
  refine fu_go 1 (pc' := 5) (ls' := [.ref 117, .long a1, am_U]) (st' := [.int (1 : Int32), .int (s.1 117 14)]) (s' := s) rfl ?_
  refine fu_letS (V := fun j1 : Bool => fr_X d (some .boolean) k_X12_isWord 22 [am_U, am_U, am_U] [.int (fu_b j1)] s) ?_ (fun j1 => ?_)
  · refine fu_iteS (fun h2 => fu_step (fu_ic_ne_t rfl h2) ?_) (fun h2 => fu_step (fu_ic_ne_f rfl h2) ?_)
    · refine fu_go 1 (pc' := 9) (ls' := [.ref 117, .long a1, am_U]) (st' := [.ref 117]) (s' := s) rfl ?_
      refine fu_step (fu_getL rfl fr_117 rfl rfl) ?_
      refine fu_go 1 (pc' := 13) (ls' := [.ref 117, .long a1, am_U]) (st' := [.long a1, .long (s.2 117 19)]) (s' := s) rfl ?_
      refine fu_iteS (fun h3 => fu_step (fu_lc_ne_t rfl rfl h3) ?_) (fun h3 => fu_step (fu_lc_ne_f rfl rfl h3) ?_)
      · refine fu_go 2 (pc' := 22) (ls' := [.ref 117, .long a1, am_U]) (st' := [.int (1 : Int32)]) (s' := s) rfl ?_
        exact fu_leaf rfl ⟨.inl rfl, .inl rfl, .inl rfl, trivial⟩
      · refine fu_go 1 (pc' := 22) (ls' := [.ref 117, .long a1, am_U]) (st' := [.int (0 : Int32)]) (s' := s) rfl ?_
        exact fu_leaf rfl ⟨.inl rfl, .inl rfl, .inl rfl, trivial⟩
    · refine fu_go 1 (pc' := 22) (ls' := [.ref 117, .long a1, am_U]) (st' := [.int (0 : Int32)]) (s' := s) rfl ?_
      exact fu_leaf rfl ⟨.inl rfl, .inl rfl, .inl rfl, trivial⟩
  show fu_J _ _ (fr_X d (some .boolean) k_X12_isWord 22 [am_U, am_U, am_U] [.int (fu_b j1)] s)
  exact fu_bret (b := j1) rfl rfl
/-! X12_isOdds -/
set_option maxRecDepth 100000 in
theorem e_X12_isOdds (d : Nat) (hd : 2 ≤ d) (s : fu_S) : fu_J (some (f_X12_isOdds s)) (fun r => some (some (.int (fu_b r)), s)) (am_D (fu_ho fr_sh) am_m d 260 [.ref 117] s) := by
  obtain ⟨d, rfl⟩ : ∃ e, d = e + 1 := ⟨d - 1, by omega⟩
  refine fu_enter (ls := [.ref 117]) am_at_X12_isOdds rfl rfl ?_
  show fu_J _ _ (fr_X d (some .boolean) k_X12_isOdds 0 [.ref 117] [] s)
  unfold f_X12_isOdds
  refine fu_go 7 (pc' := 11) (ls' := [.ref 117]) (st' := [.int (0 : Int32), .int (0 : Int32), .int (115 : Int32), .int (100 : Int32), .int (100 : Int32), .int (111 : Int32), .ref 117]) (s' := s) rfl ?_
  refine fu_step (fu_cS rfl rfl rfl rfl rfl rfl (fu_eq (e_X12_spelled d (by omega) s (111 : Int32) (100 : Int32) (100 : Int32) (115 : Int32) (0 : Int32) (0 : Int32)) rfl)) ?_
  show fu_J _ _ (fr_X d (some .boolean) k_X12_isOdds 14 [.ref 117] [.long (f_X12_spelled (111 : Int32) (100 : Int32) (100 : Int32) (115 : Int32) (0 : Int32) (0 : Int32)), .ref 117] s)
  refine fu_step (fu_cV rfl rfl rfl rfl rfl (fu_recv fr_117 am_at_X12_isWord rfl) (fu_eq (e_X12_isWord d (by omega) s (f_X12_spelled (111 : Int32) (100 : Int32) (100 : Int32) (115 : Int32) (0 : Int32) (0 : Int32))) rfl)) ?_
  show fu_J _ _ (fr_X d (some .boolean) k_X12_isOdds 17 [.ref 117] [.int (fu_b (f_X12_isWord s (f_X12_spelled (111 : Int32) (100 : Int32) (100 : Int32) (115 : Int32) (0 : Int32) (0 : Int32))))] s)
  exact fu_bret (b := (f_X12_isWord s (f_X12_spelled (111 : Int32) (100 : Int32) (100 : Int32) (115 : Int32) (0 : Int32) (0 : Int32)))) rfl rfl
/-! X12_isArm -/
set_option maxRecDepth 100000 in
theorem e_X12_isArm (d : Nat) (hd : 2 ≤ d) (s : fu_S) : fu_J (some (f_X12_isArm s)) (fun r => some (some (.int (fu_b r)), s)) (am_D (fu_ho fr_sh) am_m d 261 [.ref 117] s) := by
  obtain ⟨d, rfl⟩ : ∃ e, d = e + 1 := ⟨d - 1, by omega⟩
  refine fu_enter (ls := [.ref 117]) am_at_X12_isArm rfl rfl ?_
  show fu_J _ _ (fr_X d (some .boolean) k_X12_isArm 0 [.ref 117] [] s)
  unfold f_X12_isArm
  refine fu_go 7 (pc' := 10) (ls' := [.ref 117]) (st' := [.int (0 : Int32), .int (0 : Int32), .int (0 : Int32), .int (109 : Int32), .int (114 : Int32), .int (97 : Int32), .ref 117]) (s' := s) rfl ?_
  refine fu_step (fu_cS rfl rfl rfl rfl rfl rfl (fu_eq (e_X12_spelled d (by omega) s (97 : Int32) (114 : Int32) (109 : Int32) (0 : Int32) (0 : Int32) (0 : Int32)) rfl)) ?_
  show fu_J _ _ (fr_X d (some .boolean) k_X12_isArm 13 [.ref 117] [.long (f_X12_spelled (97 : Int32) (114 : Int32) (109 : Int32) (0 : Int32) (0 : Int32) (0 : Int32)), .ref 117] s)
  refine fu_step (fu_cV rfl rfl rfl rfl rfl (fu_recv fr_117 am_at_X12_isWord rfl) (fu_eq (e_X12_isWord d (by omega) s (f_X12_spelled (97 : Int32) (114 : Int32) (109 : Int32) (0 : Int32) (0 : Int32) (0 : Int32))) rfl)) ?_
  show fu_J _ _ (fr_X d (some .boolean) k_X12_isArm 16 [.ref 117] [.int (fu_b (f_X12_isWord s (f_X12_spelled (97 : Int32) (114 : Int32) (109 : Int32) (0 : Int32) (0 : Int32) (0 : Int32))))] s)
  exact fu_bret (b := (f_X12_isWord s (f_X12_spelled (97 : Int32) (114 : Int32) (109 : Int32) (0 : Int32) (0 : Int32) (0 : Int32)))) rfl rfl
/-! X12_isKindWord -/
set_option maxRecDepth 100000 in
theorem e_X12_isKindWord (d : Nat) (hd : 2 ≤ d) (s : fu_S) : fu_J (some (f_X12_isKindWord s)) (fun r => some (some (.int (fu_b r)), s)) (am_D (fu_ho fr_sh) am_m d 262 [.ref 117] s) := by
  obtain ⟨d, rfl⟩ : ∃ e, d = e + 1 := ⟨d - 1, by omega⟩
  refine fu_enter (ls := [.ref 117]) am_at_X12_isKindWord rfl rfl ?_
  show fu_J _ _ (fr_X d (some .boolean) k_X12_isKindWord 0 [.ref 117] [] s)
  unfold f_X12_isKindWord
  refine fu_go 7 (pc' := 11) (ls' := [.ref 117]) (st' := [.int (0 : Int32), .int (0 : Int32), .int (100 : Int32), .int (110 : Int32), .int (105 : Int32), .int (107 : Int32), .ref 117]) (s' := s) rfl ?_
  refine fu_step (fu_cS rfl rfl rfl rfl rfl rfl (fu_eq (e_X12_spelled d (by omega) s (107 : Int32) (105 : Int32) (110 : Int32) (100 : Int32) (0 : Int32) (0 : Int32)) rfl)) ?_
  show fu_J _ _ (fr_X d (some .boolean) k_X12_isKindWord 14 [.ref 117] [.long (f_X12_spelled (107 : Int32) (105 : Int32) (110 : Int32) (100 : Int32) (0 : Int32) (0 : Int32)), .ref 117] s)
  refine fu_step (fu_cV rfl rfl rfl rfl rfl (fu_recv fr_117 am_at_X12_isWord rfl) (fu_eq (e_X12_isWord d (by omega) s (f_X12_spelled (107 : Int32) (105 : Int32) (110 : Int32) (100 : Int32) (0 : Int32) (0 : Int32))) rfl)) ?_
  show fu_J _ _ (fr_X d (some .boolean) k_X12_isKindWord 17 [.ref 117] [.int (fu_b (f_X12_isWord s (f_X12_spelled (107 : Int32) (105 : Int32) (110 : Int32) (100 : Int32) (0 : Int32) (0 : Int32))))] s)
  exact fu_bret (b := (f_X12_isWord s (f_X12_spelled (107 : Int32) (105 : Int32) (110 : Int32) (100 : Int32) (0 : Int32) (0 : Int32)))) rfl rfl
/-! X12_isStepWord -/
set_option maxRecDepth 100000 in
theorem e_X12_isStepWord (d : Nat) (hd : 2 ≤ d) (s : fu_S) : fu_J (some (f_X12_isStepWord s)) (fun r => some (some (.int (fu_b r)), s)) (am_D (fu_ho fr_sh) am_m d 263 [.ref 117] s) := by
  obtain ⟨d, rfl⟩ : ∃ e, d = e + 1 := ⟨d - 1, by omega⟩
  refine fu_enter (ls := [.ref 117]) am_at_X12_isStepWord rfl rfl ?_
  show fu_J _ _ (fr_X d (some .boolean) k_X12_isStepWord 0 [.ref 117] [] s)
  unfold f_X12_isStepWord
  refine fu_go 7 (pc' := 11) (ls' := [.ref 117]) (st' := [.int (0 : Int32), .int (0 : Int32), .int (112 : Int32), .int (101 : Int32), .int (116 : Int32), .int (115 : Int32), .ref 117]) (s' := s) rfl ?_
  refine fu_step (fu_cS rfl rfl rfl rfl rfl rfl (fu_eq (e_X12_spelled d (by omega) s (115 : Int32) (116 : Int32) (101 : Int32) (112 : Int32) (0 : Int32) (0 : Int32)) rfl)) ?_
  show fu_J _ _ (fr_X d (some .boolean) k_X12_isStepWord 14 [.ref 117] [.long (f_X12_spelled (115 : Int32) (116 : Int32) (101 : Int32) (112 : Int32) (0 : Int32) (0 : Int32)), .ref 117] s)
  refine fu_step (fu_cV rfl rfl rfl rfl rfl (fu_recv fr_117 am_at_X12_isWord rfl) (fu_eq (e_X12_isWord d (by omega) s (f_X12_spelled (115 : Int32) (116 : Int32) (101 : Int32) (112 : Int32) (0 : Int32) (0 : Int32))) rfl)) ?_
  show fu_J _ _ (fr_X d (some .boolean) k_X12_isStepWord 17 [.ref 117] [.int (fu_b (f_X12_isWord s (f_X12_spelled (115 : Int32) (116 : Int32) (101 : Int32) (112 : Int32) (0 : Int32) (0 : Int32))))] s)
  exact fu_bret (b := (f_X12_isWord s (f_X12_spelled (115 : Int32) (116 : Int32) (101 : Int32) (112 : Int32) (0 : Int32) (0 : Int32)))) rfl rfl
/-! X12_isSpotWord -/
set_option maxRecDepth 100000 in
theorem e_X12_isSpotWord (d : Nat) (hd : 2 ≤ d) (s : fu_S) : fu_J (some (f_X12_isSpotWord s)) (fun r => some (some (.int (fu_b r)), s)) (am_D (fu_ho fr_sh) am_m d 264 [.ref 117] s) := by
  obtain ⟨d, rfl⟩ : ∃ e, d = e + 1 := ⟨d - 1, by omega⟩
  refine fu_enter (ls := [.ref 117]) am_at_X12_isSpotWord rfl rfl ?_
  show fu_J _ _ (fr_X d (some .boolean) k_X12_isSpotWord 0 [.ref 117] [] s)
  unfold f_X12_isSpotWord
  refine fu_go 7 (pc' := 11) (ls' := [.ref 117]) (st' := [.int (0 : Int32), .int (0 : Int32), .int (116 : Int32), .int (111 : Int32), .int (112 : Int32), .int (115 : Int32), .ref 117]) (s' := s) rfl ?_
  refine fu_step (fu_cS rfl rfl rfl rfl rfl rfl (fu_eq (e_X12_spelled d (by omega) s (115 : Int32) (112 : Int32) (111 : Int32) (116 : Int32) (0 : Int32) (0 : Int32)) rfl)) ?_
  show fu_J _ _ (fr_X d (some .boolean) k_X12_isSpotWord 14 [.ref 117] [.long (f_X12_spelled (115 : Int32) (112 : Int32) (111 : Int32) (116 : Int32) (0 : Int32) (0 : Int32)), .ref 117] s)
  refine fu_step (fu_cV rfl rfl rfl rfl rfl (fu_recv fr_117 am_at_X12_isWord rfl) (fu_eq (e_X12_isWord d (by omega) s (f_X12_spelled (115 : Int32) (112 : Int32) (111 : Int32) (116 : Int32) (0 : Int32) (0 : Int32))) rfl)) ?_
  show fu_J _ _ (fr_X d (some .boolean) k_X12_isSpotWord 17 [.ref 117] [.int (fu_b (f_X12_isWord s (f_X12_spelled (115 : Int32) (112 : Int32) (111 : Int32) (116 : Int32) (0 : Int32) (0 : Int32))))] s)
  exact fu_bret (b := (f_X12_isWord s (f_X12_spelled (115 : Int32) (112 : Int32) (111 : Int32) (116 : Int32) (0 : Int32) (0 : Int32)))) rfl rfl
/-! X12_isWeight -/
set_option maxRecDepth 100000 in
theorem e_X12_isWeight (d : Nat) (hd : 2 ≤ d) (s : fu_S) : fu_J (some (f_X12_isWeight s)) (fun r => some (some (.int (fu_b r)), s)) (am_D (fu_ho fr_sh) am_m d 265 [.ref 117] s) := by
  obtain ⟨d, rfl⟩ : ∃ e, d = e + 1 := ⟨d - 1, by omega⟩
  refine fu_enter (ls := [.ref 117]) am_at_X12_isWeight rfl rfl ?_
  show fu_J _ _ (fr_X d (some .boolean) k_X12_isWeight 0 [.ref 117] [] s)
  unfold f_X12_isWeight
  refine fu_go 7 (pc' := 13) (ls' := [.ref 117]) (st' := [.int (116 : Int32), .int (104 : Int32), .int (103 : Int32), .int (105 : Int32), .int (101 : Int32), .int (119 : Int32), .ref 117]) (s' := s) rfl ?_
  refine fu_step (fu_cS rfl rfl rfl rfl rfl rfl (fu_eq (e_X12_spelled d (by omega) s (119 : Int32) (101 : Int32) (105 : Int32) (103 : Int32) (104 : Int32) (116 : Int32)) rfl)) ?_
  show fu_J _ _ (fr_X d (some .boolean) k_X12_isWeight 16 [.ref 117] [.long (f_X12_spelled (119 : Int32) (101 : Int32) (105 : Int32) (103 : Int32) (104 : Int32) (116 : Int32)), .ref 117] s)
  refine fu_step (fu_cV rfl rfl rfl rfl rfl (fu_recv fr_117 am_at_X12_isWord rfl) (fu_eq (e_X12_isWord d (by omega) s (f_X12_spelled (119 : Int32) (101 : Int32) (105 : Int32) (103 : Int32) (104 : Int32) (116 : Int32))) rfl)) ?_
  show fu_J _ _ (fr_X d (some .boolean) k_X12_isWeight 19 [.ref 117] [.int (fu_b (f_X12_isWord s (f_X12_spelled (119 : Int32) (101 : Int32) (105 : Int32) (103 : Int32) (104 : Int32) (116 : Int32))))] s)
  exact fu_bret (b := (f_X12_isWord s (f_X12_spelled (119 : Int32) (101 : Int32) (105 : Int32) (103 : Int32) (104 : Int32) (116 : Int32)))) rfl rfl
/-! X12_isPerson -/
set_option maxRecDepth 100000 in
theorem e_X12_isPerson (d : Nat) (hd : 2 ≤ d) (s : fu_S) : fu_J (some (f_X12_isPerson s)) (fun r => some (some (.int (fu_b r)), s)) (am_D (fu_ho fr_sh) am_m d 266 [.ref 117] s) := by
  obtain ⟨d, rfl⟩ : ∃ e, d = e + 1 := ⟨d - 1, by omega⟩
  refine fu_enter (ls := [.ref 117]) am_at_X12_isPerson rfl rfl ?_
  show fu_J _ _ (fr_X d (some .boolean) k_X12_isPerson 0 [.ref 117] [] s)
  unfold f_X12_isPerson
  refine fu_go 7 (pc' := 13) (ls' := [.ref 117]) (st' := [.int (110 : Int32), .int (111 : Int32), .int (115 : Int32), .int (114 : Int32), .int (101 : Int32), .int (112 : Int32), .ref 117]) (s' := s) rfl ?_
  refine fu_step (fu_cS rfl rfl rfl rfl rfl rfl (fu_eq (e_X12_spelled d (by omega) s (112 : Int32) (101 : Int32) (114 : Int32) (115 : Int32) (111 : Int32) (110 : Int32)) rfl)) ?_
  show fu_J _ _ (fr_X d (some .boolean) k_X12_isPerson 16 [.ref 117] [.long (f_X12_spelled (112 : Int32) (101 : Int32) (114 : Int32) (115 : Int32) (111 : Int32) (110 : Int32)), .ref 117] s)
  refine fu_step (fu_cV rfl rfl rfl rfl rfl (fu_recv fr_117 am_at_X12_isWord rfl) (fu_eq (e_X12_isWord d (by omega) s (f_X12_spelled (112 : Int32) (101 : Int32) (114 : Int32) (115 : Int32) (111 : Int32) (110 : Int32))) rfl)) ?_
  show fu_J _ _ (fr_X d (some .boolean) k_X12_isPerson 19 [.ref 117] [.int (fu_b (f_X12_isWord s (f_X12_spelled (112 : Int32) (101 : Int32) (114 : Int32) (115 : Int32) (111 : Int32) (110 : Int32))))] s)
  exact fu_bret (b := (f_X12_isWord s (f_X12_spelled (112 : Int32) (101 : Int32) (114 : Int32) (115 : Int32) (111 : Int32) (110 : Int32)))) rfl rfl
/-! X12_isHome -/
set_option maxRecDepth 100000 in
theorem e_X12_isHome (d : Nat) (hd : 2 ≤ d) (s : fu_S) : fu_J (some (f_X12_isHome s)) (fun r => some (some (.int (fu_b r)), s)) (am_D (fu_ho fr_sh) am_m d 267 [.ref 117] s) := by
  obtain ⟨d, rfl⟩ : ∃ e, d = e + 1 := ⟨d - 1, by omega⟩
  refine fu_enter (ls := [.ref 117]) am_at_X12_isHome rfl rfl ?_
  show fu_J _ _ (fr_X d (some .boolean) k_X12_isHome 0 [.ref 117] [] s)
  unfold f_X12_isHome
  refine fu_go 7 (pc' := 11) (ls' := [.ref 117]) (st' := [.int (0 : Int32), .int (0 : Int32), .int (101 : Int32), .int (109 : Int32), .int (111 : Int32), .int (104 : Int32), .ref 117]) (s' := s) rfl ?_
  refine fu_step (fu_cS rfl rfl rfl rfl rfl rfl (fu_eq (e_X12_spelled d (by omega) s (104 : Int32) (111 : Int32) (109 : Int32) (101 : Int32) (0 : Int32) (0 : Int32)) rfl)) ?_
  show fu_J _ _ (fr_X d (some .boolean) k_X12_isHome 14 [.ref 117] [.long (f_X12_spelled (104 : Int32) (111 : Int32) (109 : Int32) (101 : Int32) (0 : Int32) (0 : Int32)), .ref 117] s)
  refine fu_step (fu_cV rfl rfl rfl rfl rfl (fu_recv fr_117 am_at_X12_isWord rfl) (fu_eq (e_X12_isWord d (by omega) s (f_X12_spelled (104 : Int32) (111 : Int32) (109 : Int32) (101 : Int32) (0 : Int32) (0 : Int32))) rfl)) ?_
  show fu_J _ _ (fr_X d (some .boolean) k_X12_isHome 17 [.ref 117] [.int (fu_b (f_X12_isWord s (f_X12_spelled (104 : Int32) (111 : Int32) (109 : Int32) (101 : Int32) (0 : Int32) (0 : Int32))))] s)
  exact fu_bret (b := (f_X12_isWord s (f_X12_spelled (104 : Int32) (111 : Int32) (109 : Int32) (101 : Int32) (0 : Int32) (0 : Int32)))) rfl rfl
