/-! printed by wip/whole/lift/lift.py: the small machine comes to what the functions answer -/
/-! X12_needs -/
set_option maxRecDepth 100000 in
theorem e_X12_needs (d : Nat) (hd : 4 ≤ d) (s : fu_S) (a1 : Int32) : fu_J (f_X12_needs s a1) (fun r => some (some (.int r.1), r.2)) (am_D (fu_ho fr_sh) am_m d 341 [.ref 117, .int a1] s) := by
  obtain ⟨d, rfl⟩ : ∃ e, d = e + 1 := ⟨d - 1, by omega⟩
  refine fu_enter (ls := [.ref 117, .int a1]) am_at_X12_needs rfl rfl ?_
  show fu_J _ _ (fr_X d (some .int) k_X12_needs 0 [.ref 117, .int a1] [] s)
  unfold f_X12_needs
  refine fu_go 2 (pc' := 2) (ls' := [.ref 117, .int a1]) (st' := [.int (0 : Int32), .ref 117]) (s' := s) rfl ?_
  refine fu_lets (b := (fu_pi s 117 1 (0 : Int32))) (fu_putI rfl fr_117 rfl rfl) (fun s1 => ?_)
  refine fu_go 2 (pc' := 7) (ls' := [.ref 117, .int a1]) (st' := [.int (0 : Int32), .ref 117]) (s' := s1) rfl ?_
  refine fu_lets (b := (fu_pi s1 117 0 (0 : Int32))) (fu_putI rfl fr_117 rfl rfl) (fun s2 => ?_)
  refine fu_go 3 (pc' := 13) (ls' := [.ref 117, .int a1]) (st' := [.long (Int32.toInt64 a1), .ref 117]) (s' := s2) rfl ?_
  refine fu_step (fu_cV rfl rfl rfl rfl rfl (fu_recv fr_117 am_at_X12_isPersonAt rfl) (fu_eq (e_X12_isPersonAt d (by omega) s2 (Int32.toInt64 a1)) rfl)) ?_
  show fu_J _ _ (fr_X d (some .int) k_X12_needs 16 [.ref 117, .int a1] [.int (fu_b (f_X12_isPersonAt s2 (Int32.toInt64 a1)))] s2)
  refine fu_ite (fun h3 => fu_step (fu_ib_ne_t rfl h3) ?_) (fun h3 => fu_step (fu_ib_ne_f rfl h3) ?_)
  · refine fu_go 2 (pc' := 27) (ls' := [.ref 117, .int a1]) (st' := [.int (0 : Int32), .ref 117]) (s' := s2) rfl ?_
    refine fu_bind (fu_cVJ rfl rfl rfl rfl rfl (fu_recv fr_117 am_at_X12_laysNeeds rfl) (e_X12_laysNeeds d (by omega) s2 (0 : Int32))) (fun r4 => ?_)
    show fu_J _ _ (fr_X d (some .int) k_X12_needs 30 [.ref 117, .int a1] [] r4)
    refine fu_go 1 (pc' := 31) (ls' := [.ref 117, .int a1]) (st' := [.ref 117]) (s' := r4) rfl ?_
    refine fu_step (fu_getR rfl fr_117 rfl rfl) ?_
    refine fu_go 1 (pc' := 35) (ls' := [.ref 117, .int a1]) (st' := [.int a1, .ref 125]) (s' := r4) rfl ?_
    refine fu_guard (fun h5 => fu_step (fu_ldI rfl fr_125 h5) ?_)
    exact fu_iret rfl rfl
  · refine fu_go 2 (pc' := 21) (ls' := [.ref 117, .int a1]) (st' := [.int (2 : Int32), .ref 117]) (s' := s2) rfl ?_
    refine fu_let (fu_cVJ rfl rfl rfl rfl rfl (fu_recv fr_117 am_at_X12_refuse rfl) (e_X12_refuse d (by omega) s2 (2 : Int32))) (fun r6 => ?_)
    show fu_J _ _ (fr_X d (some .int) k_X12_needs 24 [.ref 117, .int a1] [.int r6.1] r6.2)
    exact fu_iret rfl rfl
/-! X12_ringFrom -/
theorem el_X12_ringFrom_18 (d : Nat) (hd : 1 ≤ d) : ∀ (n : Nat) (s : fu_S) (x1 : Int32) (x2 : Int32) (x3 : Int32) (x4 : Int32) (x5 : Int32), fu_J (l_X12_ringFrom_18 n s x1 x2 x3 x4 x5) (fun r => fr_X d (some .int) k_X12_ringFrom 56 [.ref 117, .int x1, am_U, .int x3, .int r, am_U] [] s) (fr_X d (some .int) k_X12_ringFrom 18 [.ref 117, .int x1, .int x2, .int x3, .int x4, .int x5] [] s) := by
  intro n
  induction n with
  | zero => intros; exact fu_none
  | succ n ih =>
    intro s x1 x2 x3 x4 x5
    rw [l_X12_ringFrom_18]
    refine fu_go 2 (pc' := 22) (ls' := [.ref 117, .int x1, .int x2, .int x3, .int x4, .int x5]) (st' := [.int (7 : Int32), .int x5]) (s' := s) rfl ?_
    refine fu_ite (fun h2 => fu_step (fu_ic_ge_t rfl h2) ?_) (fun h2 => fu_step (fu_ic_ge_f rfl h2) ?_)
    · refine fu_go 3 (pc' := 30) (ls' := [.ref 117, .int x1, .int x2, .int x3, .int x4, .int x5]) (st' := [.int x5, .int x2, .int x4]) (s' := s) rfl ?_
      refine fu_step (fu_cS rfl rfl rfl rfl rfl rfl (fu_eq (e_X12_has d (by omega) s x2 x5) rfl)) ?_
      show fu_J _ _ (fr_X d (some .int) k_X12_ringFrom 33 [.ref 117, .int x1, .int x2, .int x3, .int x4, .int x5] [.int (fu_b (f_X12_has x2 x5)), .int x4] s)
      refine fu_bind (V := fun j3 : Int32 => fr_X d (some .int) k_X12_ringFrom 47 [.ref 117, .int x1, .int x2, .int x3, am_U, .int x5] [.int j3, .int x4] s) ?_ (fun j3 => ?_)
      · refine fu_ite (fun h4 => fu_step (fu_ib_eq_t rfl h4) ?_) (fun h4 => fu_step (fu_ib_eq_f rfl h4) ?_)
        · refine fu_go 1 (pc' := 37) (ls' := [.ref 117, .int x1, .int x2, .int x3, .int x4, .int x5]) (st' := [.ref 117, .int x4]) (s' := s) rfl ?_
          refine fu_step (fu_getR rfl fr_117 rfl rfl) ?_
          refine fu_go 1 (pc' := 42) (ls' := [.ref 117, .int x1, .int x2, .int x3, .int x4, .int x5]) (st' := [.int x5, .ref 125, .int x4]) (s' := s) rfl ?_
          refine fu_guard (fun h5 => fu_step (fu_ldI rfl fr_125 h5) ?_)
          refine fu_go 1 (pc' := 47) (ls' := [.ref 117, .int x1, .int x2, .int x3, .int x4, .int x5]) (st' := [.int (s.1 125 (Int32.toNatClampNeg x5)), .int x4]) (s' := s) rfl ?_
          exact fu_leaf rfl ⟨.inr rfl, .inr rfl, .inr rfl, .inr rfl, .inl rfl, .inr rfl, trivial⟩
        · refine fu_go 1 (pc' := 47) (ls' := [.ref 117, .int x1, .int x2, .int x3, .int x4, .int x5]) (st' := [.int (0 : Int32), .int x4]) (s' := s) rfl ?_
          exact fu_leaf rfl ⟨.inr rfl, .inr rfl, .inr rfl, .inr rfl, .inl rfl, .inr rfl, trivial⟩
      show fu_J _ _ (fr_X d (some .int) k_X12_ringFrom 47 [.ref 117, .int x1, .int x2, .int x3, am_U, .int x5] [.int j3, .int x4] s)
      refine fu_go 4 (pc' := 18) (ls' := [.ref 117, .int x1, .int x2, .int x3, .int (x4 ||| j3), .int (x5 + (1 : Int32))]) (st' := []) (s' := s) rfl ?_
      exact fu_drop (ls' := [.ref 117, .int x1, .int x2, .int x3, .int (x4 ||| j3), .int (x5 + (1 : Int32))]) ⟨.inr rfl, .inr rfl, .inr rfl, .inr rfl, .inr rfl, .inr rfl, trivial⟩ (ih s x1 x2 x3 (x4 ||| j3) (x5 + (1 : Int32)))
    · exact fu_leaf rfl ⟨.inr rfl, .inr rfl, .inl rfl, .inr rfl, .inr rfl, .inl rfl, trivial⟩
theorem el_X12_ringFrom_6 (d : Nat) (hd : 1 ≤ d) : ∀ (n : Nat) (s : fu_S) (x1 : Int32) (x2 : Int32) (x3 : Int32), fu_J (l_X12_ringFrom_6 n s x1 x2 x3) (fun u => Sum.elim (fun r => some (some (.int r), s)) (fun r => fr_X d (some .int) k_X12_ringFrom 76 [am_U, am_U, am_U, am_U, am_U, am_U] [] s) u) (fr_X d (some .int) k_X12_ringFrom 6 [.ref 117, .int x1, .int x2, .int x3, am_U, am_U] [] s) := by
  intro n
  induction n with
  | zero => intros; exact fu_none
  | succ n ih =>
    intro s x1 x2 x3
    rw [l_X12_ringFrom_6]
    refine fu_go 2 (pc' := 9) (ls' := [.ref 117, .int x1, .int x2, .int x3, am_U, am_U]) (st' := [.int (7 : Int32), .int x3]) (s' := s) rfl ?_
    refine fu_ite (fun h1 => fu_step (fu_ic_gt_t rfl h1) ?_) (fun h1 => fu_step (fu_ic_gt_f rfl h1) ?_)
    · refine fu_go 4 (pc' := 18) (ls' := [.ref 117, .int x1, .int x2, .int x3, .int (0 : Int32), .int (0 : Int32)]) (st' := []) (s' := s) rfl ?_
      refine fu_drop (ls' := [.ref 117, .int x1, .int x2, .int x3, .int (0 : Int32), .int (0 : Int32)]) ⟨.inr rfl, .inr rfl, .inr rfl, .inr rfl, .inr rfl, .inr rfl, trivial⟩ ?_
      refine fu_bind (el_X12_ringFrom_18 d (by omega) fu_N s x1 x2 x3 (0 : Int32) (0 : Int32)) (fun r6 => ?_)
      show fu_J _ _ (fr_X d (some .int) k_X12_ringFrom 56 [.ref 117, .int x1, am_U, .int x3, .int r6, am_U] [] s)
      refine fu_go 2 (pc' := 59) (ls' := [.ref 117, .int x1, am_U, .int x3, .int r6, am_U]) (st' := [.int x1, .int r6]) (s' := s) rfl ?_
      refine fu_step (fu_cS rfl rfl rfl rfl rfl rfl (fu_eq (e_X12_has d (by omega) s r6 x1) rfl)) ?_
      show fu_J _ _ (fr_X d (some .int) k_X12_ringFrom 62 [.ref 117, .int x1, am_U, .int x3, .int r6, am_U] [.int (fu_b (f_X12_has r6 x1))] s)
      refine fu_ite (fun h7 => fu_step (fu_ib_eq_t rfl h7) ?_) (fun h7 => fu_step (fu_ib_eq_f rfl h7) ?_)
      · refine fu_go 1 (pc' := 66) (ls' := [.ref 117, .int x1, am_U, .int x3, .int r6, am_U]) (st' := [.int x3]) (s' := s) rfl ?_
        exact fu_iret rfl rfl
      · refine fu_go 4 (pc' := 6) (ls' := [.ref 117, .int x1, .int r6, .int (x3 + (1 : Int32)), .int r6, am_U]) (st' := []) (s' := s) rfl ?_
        exact fu_drop (ls' := [.ref 117, .int x1, .int r6, .int (x3 + (1 : Int32)), am_U, am_U]) ⟨.inr rfl, .inr rfl, .inr rfl, .inr rfl, .inl rfl, .inl rfl, trivial⟩ (ih s x1 r6 (x3 + (1 : Int32)))
    · exact fu_leaf rfl ⟨.inl rfl, .inl rfl, .inl rfl, .inl rfl, .inl rfl, .inl rfl, trivial⟩
set_option maxRecDepth 100000 in
theorem e_X12_ringFrom (d : Nat) (hd : 2 ≤ d) (s : fu_S) (a1 : Int32) : fu_J (f_X12_ringFrom s a1) (fun r => some (some (.int r), s)) (am_D (fu_ho fr_sh) am_m d 342 [.ref 117, .int a1] s) := by
  obtain ⟨d, rfl⟩ : ∃ e, d = e + 1 := ⟨d - 1, by omega⟩
  refine fu_enter (ls := [.ref 117, .int a1, am_U, am_U, am_U, am_U]) am_at_X12_ringFrom rfl rfl ?_
  show fu_J _ _ (fr_X d (some .int) k_X12_ringFrom 0 [.ref 117, .int a1, am_U, am_U, am_U, am_U] [] s)
  unfold f_X12_ringFrom
  refine fu_go 6 (pc' := 6) (ls' := [.ref 117, .int a1, .int ((1 : Int32) <<< (a1 &&& 31)), .int (1 : Int32), am_U, am_U]) (st' := []) (s' := s) rfl ?_
  refine fu_drop (ls' := [.ref 117, .int a1, .int ((1 : Int32) <<< (a1 &&& 31)), .int (1 : Int32), am_U, am_U]) ⟨.inr rfl, .inr rfl, .inr rfl, .inr rfl, .inl rfl, .inl rfl, trivial⟩ ?_
  refine fu_bind (el_X12_ringFrom_6 d (by omega) fu_N s a1 ((1 : Int32) <<< (a1 &&& 31)) (1 : Int32)) (fun u => fu_sum (fun a => ?_) (fun r8 => ?_))
  · exact fu_ret rfl
  show fu_J _ _ (fr_X d (some .int) k_X12_ringFrom 76 [am_U, am_U, am_U, am_U, am_U, am_U] [] s)
  refine fu_go 1 (pc' := 77) (ls' := [am_U, am_U, am_U, am_U, am_U, am_U]) (st' := [.int (-1 : Int32)]) (s' := s) rfl ?_
  exact fu_iret rfl rfl
/-! X12_shortestRing -/
theorem el_X12_shortestRing_4 (d : Nat) (hd : 2 ≤ d) : ∀ (n : Nat) (s : fu_S) (x1 : Int32) (x2 : Int32), fu_J (l_X12_shortestRing_4 n s x1 x2) (fun r => fr_X d (some .int) k_X12_shortestRing 41 [am_U, .int r, am_U, am_U] [] s) (fr_X d (some .int) k_X12_shortestRing 4 [.ref 117, .int x1, .int x2, am_U] [] s) := by
  intro n
  induction n with
  | zero => intros; exact fu_none
  | succ n ih =>
    intro s x1 x2
    rw [l_X12_shortestRing_4]
    refine fu_go 2 (pc' := 6) (ls' := [.ref 117, .int x1, .int x2, am_U]) (st' := [.ref 117, .int x2]) (s' := s) rfl ?_
    refine fu_step (fu_getR rfl fr_117 rfl rfl) ?_
    refine fu_go 1 (pc' := 10) (ls' := [.ref 117, .int x1, .int x2, am_U]) (st' := [.int (1 : Int32), .ref 122, .int x2]) (s' := s) rfl ?_
    refine fu_step (fu_ldIk (k := 1) rfl fr_122 (by decide) (by decide)) ?_
    refine fu_ite (fun h1 => fu_step (fu_ic_ge_t rfl h1) ?_) (fun h1 => fu_step (fu_ic_ge_f rfl h1) ?_)
    · refine fu_go 2 (pc' := 16) (ls' := [.ref 117, .int x1, .int x2, am_U]) (st' := [.int x2, .ref 117]) (s' := s) rfl ?_
      refine fu_bind (fu_cVJ rfl rfl rfl rfl rfl (fu_recv fr_117 am_at_X12_ringFrom rfl) (e_X12_ringFrom d (by omega) s x2)) (fun r2 => ?_)
      show fu_J _ _ (fr_X d (some .int) k_X12_shortestRing 19 [.ref 117, .int x1, .int x2, am_U] [.int r2] s)
      refine fu_go 2 (pc' := 21) (ls' := [.ref 117, .int x1, .int x2, .int r2]) (st' := [.int r2]) (s' := s) rfl ?_
      refine fu_bind (V := fun j3 : Int32 => fr_X d (some .int) k_X12_shortestRing 35 [.ref 117, .int j3, .int x2, am_U] [] s) ?_ (fun j3 => ?_)
      · refine fu_ite (fun h4 => fu_step (fu_if_lt_t rfl h4) ?_) (fun h4 => fu_step (fu_if_lt_f rfl h4) ?_)
        · exact fu_leaf rfl ⟨.inr rfl, .inr rfl, .inr rfl, .inl rfl, trivial⟩
        · refine fu_go 1 (pc' := 25) (ls' := [.ref 117, .int x1, .int x2, .int r2]) (st' := [.int x1]) (s' := s) rfl ?_
          refine fu_ite (fun h5 => fu_step (fu_if_lt_t rfl h5) ?_) (fun h5 => fu_step (fu_if_lt_f rfl h5) ?_)
          · refine fu_go 2 (pc' := 35) (ls' := [.ref 117, .int r2, .int x2, .int r2]) (st' := []) (s' := s) rfl ?_
            exact fu_leaf rfl ⟨.inr rfl, .inr rfl, .inr rfl, .inl rfl, trivial⟩
          · refine fu_go 2 (pc' := 30) (ls' := [.ref 117, .int x1, .int x2, .int r2]) (st' := [.int x1, .int r2]) (s' := s) rfl ?_
            refine fu_ite (fun h6 => fu_step (fu_ic_ge_t rfl h6) ?_) (fun h6 => fu_step (fu_ic_ge_f rfl h6) ?_)
            · refine fu_go 2 (pc' := 35) (ls' := [.ref 117, .int r2, .int x2, .int r2]) (st' := []) (s' := s) rfl ?_
              exact fu_leaf rfl ⟨.inr rfl, .inr rfl, .inr rfl, .inl rfl, trivial⟩
            · exact fu_leaf rfl ⟨.inr rfl, .inr rfl, .inr rfl, .inl rfl, trivial⟩
      show fu_J _ _ (fr_X d (some .int) k_X12_shortestRing 35 [.ref 117, .int j3, .int x2, am_U] [] s)
      refine fu_go 2 (pc' := 4) (ls' := [.ref 117, .int j3, .int (x2 + (1 : Int32)), am_U]) (st' := []) (s' := s) rfl ?_
      exact fu_drop (ls' := [.ref 117, .int j3, .int (x2 + (1 : Int32)), am_U]) ⟨.inr rfl, .inr rfl, .inr rfl, .inl rfl, trivial⟩ (ih s j3 (x2 + (1 : Int32)))
    · exact fu_leaf rfl ⟨.inl rfl, .inr rfl, .inl rfl, .inl rfl, trivial⟩
set_option maxRecDepth 100000 in
theorem e_X12_shortestRing (d : Nat) (hd : 3 ≤ d) (s : fu_S) : fu_J (f_X12_shortestRing s) (fun r => some (some (.int r), s)) (am_D (fu_ho fr_sh) am_m d 343 [.ref 117] s) := by
  obtain ⟨d, rfl⟩ : ∃ e, d = e + 1 := ⟨d - 1, by omega⟩
  refine fu_enter (ls := [.ref 117, am_U, am_U, am_U]) am_at_X12_shortestRing rfl rfl ?_
  show fu_J _ _ (fr_X d (some .int) k_X12_shortestRing 0 [.ref 117, am_U, am_U, am_U] [] s)
  unfold f_X12_shortestRing
  refine fu_go 4 (pc' := 4) (ls' := [.ref 117, .int (-1 : Int32), .int (0 : Int32), am_U]) (st' := []) (s' := s) rfl ?_
  refine fu_drop (ls' := [.ref 117, .int (-1 : Int32), .int (0 : Int32), am_U]) ⟨.inr rfl, .inr rfl, .inr rfl, .inl rfl, trivial⟩ ?_
  refine fu_bind (el_X12_shortestRing_4 d (by omega) fu_N s (-1 : Int32) (0 : Int32)) (fun r7 => ?_)
  show fu_J _ _ (fr_X d (some .int) k_X12_shortestRing 41 [am_U, .int r7, am_U, am_U] [] s)
  refine fu_go 1 (pc' := 42) (ls' := [am_U, .int r7, am_U, am_U]) (st' := [.int r7]) (s' := s) rfl ?_
  exact fu_iret rfl rfl
/-! X12_ring -/
set_option maxRecDepth 100000 in
theorem e_X12_ring (d : Nat) (hd : 4 ≤ d) (s : fu_S) : fu_J (f_X12_ring s) (fun r => some (some (.int r.1), r.2)) (am_D (fu_ho fr_sh) am_m d 344 [.ref 117] s) := by
  obtain ⟨d, rfl⟩ : ∃ e, d = e + 1 := ⟨d - 1, by omega⟩
  refine fu_enter (ls := [.ref 117, am_U]) am_at_X12_ring rfl rfl ?_
  show fu_J _ _ (fr_X d (some .int) k_X12_ring 0 [.ref 117, am_U] [] s)
  unfold f_X12_ring
  refine fu_go 2 (pc' := 2) (ls' := [.ref 117, am_U]) (st' := [.int (0 : Int32), .ref 117]) (s' := s) rfl ?_
  refine fu_lets (b := (fu_pi s 117 1 (0 : Int32))) (fu_putI rfl fr_117 rfl rfl) (fun s1 => ?_)
  refine fu_go 2 (pc' := 7) (ls' := [.ref 117, am_U]) (st' := [.int (0 : Int32), .ref 117]) (s' := s1) rfl ?_
  refine fu_lets (b := (fu_pi s1 117 0 (0 : Int32))) (fu_putI rfl fr_117 rfl rfl) (fun s2 => ?_)
  refine fu_go 2 (pc' := 12) (ls' := [.ref 117, am_U]) (st' := [.int (0 : Int32), .ref 117]) (s' := s2) rfl ?_
  refine fu_bind (fu_cVJ rfl rfl rfl rfl rfl (fu_recv fr_117 am_at_X12_laysNeeds rfl) (e_X12_laysNeeds d (by omega) s2 (0 : Int32))) (fun r3 => ?_)
  show fu_J _ _ (fr_X d (some .int) k_X12_ring 15 [.ref 117, am_U] [] r3)
  refine fu_go 1 (pc' := 16) (ls' := [.ref 117, am_U]) (st' := [.ref 117]) (s' := r3) rfl ?_
  refine fu_bind (fu_cVJ rfl rfl rfl rfl rfl (fu_recv fr_117 am_at_X12_shortestRing rfl) (e_X12_shortestRing d (by omega) r3)) (fun r4 => ?_)
  show fu_J _ _ (fr_X d (some .int) k_X12_ring 19 [.ref 117, am_U] [.int r4] r3)
  refine fu_go 2 (pc' := 21) (ls' := [.ref 117, .int r4]) (st' := [.int r4]) (s' := r3) rfl ?_
  refine fu_bind (V := fun j5 : Int32 × fu_S => fr_X d (some .int) k_X12_ring 34 [am_U, am_U] [.int j5.1] j5.2) ?_ (fun j5 => ?_)
  · refine fu_ite (fun h6 => fu_step (fu_if_ge_t rfl h6) ?_) (fun h6 => fu_step (fu_if_ge_f rfl h6) ?_)
    · refine fu_go 2 (pc' := 27) (ls' := [.ref 117, .int r4]) (st' := [.int (8 : Int32), .ref 117]) (s' := r3) rfl ?_
      refine fu_let (fu_cVJ rfl rfl rfl rfl rfl (fu_recv fr_117 am_at_X12_refuse rfl) (e_X12_refuse d (by omega) r3 (8 : Int32))) (fun r7 => ?_)
      show fu_J _ _ (fr_X d (some .int) k_X12_ring 30 [.ref 117, .int r4] [.int r7.1] r7.2)
      refine fu_go 1 (pc' := 34) (ls' := [.ref 117, .int r4]) (st' := [.int r7.1]) (s' := r7.2) rfl ?_
      exact fu_leaf rfl ⟨.inl rfl, .inl rfl, trivial⟩
    · refine fu_go 1 (pc' := 34) (ls' := [.ref 117, .int r4]) (st' := [.int r4]) (s' := r3) rfl ?_
      exact fu_leaf rfl ⟨.inl rfl, .inl rfl, trivial⟩
  show fu_J _ _ (fr_X d (some .int) k_X12_ring 34 [am_U, am_U] [.int j5.1] j5.2)
  exact fu_iret rfl rfl
/-! X12_endings -/
theorem el_X12_endings_4 (d : Nat) (hd : 6 ≤ d) : ∀ (n : Nat) (s : fu_S) (x1 : Int32) (x2 : Int32), fu_J (l_X12_endings_4 n s x1 x2) (fun r => fr_X d (some .int) k_X12_endings 64 [am_U, .int r.1, am_U] [] r.2) (fr_X d (some .int) k_X12_endings 4 [.ref 117, .int x1, .int x2] [] s) := by
  intro n
  induction n with
  | zero => intros; exact fu_none
  | succ n ih =>
    intro s x1 x2
    rw [l_X12_endings_4]
    refine fu_go 3 (pc' := 7) (ls' := [.ref 117, .int x1, .int x2]) (st' := [.ref 117, .int (1 : Int32), .int x2]) (s' := s) rfl ?_
    refine fu_step (fu_getR rfl fr_117 rfl rfl) ?_
    refine fu_go 1 (pc' := 11) (ls' := [.ref 117, .int x1, .int x2]) (st' := [.int (2 : Int32), .ref 122, .int (1 : Int32), .int x2]) (s' := s) rfl ?_
    refine fu_step (fu_ldIk (k := 2) rfl fr_122 (by decide) (by decide)) ?_
    refine fu_go 1 (pc' := 13) (ls' := [.ref 117, .int x1, .int x2]) (st' := [.int ((1 : Int32) <<< ((s.1 122 2) &&& 31)), .int x2]) (s' := s) rfl ?_
    refine fu_ite (fun h1 => fu_step (fu_ic_ge_t rfl h1) ?_) (fun h1 => fu_step (fu_ic_ge_f rfl h1) ?_)
    · refine fu_go 3 (pc' := 19) (ls' := [.ref 117, .int x1, .int x2]) (st' := [.int (1 : Int32), .ref 117, .int x2]) (s' := s) rfl ?_
      refine fu_bind (fu_cVJ rfl rfl rfl rfl rfl (fu_recv fr_117 am_at_X12_things rfl) (e_X12_things d (by omega) s (1 : Int32))) (fun r2 => ?_)
      show fu_J _ _ (fr_X d (some .int) k_X12_endings 22 [.ref 117, .int x1, .int x2] [.int r2, .int x2] s)
      refine fu_go 1 (pc' := 23) (ls' := [.ref 117, .int x1, .int x2]) (st' := [.int (x2 &&& r2)]) (s' := s) rfl ?_
      refine fu_bind (V := fun j3 : Int32 × fu_S => fr_X d (some .int) k_X12_endings 58 [.ref 117, .int j3.1, .int x2] [] j3.2) ?_ (fun j3 => ?_)
      · refine fu_ite (fun h4 => fu_step (fu_if_ne_t rfl h4) ?_) (fun h4 => fu_step (fu_if_ne_f rfl h4) ?_)
        · refine fu_go 1 (pc' := 27) (ls' := [.ref 117, .int x1, .int x2]) (st' := [.int x1]) (s' := s) rfl ?_
          refine fu_ite (fun h5 => fu_step (fu_if_lt_t rfl h5) ?_) (fun h5 => fu_step (fu_if_lt_f rfl h5) ?_)
          · refine fu_go 2 (pc' := 46) (ls' := [.ref 117, .int x1, .int x2]) (st' := [.int x2, .ref 117]) (s' := s) rfl ?_
            refine fu_bind (fu_cVJ rfl rfl rfl rfl rfl (fu_recv fr_117 am_at_X12_laysNeeds rfl) (e_X12_laysNeeds d (by omega) s x2)) (fun r6 => ?_)
            show fu_J _ _ (fr_X d (some .int) k_X12_endings 49 [.ref 117, .int x1, .int x2] [] r6)
            refine fu_go 1 (pc' := 50) (ls' := [.ref 117, .int x1, .int x2]) (st' := [.ref 117]) (s' := r6) rfl ?_
            refine fu_bind (fu_cVJ rfl rfl rfl rfl rfl (fu_recv fr_117 am_at_X12_shortestRing rfl) (e_X12_shortestRing d (by omega) r6)) (fun r7 => ?_)
            show fu_J _ _ (fr_X d (some .int) k_X12_endings 53 [.ref 117, .int x1, .int x2] [.int r7] r6)
            refine fu_ite (fun h8 => fu_step (fu_if_ge_t rfl h8) ?_) (fun h8 => fu_step (fu_if_ge_f rfl h8) ?_)
            · refine fu_go 2 (pc' := 58) (ls' := [.ref 117, .int x2, .int x2]) (st' := []) (s' := r6) rfl ?_
              exact fu_leaf rfl ⟨.inr rfl, .inr rfl, .inr rfl, trivial⟩
            · exact fu_leaf rfl ⟨.inr rfl, .inr rfl, .inr rfl, trivial⟩
          · refine fu_go 1 (pc' := 31) (ls' := [.ref 117, .int x1, .int x2]) (st' := [.int x2]) (s' := s) rfl ?_
            refine fu_bind (fu_cSJ rfl rfl rfl rfl rfl rfl (e_X12_sizeOf d (by omega) s x2)) (fun r9 => ?_)
            show fu_J _ _ (fr_X d (some .int) k_X12_endings 34 [.ref 117, .int x1, .int x2] [.int r9] s)
            refine fu_go 1 (pc' := 35) (ls' := [.ref 117, .int x1, .int x2]) (st' := [.int x1, .int r9]) (s' := s) rfl ?_
            refine fu_bind (fu_cSJ rfl rfl rfl rfl rfl rfl (e_X12_sizeOf d (by omega) s x1)) (fun r10 => ?_)
            show fu_J _ _ (fr_X d (some .int) k_X12_endings 38 [.ref 117, .int x1, .int x2] [.int r10, .int r9] s)
            refine fu_ite (fun h11 => fu_step (fu_ic_lt_t rfl h11) ?_) (fun h11 => fu_step (fu_ic_lt_f rfl h11) ?_)
            · refine fu_go 2 (pc' := 46) (ls' := [.ref 117, .int x1, .int x2]) (st' := [.int x2, .ref 117]) (s' := s) rfl ?_
              refine fu_bind (fu_cVJ rfl rfl rfl rfl rfl (fu_recv fr_117 am_at_X12_laysNeeds rfl) (e_X12_laysNeeds d (by omega) s x2)) (fun r12 => ?_)
              show fu_J _ _ (fr_X d (some .int) k_X12_endings 49 [.ref 117, .int x1, .int x2] [] r12)
              refine fu_go 1 (pc' := 50) (ls' := [.ref 117, .int x1, .int x2]) (st' := [.ref 117]) (s' := r12) rfl ?_
              refine fu_bind (fu_cVJ rfl rfl rfl rfl rfl (fu_recv fr_117 am_at_X12_shortestRing rfl) (e_X12_shortestRing d (by omega) r12)) (fun r13 => ?_)
              show fu_J _ _ (fr_X d (some .int) k_X12_endings 53 [.ref 117, .int x1, .int x2] [.int r13] r12)
              refine fu_ite (fun h14 => fu_step (fu_if_ge_t rfl h14) ?_) (fun h14 => fu_step (fu_if_ge_f rfl h14) ?_)
              · refine fu_go 2 (pc' := 58) (ls' := [.ref 117, .int x2, .int x2]) (st' := []) (s' := r12) rfl ?_
                exact fu_leaf rfl ⟨.inr rfl, .inr rfl, .inr rfl, trivial⟩
              · exact fu_leaf rfl ⟨.inr rfl, .inr rfl, .inr rfl, trivial⟩
            · refine fu_go 1 (pc' := 58) (ls' := [.ref 117, .int x1, .int x2]) (st' := []) (s' := s) rfl ?_
              exact fu_leaf rfl ⟨.inr rfl, .inr rfl, .inr rfl, trivial⟩
        · exact fu_leaf rfl ⟨.inr rfl, .inr rfl, .inr rfl, trivial⟩
      show fu_J _ _ (fr_X d (some .int) k_X12_endings 58 [.ref 117, .int j3.1, .int x2] [] j3.2)
      refine fu_go 2 (pc' := 4) (ls' := [.ref 117, .int j3.1, .int (x2 + (1 : Int32))]) (st' := []) (s' := j3.2) rfl ?_
      exact fu_drop (ls' := [.ref 117, .int j3.1, .int (x2 + (1 : Int32))]) ⟨.inr rfl, .inr rfl, .inr rfl, trivial⟩ (ih j3.2 j3.1 (x2 + (1 : Int32)))
    · exact fu_leaf rfl ⟨.inl rfl, .inr rfl, .inl rfl, trivial⟩
set_option maxRecDepth 100000 in
theorem e_X12_endings (d : Nat) (hd : 7 ≤ d) (s : fu_S) : fu_J (f_X12_endings s) (fun r => some (some (.int r.1), r.2)) (am_D (fu_ho fr_sh) am_m d 345 [.ref 117] s) := by
  obtain ⟨d, rfl⟩ : ∃ e, d = e + 1 := ⟨d - 1, by omega⟩
  refine fu_enter (ls := [.ref 117, am_U, am_U]) am_at_X12_endings rfl rfl ?_
  show fu_J _ _ (fr_X d (some .int) k_X12_endings 0 [.ref 117, am_U, am_U] [] s)
  unfold f_X12_endings
  refine fu_go 4 (pc' := 4) (ls' := [.ref 117, .int (-1 : Int32), .int (0 : Int32)]) (st' := []) (s' := s) rfl ?_
  refine fu_drop (ls' := [.ref 117, .int (-1 : Int32), .int (0 : Int32)]) ⟨.inr rfl, .inr rfl, .inr rfl, trivial⟩ ?_
  refine fu_bind (el_X12_endings_4 d (by omega) fu_N s (-1 : Int32) (0 : Int32)) (fun r15 => ?_)
  show fu_J _ _ (fr_X d (some .int) k_X12_endings 64 [am_U, .int r15.1, am_U] [] r15.2)
  refine fu_go 1 (pc' := 65) (ls' := [am_U, .int r15.1, am_U]) (st' := [.int r15.1]) (s' := r15.2) rfl ?_
  exact fu_iret rfl rfl
/-! X12_ending -/
set_option maxRecDepth 100000 in
theorem e_X12_ending (d : Nat) (hd : 8 ≤ d) (s : fu_S) : fu_J (f_X12_ending s) (fun r => some (some (.int r.1), r.2)) (am_D (fu_ho fr_sh) am_m d 346 [.ref 117] s) := by
  obtain ⟨d, rfl⟩ : ∃ e, d = e + 1 := ⟨d - 1, by omega⟩
  refine fu_enter (ls := [.ref 117]) am_at_X12_ending rfl rfl ?_
  show fu_J _ _ (fr_X d (some .int) k_X12_ending 0 [.ref 117] [] s)
  unfold f_X12_ending
  refine fu_go 2 (pc' := 2) (ls' := [.ref 117]) (st' := [.int (0 : Int32), .ref 117]) (s' := s) rfl ?_
  refine fu_lets (b := (fu_pi s 117 1 (0 : Int32))) (fu_putI rfl fr_117 rfl rfl) (fun s1 => ?_)
  refine fu_go 2 (pc' := 7) (ls' := [.ref 117]) (st' := [.int (0 : Int32), .ref 117]) (s' := s1) rfl ?_
  refine fu_lets (b := (fu_pi s1 117 0 (0 : Int32))) (fu_putI rfl fr_117 rfl rfl) (fun s2 => ?_)
  refine fu_go 1 (pc' := 11) (ls' := [.ref 117]) (st' := [.ref 117]) (s' := s2) rfl ?_
  refine fu_bind (fu_cVJ rfl rfl rfl rfl rfl (fu_recv fr_117 am_at_X12_endings rfl) (e_X12_endings d (by omega) s2)) (fun r3 => ?_)
  show fu_J _ _ (fr_X d (some .int) k_X12_ending 14 [.ref 117] [.int r3.1] r3.2)
  refine fu_bind (fu_cSJ rfl rfl rfl rfl rfl rfl (e_X12_sizeOf d (by omega) r3.2 r3.1)) (fun r4 => ?_)
  show fu_J _ _ (fr_X d (some .int) k_X12_ending 17 [.ref 117] [.int r4] r3.2)
  exact fu_iret rfl rfl
/-! X12_endingSet -/
set_option maxRecDepth 100000 in
theorem e_X12_endingSet (d : Nat) (hd : 8 ≤ d) (s : fu_S) : fu_J (f_X12_endingSet s) (fun r => some (some (.int r.1), r.2)) (am_D (fu_ho fr_sh) am_m d 347 [.ref 117] s) := by
  obtain ⟨d, rfl⟩ : ∃ e, d = e + 1 := ⟨d - 1, by omega⟩
  refine fu_enter (ls := [.ref 117]) am_at_X12_endingSet rfl rfl ?_
  show fu_J _ _ (fr_X d (some .int) k_X12_endingSet 0 [.ref 117] [] s)
  unfold f_X12_endingSet
  refine fu_go 2 (pc' := 2) (ls' := [.ref 117]) (st' := [.int (0 : Int32), .ref 117]) (s' := s) rfl ?_
  refine fu_lets (b := (fu_pi s 117 1 (0 : Int32))) (fu_putI rfl fr_117 rfl rfl) (fun s1 => ?_)
  refine fu_go 2 (pc' := 7) (ls' := [.ref 117]) (st' := [.int (0 : Int32), .ref 117]) (s' := s1) rfl ?_
  refine fu_lets (b := (fu_pi s1 117 0 (0 : Int32))) (fu_putI rfl fr_117 rfl rfl) (fun s2 => ?_)
  refine fu_go 1 (pc' := 11) (ls' := [.ref 117]) (st' := [.ref 117]) (s' := s2) rfl ?_
  refine fu_bind (fu_cVJ rfl rfl rfl rfl rfl (fu_recv fr_117 am_at_X12_endings rfl) (e_X12_endings d (by omega) s2)) (fun r3 => ?_)
  show fu_J _ _ (fr_X d (some .int) k_X12_endingSet 14 [.ref 117] [.int r3.1] r3.2)
  exact fu_iret rfl rfl
/-! X12_couplesOf -/
theorem el_X12_couplesOf_25 (d : Nat) (hd : 1 ≤ d) : ∀ (n : Nat) (s : fu_S) (x1 : Int32) (x2 : Int32) (x3 : Int32) (x4 : Int32) (x5 : Int32) (x6 : Int32), fu_J (l_X12_couplesOf_25 n s x1 x2 x3 x4 x5 x6) (fun r => fr_X d (some .int) k_X12_couplesOf 101 [.ref 117, .int x1, .int x2, .int x3, .int r.1, .int x5, am_U] [] r.2) (fr_X d (some .int) k_X12_couplesOf 25 [.ref 117, .int x1, .int x2, .int x3, .int x4, .int x5, .int x6] [] s) := by
  intro n
  induction n with
  | zero => intros; exact fu_none
  | succ n ih =>
    intro s x1 x2 x3 x4 x5 x6
    rw [l_X12_couplesOf_25]
    refine fu_go 2 (pc' := 28) (ls' := [.ref 117, .int x1, .int x2, .int x3, .int x4, .int x5, .int x6]) (st' := [.ref 117, .int x6]) (s' := s) rfl ?_
    refine fu_step (fu_getR rfl fr_117 rfl rfl) ?_
    refine fu_go 1 (pc' := 32) (ls' := [.ref 117, .int x1, .int x2, .int x3, .int x4, .int x5, .int x6]) (st' := [.int (0 : Int32), .ref 122, .int x6]) (s' := s) rfl ?_
    refine fu_step (fu_ldIk (k := 0) rfl fr_122 (by decide) (by decide)) ?_
    refine fu_ite (fun h3 => fu_step (fu_ic_ge_t rfl h3) ?_) (fun h3 => fu_step (fu_ic_ge_f rfl h3) ?_)
    · refine fu_go 3 (pc' := 41) (ls' := [.ref 117, .int x1, .int x2, .int x3, .int x4, .int x5, .int x6]) (st' := [.int x6, .int x5, .ref 117]) (s' := s) rfl ?_
      refine fu_bind (fu_cVJ rfl rfl rfl rfl rfl (fu_recv fr_117 am_at_X12_bearerBy rfl) (e_X12_bearerBy d (by omega) s x5 x6)) (fun r4 => ?_)
      show fu_J _ _ (fr_X d (some .int) k_X12_couplesOf 44 [.ref 117, .int x1, .int x2, .int x3, .int x4, .int x5, .int x6] [.int r4] s)
      refine fu_go 1 (pc' := 45) (ls' := [.ref 117, .int x1, .int x2, .int x3, .int x4, .int x5, .int x6]) (st' := [.int x1, .int r4]) (s' := s) rfl ?_
      refine fu_bind (V := fun j5 : Int32 × fu_S => fr_X d (some .int) k_X12_couplesOf 95 [.ref 117, .int x1, .int x2, .int x3, .int j5.1, .int x5, .int x6] [] j5.2) ?_ (fun j5 => ?_)
      · refine fu_ite (fun h6 => fu_step (fu_ic_ne_t rfl h6) ?_) (fun h6 => fu_step (fu_ic_ne_f rfl h6) ?_)
        · refine fu_go 3 (pc' := 53) (ls' := [.ref 117, .int x1, .int x2, .int x3, .int x4, .int x5, .int x6]) (st' := [.int x6, .int x5, .ref 117]) (s' := s) rfl ?_
          refine fu_bind (fu_cVJ rfl rfl rfl rfl rfl (fu_recv fr_117 am_at_X12_spotBy rfl) (e_X12_spotBy d (by omega) s x5 x6)) (fun r7 => ?_)
          show fu_J _ _ (fr_X d (some .int) k_X12_couplesOf 56 [.ref 117, .int x1, .int x2, .int x3, .int x4, .int x5, .int x6] [.int r7] s)
          refine fu_go 1 (pc' := 57) (ls' := [.ref 117, .int x1, .int x2, .int x3, .int x4, .int x5, .int x6]) (st' := [.int x2, .int r7]) (s' := s) rfl ?_
          refine fu_ite (fun h8 => fu_step (fu_ic_ne_t rfl h8) ?_) (fun h8 => fu_step (fu_ic_ne_f rfl h8) ?_)
          · refine fu_go 1 (pc' := 61) (ls' := [.ref 117, .int x1, .int x2, .int x3, .int x4, .int x5, .int x6]) (st' := [.int x3]) (s' := s) rfl ?_
            refine fu_ite (fun h9 => fu_step (fu_if_lt_t rfl h9) ?_) (fun h9 => fu_step (fu_if_lt_f rfl h9) ?_)
            · refine fu_go 3 (pc' := 78) (ls' := [.ref 117, .int x1, .int x2, .int x3, .int (x4 + (1 : Int32)), .int x5, .int x6]) (st' := [.ref 117, .ref 117]) (s' := s) rfl ?_
              refine fu_step (fu_getI rfl fr_117 rfl rfl) ?_
              refine fu_go 1 (pc' := 82) (ls' := [.ref 117, .int x1, .int x2, .int x3, .int (x4 + (1 : Int32)), .int x5, .int x6]) (st' := [.ref 117, .int (s.1 117 27), .ref 117]) (s' := s) rfl ?_
              refine fu_step (fu_getR rfl fr_117 rfl rfl) ?_
              refine fu_go 3 (pc' := 90) (ls' := [.ref 117, .int x1, .int x2, .int x3, .int (x4 + (1 : Int32)), .int x5, .int x6]) (st' := [.int ((16 : Int32) + x6), .ref 122, .int (s.1 117 27), .ref 117]) (s' := s) rfl ?_
              refine fu_guard (fun h10 => fu_step (fu_ldI rfl fr_122 h10) ?_)
              refine fu_go 1 (pc' := 92) (ls' := [.ref 117, .int x1, .int x2, .int x3, .int (x4 + (1 : Int32)), .int x5, .int x6]) (st' := [.int ((s.1 117 27) + (s.1 122 (Int32.toNatClampNeg ((16 : Int32) + x6)))), .ref 117]) (s' := s) rfl ?_
              refine fu_lets (b := (fu_pi s 117 27 ((s.1 117 27) + (s.1 122 (Int32.toNatClampNeg ((16 : Int32) + x6)))))) (fu_putI rfl fr_117 rfl rfl) (fun s11 => ?_)
              exact fu_leaf rfl ⟨.inr rfl, .inr rfl, .inr rfl, .inr rfl, .inr rfl, .inr rfl, .inr rfl, trivial⟩
            · refine fu_go 2 (pc' := 67) (ls' := [.ref 117, .int x1, .int x2, .int x3, .int x4, .int x5, .int x6]) (st' := [.int x3, .int x5]) (s' := s) rfl ?_
              refine fu_ite (fun h12 => fu_step (fu_ic_eq_t rfl h12) ?_) (fun h12 => fu_step (fu_ic_eq_f rfl h12) ?_)
              · refine fu_go 3 (pc' := 78) (ls' := [.ref 117, .int x1, .int x2, .int x3, .int (x4 + (1 : Int32)), .int x5, .int x6]) (st' := [.ref 117, .ref 117]) (s' := s) rfl ?_
                refine fu_step (fu_getI rfl fr_117 rfl rfl) ?_
                refine fu_go 1 (pc' := 82) (ls' := [.ref 117, .int x1, .int x2, .int x3, .int (x4 + (1 : Int32)), .int x5, .int x6]) (st' := [.ref 117, .int (s.1 117 27), .ref 117]) (s' := s) rfl ?_
                refine fu_step (fu_getR rfl fr_117 rfl rfl) ?_
                refine fu_go 3 (pc' := 90) (ls' := [.ref 117, .int x1, .int x2, .int x3, .int (x4 + (1 : Int32)), .int x5, .int x6]) (st' := [.int ((16 : Int32) + x6), .ref 122, .int (s.1 117 27), .ref 117]) (s' := s) rfl ?_
                refine fu_guard (fun h13 => fu_step (fu_ldI rfl fr_122 h13) ?_)
                refine fu_go 1 (pc' := 92) (ls' := [.ref 117, .int x1, .int x2, .int x3, .int (x4 + (1 : Int32)), .int x5, .int x6]) (st' := [.int ((s.1 117 27) + (s.1 122 (Int32.toNatClampNeg ((16 : Int32) + x6)))), .ref 117]) (s' := s) rfl ?_
                refine fu_lets (b := (fu_pi s 117 27 ((s.1 117 27) + (s.1 122 (Int32.toNatClampNeg ((16 : Int32) + x6)))))) (fu_putI rfl fr_117 rfl rfl) (fun s14 => ?_)
                exact fu_leaf rfl ⟨.inr rfl, .inr rfl, .inr rfl, .inr rfl, .inr rfl, .inr rfl, .inr rfl, trivial⟩
              · refine fu_go 1 (pc' := 95) (ls' := [.ref 117, .int x1, .int x2, .int x3, .int x4, .int x5, .int x6]) (st' := []) (s' := s) rfl ?_
                exact fu_leaf rfl ⟨.inr rfl, .inr rfl, .inr rfl, .inr rfl, .inr rfl, .inr rfl, .inr rfl, trivial⟩
          · exact fu_leaf rfl ⟨.inr rfl, .inr rfl, .inr rfl, .inr rfl, .inr rfl, .inr rfl, .inr rfl, trivial⟩
        · exact fu_leaf rfl ⟨.inr rfl, .inr rfl, .inr rfl, .inr rfl, .inr rfl, .inr rfl, .inr rfl, trivial⟩
      show fu_J _ _ (fr_X d (some .int) k_X12_couplesOf 95 [.ref 117, .int x1, .int x2, .int x3, .int j5.1, .int x5, .int x6] [] j5.2)
      refine fu_go 2 (pc' := 25) (ls' := [.ref 117, .int x1, .int x2, .int x3, .int j5.1, .int x5, .int (x6 + (1 : Int32))]) (st' := []) (s' := j5.2) rfl ?_
      exact fu_drop (ls' := [.ref 117, .int x1, .int x2, .int x3, .int j5.1, .int x5, .int (x6 + (1 : Int32))]) ⟨.inr rfl, .inr rfl, .inr rfl, .inr rfl, .inr rfl, .inr rfl, .inr rfl, trivial⟩ (ih j5.2 x1 x2 x3 j5.1 x5 (x6 + (1 : Int32)))
    · exact fu_leaf rfl ⟨.inr rfl, .inr rfl, .inr rfl, .inr rfl, .inr rfl, .inr rfl, .inl rfl, trivial⟩
theorem el_X12_couplesOf_11 (d : Nat) (hd : 1 ≤ d) : ∀ (n : Nat) (s : fu_S) (x1 : Int32) (x2 : Int32) (x3 : Int32) (x4 : Int32) (x5 : Int32), fu_J (l_X12_couplesOf_11 n s x1 x2 x3 x4 x5) (fun r => fr_X d (some .int) k_X12_couplesOf 107 [am_U, am_U, am_U, am_U, .int r.1, am_U, am_U] [] r.2) (fr_X d (some .int) k_X12_couplesOf 11 [.ref 117, .int x1, .int x2, .int x3, .int x4, .int x5, am_U] [] s) := by
  intro n
  induction n with
  | zero => intros; exact fu_none
  | succ n ih =>
    intro s x1 x2 x3 x4 x5
    rw [l_X12_couplesOf_11]
    refine fu_go 2 (pc' := 14) (ls' := [.ref 117, .int x1, .int x2, .int x3, .int x4, .int x5, am_U]) (st' := [.ref 117, .int x5]) (s' := s) rfl ?_
    refine fu_step (fu_getR rfl fr_117 rfl rfl) ?_
    refine fu_go 1 (pc' := 18) (ls' := [.ref 117, .int x1, .int x2, .int x3, .int x4, .int x5, am_U]) (st' := [.int (1 : Int32), .ref 122, .int x5]) (s' := s) rfl ?_
    refine fu_step (fu_ldIk (k := 1) rfl fr_122 (by decide) (by decide)) ?_
    refine fu_ite (fun h2 => fu_step (fu_ic_ge_t rfl h2) ?_) (fun h2 => fu_step (fu_ic_ge_f rfl h2) ?_)
    · refine fu_go 2 (pc' := 25) (ls' := [.ref 117, .int x1, .int x2, .int x3, .int x4, .int x5, .int (0 : Int32)]) (st' := []) (s' := s) rfl ?_
      refine fu_drop (ls' := [.ref 117, .int x1, .int x2, .int x3, .int x4, .int x5, .int (0 : Int32)]) ⟨.inr rfl, .inr rfl, .inr rfl, .inr rfl, .inr rfl, .inr rfl, .inr rfl, trivial⟩ ?_
      refine fu_bind (el_X12_couplesOf_25 d (by omega) fu_N s x1 x2 x3 x4 x5 (0 : Int32)) (fun r15 => ?_)
      show fu_J _ _ (fr_X d (some .int) k_X12_couplesOf 101 [.ref 117, .int x1, .int x2, .int x3, .int r15.1, .int x5, am_U] [] r15.2)
      refine fu_go 2 (pc' := 11) (ls' := [.ref 117, .int x1, .int x2, .int x3, .int r15.1, .int (x5 + (1 : Int32)), am_U]) (st' := []) (s' := r15.2) rfl ?_
      exact fu_drop (ls' := [.ref 117, .int x1, .int x2, .int x3, .int r15.1, .int (x5 + (1 : Int32)), am_U]) ⟨.inr rfl, .inr rfl, .inr rfl, .inr rfl, .inr rfl, .inr rfl, .inl rfl, trivial⟩ (ih r15.2 x1 x2 x3 r15.1 (x5 + (1 : Int32)))
    · exact fu_leaf rfl ⟨.inl rfl, .inl rfl, .inl rfl, .inl rfl, .inr rfl, .inl rfl, .inl rfl, trivial⟩
set_option maxRecDepth 100000 in
theorem e_X12_couplesOf (d : Nat) (hd : 2 ≤ d) (s : fu_S) (a1 : Int32) (a2 : Int32) (a3 : Int32) : fu_J (f_X12_couplesOf s a1 a2 a3) (fun r => some (some (.int r.1), r.2)) (am_D (fu_ho fr_sh) am_m d 348 [.ref 117, .int a1, .int a2, .int a3] s) := by
  obtain ⟨d, rfl⟩ : ∃ e, d = e + 1 := ⟨d - 1, by omega⟩
  refine fu_enter (ls := [.ref 117, .int a1, .int a2, .int a3, am_U, am_U, am_U]) am_at_X12_couplesOf rfl rfl ?_
  show fu_J _ _ (fr_X d (some .int) k_X12_couplesOf 0 [.ref 117, .int a1, .int a2, .int a3, am_U, am_U, am_U] [] s)
  unfold f_X12_couplesOf
  refine fu_go 4 (pc' := 5) (ls' := [.ref 117, .int a1, .int a2, .int a3, .int (0 : Int32), am_U, am_U]) (st' := [.int (0 : Int32), .ref 117]) (s' := s) rfl ?_
  refine fu_lets (b := (fu_pi s 117 27 (0 : Int32))) (fu_putI rfl fr_117 rfl rfl) (fun s1 => ?_)
  refine fu_go 2 (pc' := 11) (ls' := [.ref 117, .int a1, .int a2, .int a3, .int (0 : Int32), .int (0 : Int32), am_U]) (st' := []) (s' := s1) rfl ?_
  refine fu_drop (ls' := [.ref 117, .int a1, .int a2, .int a3, .int (0 : Int32), .int (0 : Int32), am_U]) ⟨.inr rfl, .inr rfl, .inr rfl, .inr rfl, .inr rfl, .inr rfl, .inl rfl, trivial⟩ ?_
  refine fu_bind (el_X12_couplesOf_11 d (by omega) fu_N s1 a1 a2 a3 (0 : Int32) (0 : Int32)) (fun r16 => ?_)
  show fu_J _ _ (fr_X d (some .int) k_X12_couplesOf 107 [am_U, am_U, am_U, am_U, .int r16.1, am_U, am_U] [] r16.2)
  refine fu_go 1 (pc' := 109) (ls' := [am_U, am_U, am_U, am_U, .int r16.1, am_U, am_U]) (st' := [.int r16.1]) (s' := r16.2) rfl ?_
  exact fu_iret rfl rfl
/-! X12_couples -/
set_option maxRecDepth 100000 in
theorem e_X12_couples (d : Nat) (hd : 3 ≤ d) (s : fu_S) (a1 : Int32) (a2 : Int32) : fu_J (f_X12_couples s a1 a2) (fun r => some (some (.int r.1), r.2)) (am_D (fu_ho fr_sh) am_m d 349 [.ref 117, .int a1, .int a2] s) := by
  obtain ⟨d, rfl⟩ : ∃ e, d = e + 1 := ⟨d - 1, by omega⟩
  refine fu_enter (ls := [.ref 117, .int a1, .int a2]) am_at_X12_couples rfl rfl ?_
  show fu_J _ _ (fr_X d (some .int) k_X12_couples 0 [.ref 117, .int a1, .int a2] [] s)
  unfold f_X12_couples
  refine fu_go 2 (pc' := 2) (ls' := [.ref 117, .int a1, .int a2]) (st' := [.int (0 : Int32), .ref 117]) (s' := s) rfl ?_
  refine fu_lets (b := (fu_pi s 117 1 (0 : Int32))) (fu_putI rfl fr_117 rfl rfl) (fun s1 => ?_)
  refine fu_go 2 (pc' := 7) (ls' := [.ref 117, .int a1, .int a2]) (st' := [.int (0 : Int32), .ref 117]) (s' := s1) rfl ?_
  refine fu_lets (b := (fu_pi s1 117 0 (0 : Int32))) (fu_putI rfl fr_117 rfl rfl) (fun s2 => ?_)
  refine fu_go 3 (pc' := 13) (ls' := [.ref 117, .int a1, .int a2]) (st' := [.long (Int32.toInt64 a1), .ref 117]) (s' := s2) rfl ?_
  refine fu_step (fu_cV rfl rfl rfl rfl rfl (fu_recv fr_117 am_at_X12_isPersonAt rfl) (fu_eq (e_X12_isPersonAt d (by omega) s2 (Int32.toInt64 a1)) rfl)) ?_
  show fu_J _ _ (fr_X d (some .int) k_X12_couples 16 [.ref 117, .int a1, .int a2] [.int (fu_b (f_X12_isPersonAt s2 (Int32.toInt64 a1)))] s2)
  refine fu_bind (V := fun j3 : Int32 × fu_S => fr_X d (some .int) k_X12_couples 41 [am_U, am_U, am_U] [.int j3.1] j3.2) ?_ (fun j3 => ?_)
  · refine fu_ite (fun h4 => fu_step (fu_ib_eq_t rfl h4) ?_) (fun h4 => fu_step (fu_ib_eq_f rfl h4) ?_)
    · refine fu_go 1 (pc' := 20) (ls' := [.ref 117, .int a1, .int a2]) (st' := [.int a2]) (s' := s2) rfl ?_
      refine fu_step (fu_cS rfl rfl rfl rfl rfl rfl (fu_eq (e_X12_isSpotAt d (by omega) s2 a2) rfl)) ?_
      show fu_J _ _ (fr_X d (some .int) k_X12_couples 23 [.ref 117, .int a1, .int a2] [.int (fu_b (f_X12_isSpotAt a2))] s2)
      refine fu_ite (fun h5 => fu_step (fu_ib_eq_t rfl h5) ?_) (fun h5 => fu_step (fu_ib_eq_f rfl h5) ?_)
      · refine fu_go 4 (pc' := 30) (ls' := [.ref 117, .int a1, .int a2]) (st' := [.int (-1 : Int32), .int a2, .int a1, .ref 117]) (s' := s2) rfl ?_
        refine fu_bind (fu_cVJ rfl rfl rfl rfl rfl (fu_recv fr_117 am_at_X12_couplesOf rfl) (e_X12_couplesOf d (by omega) s2 a1 a2 (-1 : Int32))) (fun r6 => ?_)
        show fu_J _ _ (fr_X d (some .int) k_X12_couples 33 [.ref 117, .int a1, .int a2] [.int r6.1] r6.2)
        refine fu_go 1 (pc' := 41) (ls' := [.ref 117, .int a1, .int a2]) (st' := [.int r6.1]) (s' := r6.2) rfl ?_
        exact fu_leaf rfl ⟨.inl rfl, .inl rfl, .inl rfl, trivial⟩
      · refine fu_go 2 (pc' := 38) (ls' := [.ref 117, .int a1, .int a2]) (st' := [.int (2 : Int32), .ref 117]) (s' := s2) rfl ?_
        refine fu_let (fu_cVJ rfl rfl rfl rfl rfl (fu_recv fr_117 am_at_X12_refuse rfl) (e_X12_refuse d (by omega) s2 (2 : Int32))) (fun r7 => ?_)
        show fu_J _ _ (fr_X d (some .int) k_X12_couples 41 [.ref 117, .int a1, .int a2] [.int r7.1] r7.2)
        exact fu_leaf rfl ⟨.inl rfl, .inl rfl, .inl rfl, trivial⟩
    · refine fu_go 2 (pc' := 38) (ls' := [.ref 117, .int a1, .int a2]) (st' := [.int (2 : Int32), .ref 117]) (s' := s2) rfl ?_
      refine fu_let (fu_cVJ rfl rfl rfl rfl rfl (fu_recv fr_117 am_at_X12_refuse rfl) (e_X12_refuse d (by omega) s2 (2 : Int32))) (fun r8 => ?_)
      show fu_J _ _ (fr_X d (some .int) k_X12_couples 41 [.ref 117, .int a1, .int a2] [.int r8.1] r8.2)
      exact fu_leaf rfl ⟨.inl rfl, .inl rfl, .inl rfl, trivial⟩
  show fu_J _ _ (fr_X d (some .int) k_X12_couples 41 [am_U, am_U, am_U] [.int j3.1] j3.2)
  exact fu_iret rfl rfl
/-! X12_whose -/
set_option maxRecDepth 100000 in
theorem e_X12_whose (d : Nat) (hd : 3 ≤ d) (s : fu_S) (a1 : Int32) (a2 : Int32) (a3 : Int32) : fu_J (f_X12_whose s a1 a2 a3) (fun r => some (some (.int (fu_b r.1)), r.2)) (am_D (fu_ho fr_sh) am_m d 350 [.ref 117, .int a1, .int a2, .int a3] s) := by
  obtain ⟨d, rfl⟩ : ∃ e, d = e + 1 := ⟨d - 1, by omega⟩
  refine fu_enter (ls := [.ref 117, .int a1, .int a2, .int a3, am_U]) am_at_X12_whose rfl rfl ?_
  show fu_J _ _ (fr_X d (some .boolean) k_X12_whose 0 [.ref 117, .int a1, .int a2, .int a3, am_U] [] s)
  unfold f_X12_whose
  refine fu_go 2 (pc' := 2) (ls' := [.ref 117, .int a1, .int a2, .int a3, am_U]) (st' := [.int (0 : Int32), .ref 117]) (s' := s) rfl ?_
  refine fu_lets (b := (fu_pi s 117 1 (0 : Int32))) (fu_putI rfl fr_117 rfl rfl) (fun s1 => ?_)
  refine fu_go 2 (pc' := 7) (ls' := [.ref 117, .int a1, .int a2, .int a3, am_U]) (st' := [.int (0 : Int32), .ref 117]) (s' := s1) rfl ?_
  refine fu_lets (b := (fu_pi s1 117 0 (0 : Int32))) (fu_putI rfl fr_117 rfl rfl) (fun s2 => ?_)
  refine fu_go 3 (pc' := 13) (ls' := [.ref 117, .int a1, .int a2, .int a3, am_U]) (st' := [.long (Int32.toInt64 a1), .ref 117]) (s' := s2) rfl ?_
  refine fu_step (fu_cV rfl rfl rfl rfl rfl (fu_recv fr_117 am_at_X12_isPersonAt rfl) (fu_eq (e_X12_isPersonAt d (by omega) s2 (Int32.toInt64 a1)) rfl)) ?_
  show fu_J _ _ (fr_X d (some .boolean) k_X12_whose 16 [.ref 117, .int a1, .int a2, .int a3, am_U] [.int (fu_b (f_X12_isPersonAt s2 (Int32.toInt64 a1)))] s2)
  refine fu_ite (fun h3 => fu_step (fu_ib_eq_t rfl h3) ?_) (fun h3 => fu_step (fu_ib_eq_f rfl h3) ?_)
  · refine fu_go 1 (pc' := 20) (ls' := [.ref 117, .int a1, .int a2, .int a3, am_U]) (st' := [.int a2]) (s' := s2) rfl ?_
    refine fu_step (fu_cS rfl rfl rfl rfl rfl rfl (fu_eq (e_X12_isSpotAt d (by omega) s2 a2) rfl)) ?_
    show fu_J _ _ (fr_X d (some .boolean) k_X12_whose 23 [.ref 117, .int a1, .int a2, .int a3, am_U] [.int (fu_b (f_X12_isSpotAt a2))] s2)
    refine fu_ite (fun h4 => fu_step (fu_ib_eq_t rfl h4) ?_) (fun h4 => fu_step (fu_ib_eq_f rfl h4) ?_)
    · refine fu_go 3 (pc' := 29) (ls' := [.ref 117, .int a1, .int a2, .int a3, am_U]) (st' := [.long (Int32.toInt64 a3), .ref 117]) (s' := s2) rfl ?_
      refine fu_step (fu_cV rfl rfl rfl rfl rfl (fu_recv fr_117 am_at_X12_isPersonAt rfl) (fu_eq (e_X12_isPersonAt d (by omega) s2 (Int32.toInt64 a3)) rfl)) ?_
      show fu_J _ _ (fr_X d (some .boolean) k_X12_whose 32 [.ref 117, .int a1, .int a2, .int a3, am_U] [.int (fu_b (f_X12_isPersonAt s2 (Int32.toInt64 a3)))] s2)
      refine fu_ite (fun h5 => fu_step (fu_ib_ne_t rfl h5) ?_) (fun h5 => fu_step (fu_ib_ne_f rfl h5) ?_)
      · refine fu_go 4 (pc' := 45) (ls' := [.ref 117, .int a1, .int a2, .int a3, am_U]) (st' := [.int (-1 : Int32), .int a2, .int a1, .ref 117]) (s' := s2) rfl ?_
        refine fu_bind (fu_cVJ rfl rfl rfl rfl rfl (fu_recv fr_117 am_at_X12_couplesOf rfl) (e_X12_couplesOf d (by omega) s2 a1 a2 (-1 : Int32))) (fun r6 => ?_)
        show fu_J _ _ (fr_X d (some .boolean) k_X12_whose 48 [.ref 117, .int a1, .int a2, .int a3, am_U] [.int r6.1] r6.2)
        refine fu_go 2 (pc' := 50) (ls' := [.ref 117, .int a1, .int a2, .int a3, am_U]) (st' := [.ref 117]) (s' := r6.2) rfl ?_
        refine fu_step (fu_getI rfl fr_117 rfl rfl) ?_
        refine fu_go 2 (pc' := 57) (ls' := [.ref 117, .int a1, .int a2, .int a3, .int (r6.2.1 117 27)]) (st' := [.int (r6.2.1 117 27)]) (s' := r6.2) rfl ?_
        refine fu_ite (fun h7 => fu_step (fu_if_ne_t rfl h7) ?_) (fun h7 => fu_step (fu_if_ne_f rfl h7) ?_)
        · refine fu_go 2 (pc' := 63) (ls' := [.ref 117, .int a1, .int a2, .int a3, .int (r6.2.1 117 27)]) (st' := [.int (8 : Int32), .ref 117]) (s' := r6.2) rfl ?_
          refine fu_let (fu_cVJ rfl rfl rfl rfl rfl (fu_recv fr_117 am_at_X12_no rfl) (e_X12_no d (by omega) r6.2 (8 : Int32))) (fun r8 => ?_)
          show fu_J _ _ (fr_X d (some .boolean) k_X12_whose 66 [.ref 117, .int a1, .int a2, .int a3, .int (r6.2.1 117 27)] [.int (fu_b r8.1)] r8.2)
          exact fu_bret (b := r8.1) rfl rfl
        · refine fu_go 4 (pc' := 71) (ls' := [.ref 117, .int a1, .int a2, .int a3, .int (r6.2.1 117 27)]) (st' := [.int a3, .int a2, .int a1, .ref 117]) (s' := r6.2) rfl ?_
          refine fu_bind (fu_cVJ rfl rfl rfl rfl rfl (fu_recv fr_117 am_at_X12_couplesOf rfl) (e_X12_couplesOf d (by omega) r6.2 a1 a2 a3)) (fun r9 => ?_)
          show fu_J _ _ (fr_X d (some .boolean) k_X12_whose 74 [.ref 117, .int a1, .int a2, .int a3, .int (r6.2.1 117 27)] [.int r9.1] r9.2)
          refine fu_go 3 (pc' := 77) (ls' := [.ref 117, .int a1, .int a2, .int a3, .int (r6.2.1 117 27)]) (st' := [.ref 117, .ref 117]) (s' := r9.2) rfl ?_
          refine fu_step (fu_getI rfl fr_117 rfl rfl) ?_
          refine fu_go 3 (pc' := 84) (ls' := [.ref 117, .int a1, .int a2, .int a3, .int (r6.2.1 117 27)]) (st' := [.long (Int32.toInt64 (r6.2.1 117 27)), .long (Int32.toInt64 (r9.2.1 117 27)), .ref 117]) (s' := r9.2) rfl ?_
          refine fu_bind (fu_cVJ rfl rfl rfl rfl rfl (fu_recv fr_117 am_at_X12_fraction rfl) (e_X12_fraction d (by omega) r9.2 (Int32.toInt64 (r9.2.1 117 27)) (Int32.toInt64 (r6.2.1 117 27)))) (fun r10 => ?_)
          show fu_J _ _ (fr_X d (some .boolean) k_X12_whose 87 [.ref 117, .int a1, .int a2, .int a3, .int (r6.2.1 117 27)] [.int (fu_b r10.1)] r10.2)
          exact fu_bret (b := r10.1) rfl rfl
      · refine fu_go 2 (pc' := 37) (ls' := [.ref 117, .int a1, .int a2, .int a3, am_U]) (st' := [.int (2 : Int32), .ref 117]) (s' := s2) rfl ?_
        refine fu_let (fu_cVJ rfl rfl rfl rfl rfl (fu_recv fr_117 am_at_X12_no rfl) (e_X12_no d (by omega) s2 (2 : Int32))) (fun r11 => ?_)
        show fu_J _ _ (fr_X d (some .boolean) k_X12_whose 40 [.ref 117, .int a1, .int a2, .int a3, am_U] [.int (fu_b r11.1)] r11.2)
        exact fu_bret (b := r11.1) rfl rfl
    · refine fu_go 2 (pc' := 37) (ls' := [.ref 117, .int a1, .int a2, .int a3, am_U]) (st' := [.int (2 : Int32), .ref 117]) (s' := s2) rfl ?_
      refine fu_let (fu_cVJ rfl rfl rfl rfl rfl (fu_recv fr_117 am_at_X12_no rfl) (e_X12_no d (by omega) s2 (2 : Int32))) (fun r12 => ?_)
      show fu_J _ _ (fr_X d (some .boolean) k_X12_whose 40 [.ref 117, .int a1, .int a2, .int a3, am_U] [.int (fu_b r12.1)] r12.2)
      exact fu_bret (b := r12.1) rfl rfl
  · refine fu_go 2 (pc' := 37) (ls' := [.ref 117, .int a1, .int a2, .int a3, am_U]) (st' := [.int (2 : Int32), .ref 117]) (s' := s2) rfl ?_
    refine fu_let (fu_cVJ rfl rfl rfl rfl rfl (fu_recv fr_117 am_at_X12_no rfl) (e_X12_no d (by omega) s2 (2 : Int32))) (fun r13 => ?_)
    show fu_J _ _ (fr_X d (some .boolean) k_X12_whose 40 [.ref 117, .int a1, .int a2, .int a3, am_U] [.int (fu_b r13.1)] r13.2)
    exact fu_bret (b := r13.1) rfl rfl
/-! X12_whyNoLaw -/
theorem el_X12_whyNoLaw_56 (d : Nat) (hd : 2 ≤ d) : ∀ (n : Nat) (s : fu_S) (x1 : Int32) (x2 : Int32) (x3 : Int32), fu_J (l_X12_whyNoLaw_56 n s x1 x2 x3) (fun u => Sum.elim (fun r => some (some (.int r), s)) (fun r => fr_X d (some .int) k_X12_whyNoLaw 121 [am_U, am_U, am_U, am_U] [] s) u) (fr_X d (some .int) k_X12_whyNoLaw 56 [.ref 117, .int x1, .int x2, .int x3] [] s) := by
  intro n
  induction n with
  | zero => intros; exact fu_none
  | succ n ih =>
    intro s x1 x2 x3
    rw [l_X12_whyNoLaw_56]
    refine fu_go 2 (pc' := 58) (ls' := [.ref 117, .int x1, .int x2, .int x3]) (st' := [.int x2, .int x3]) (s' := s) rfl ?_
    refine fu_ite (fun h7 => fu_step (fu_ic_ge_t rfl h7) ?_) (fun h7 => fu_step (fu_ic_ge_f rfl h7) ?_)
    · refine fu_go 6 (pc' := 67) (ls' := [.ref 117, .int x1, .int x2, .int x3]) (st' := [.int ((3 : Int32) * x3), .int x1, .ref 117, .ref 117]) (s' := s) rfl ?_
      refine fu_bind (fu_cVJ rfl rfl rfl rfl rfl (fu_recv fr_117 am_at_X12_numberOf rfl) (e_X12_numberOf d (by omega) s x1 ((3 : Int32) * x3))) (fun r8 => ?_)
      show fu_J _ _ (fr_X d (some .int) k_X12_whyNoLaw 70 [.ref 117, .int x1, .int x2, .int x3] [.long r8, .ref 117] s)
      refine fu_step (fu_cV rfl rfl rfl rfl rfl (fu_recv fr_117 am_at_X12_isPersonAt rfl) (fu_eq (e_X12_isPersonAt d (by omega) s r8) rfl)) ?_
      show fu_J _ _ (fr_X d (some .int) k_X12_whyNoLaw 73 [.ref 117, .int x1, .int x2, .int x3] [.int (fu_b (f_X12_isPersonAt s r8))] s)
      refine fu_ite (fun h9 => fu_step (fu_ib_eq_t rfl h9) ?_) (fun h9 => fu_step (fu_ib_eq_f rfl h9) ?_)
      · refine fu_go 8 (pc' := 84) (ls' := [.ref 117, .int x1, .int x2, .int x3]) (st' := [.int (((3 : Int32) * x3) + (1 : Int32)), .int x1, .ref 117, .ref 117]) (s' := s) rfl ?_
        refine fu_bind (fu_cVJ rfl rfl rfl rfl rfl (fu_recv fr_117 am_at_X12_numberOf rfl) (e_X12_numberOf d (by omega) s x1 (((3 : Int32) * x3) + (1 : Int32)))) (fun r10 => ?_)
        show fu_J _ _ (fr_X d (some .int) k_X12_whyNoLaw 87 [.ref 117, .int x1, .int x2, .int x3] [.long r10, .ref 117] s)
        refine fu_step (fu_cV rfl rfl rfl rfl rfl (fu_recv fr_117 am_at_X12_isPersonAt rfl) (fu_eq (e_X12_isPersonAt d (by omega) s r10) rfl)) ?_
        show fu_J _ _ (fr_X d (some .int) k_X12_whyNoLaw 90 [.ref 117, .int x1, .int x2, .int x3] [.int (fu_b (f_X12_isPersonAt s r10))] s)
        refine fu_ite (fun h11 => fu_step (fu_ib_eq_t rfl h11) ?_) (fun h11 => fu_step (fu_ib_eq_f rfl h11) ?_)
        · refine fu_go 7 (pc' := 100) (ls' := [.ref 117, .int x1, .int x2, .int x3]) (st' := [.int (((3 : Int32) * x3) + (2 : Int32)), .int x1, .ref 117]) (s' := s) rfl ?_
          refine fu_bind (fu_cVJ rfl rfl rfl rfl rfl (fu_recv fr_117 am_at_X12_numberOf rfl) (e_X12_numberOf d (by omega) s x1 (((3 : Int32) * x3) + (2 : Int32)))) (fun r12 => ?_)
          show fu_J _ _ (fr_X d (some .int) k_X12_whyNoLaw 103 [.ref 117, .int x1, .int x2, .int x3] [.long r12] s)
          refine fu_go 2 (pc' := 107) (ls' := [.ref 117, .int x1, .int x2, .int x3]) (st' := [.long (9 : Int64), .long (0 : Int64), .long r12]) (s' := s) rfl ?_
          refine fu_step (fu_cS rfl rfl rfl rfl rfl rfl (fu_eq (e_X12_isIn d (by omega) s r12 (0 : Int64) (9 : Int64)) rfl)) ?_
          show fu_J _ _ (fr_X d (some .int) k_X12_whyNoLaw 110 [.ref 117, .int x1, .int x2, .int x3] [.int (fu_b (f_X12_isIn r12 (0 : Int64) (9 : Int64)))] s)
          refine fu_ite (fun h13 => fu_step (fu_ib_ne_t rfl h13) ?_) (fun h13 => fu_step (fu_ib_ne_f rfl h13) ?_)
          · refine fu_go 2 (pc' := 56) (ls' := [.ref 117, .int x1, .int x2, .int (x3 + (1 : Int32))]) (st' := []) (s' := s) rfl ?_
            exact fu_drop (ls' := [.ref 117, .int x1, .int x2, .int (x3 + (1 : Int32))]) ⟨.inr rfl, .inr rfl, .inr rfl, .inr rfl, trivial⟩ (ih s x1 x2 (x3 + (1 : Int32)))
          · refine fu_go 1 (pc' := 114) (ls' := [.ref 117, .int x1, .int x2, .int x3]) (st' := [.int (5 : Int32)]) (s' := s) rfl ?_
            exact fu_iret rfl rfl
        · refine fu_go 1 (pc' := 114) (ls' := [.ref 117, .int x1, .int x2, .int x3]) (st' := [.int (5 : Int32)]) (s' := s) rfl ?_
          exact fu_iret rfl rfl
      · refine fu_go 1 (pc' := 114) (ls' := [.ref 117, .int x1, .int x2, .int x3]) (st' := [.int (5 : Int32)]) (s' := s) rfl ?_
        exact fu_iret rfl rfl
    · exact fu_leaf rfl ⟨.inl rfl, .inl rfl, .inl rfl, .inl rfl, trivial⟩
set_option maxRecDepth 100000 in
theorem e_X12_whyNoLaw (d : Nat) (hd : 3 ≤ d) (s : fu_S) (a1 : Int32) (a2 : Int32) : fu_J (f_X12_whyNoLaw s a1 a2) (fun r => some (some (.int r), s)) (am_D (fu_ho fr_sh) am_m d 351 [.ref 117, .int a1, .int a2] s) := by
  obtain ⟨d, rfl⟩ : ∃ e, d = e + 1 := ⟨d - 1, by omega⟩
  refine fu_enter (ls := [.ref 117, .int a1, .int a2, am_U]) am_at_X12_whyNoLaw rfl rfl ?_
  show fu_J _ _ (fr_X d (some .int) k_X12_whyNoLaw 0 [.ref 117, .int a1, .int a2, am_U] [] s)
  unfold f_X12_whyNoLaw
  refine fu_go 2 (pc' := 2) (ls' := [.ref 117, .int a1, .int a2, am_U]) (st' := [.int a1, .ref 117]) (s' := s) rfl ?_
  refine fu_step (fu_cV rfl rfl rfl rfl rfl (fu_recv fr_117 am_at_X12_isTray rfl) (fu_eq (e_X12_isTray d (by omega) s a1) rfl)) ?_
  show fu_J _ _ (fr_X d (some .int) k_X12_whyNoLaw 5 [.ref 117, .int a1, .int a2, am_U] [.int (fu_b (f_X12_isTray a1))] s)
  refine fu_ite (fun h1 => fu_step (fu_ib_ne_t rfl h1) ?_) (fun h1 => fu_step (fu_ib_ne_f rfl h1) ?_)
  · refine fu_go 1 (pc' := 11) (ls' := [.ref 117, .int a1, .int a2, am_U]) (st' := [.ref 117]) (s' := s) rfl ?_
    refine fu_step (fu_getR rfl fr_117 rfl rfl) ?_
    refine fu_go 1 (pc' := 15) (ls' := [.ref 117, .int a1, .int a2, am_U]) (st' := [.int a1, .ref 119]) (s' := s) rfl ?_
    refine fu_guard (fun h2 => fu_step (fu_ldI rfl fr_119 h2) ?_)
    refine fu_ite (fun h3 => fu_step (fu_if_ge_t rfl h3) ?_) (fun h3 => fu_step (fu_if_ge_f rfl h3) ?_)
    · refine fu_go 1 (pc' := 20) (ls' := [.ref 117, .int a1, .int a2, am_U]) (st' := [.int (3 : Int32)]) (s' := s) rfl ?_
      exact fu_iret rfl rfl
    · refine fu_go 1 (pc' := 22) (ls' := [.ref 117, .int a1, .int a2, am_U]) (st' := [.ref 117]) (s' := s) rfl ?_
      refine fu_step (fu_getR rfl fr_117 rfl rfl) ?_
      refine fu_go 1 (pc' := 26) (ls' := [.ref 117, .int a1, .int a2, am_U]) (st' := [.int a1, .ref 119]) (s' := s) rfl ?_
      refine fu_guard (fun h4 => fu_step (fu_ldI rfl fr_119 h4) ?_)
      refine fu_go 5 (pc' := 34) (ls' := [.ref 117, .int a1, .int a2, am_U]) (st' := [.long ((3 : Int64) * (Int32.toInt64 a2)), .long (Int32.toInt64 (s.1 119 (Int32.toNatClampNeg a1)))]) (s' := s) rfl ?_
      refine fu_ite (fun h5 => fu_step (fu_lc_ge_t rfl rfl h5) ?_) (fun h5 => fu_step (fu_lc_ge_f rfl rfl h5) ?_)
      · refine fu_go 1 (pc' := 39) (ls' := [.ref 117, .int a1, .int a2, am_U]) (st' := [.int (4 : Int32)]) (s' := s) rfl ?_
        exact fu_iret rfl rfl
      · refine fu_go 4 (pc' := 46) (ls' := [.ref 117, .int a1, .int a2, am_U]) (st' := [.long (15 : Int64), .long (0 : Int64), .long (Int32.toInt64 a2)]) (s' := s) rfl ?_
        refine fu_step (fu_cS rfl rfl rfl rfl rfl rfl (fu_eq (e_X12_isIn d (by omega) s (Int32.toInt64 a2) (0 : Int64) (15 : Int64)) rfl)) ?_
        show fu_J _ _ (fr_X d (some .int) k_X12_whyNoLaw 49 [.ref 117, .int a1, .int a2, am_U] [.int (fu_b (f_X12_isIn (Int32.toInt64 a2) (0 : Int64) (15 : Int64)))] s)
        refine fu_ite (fun h6 => fu_step (fu_ib_ne_t rfl h6) ?_) (fun h6 => fu_step (fu_ib_ne_f rfl h6) ?_)
        · refine fu_go 2 (pc' := 56) (ls' := [.ref 117, .int a1, .int a2, .int (0 : Int32)]) (st' := []) (s' := s) rfl ?_
          refine fu_drop (ls' := [.ref 117, .int a1, .int a2, .int (0 : Int32)]) ⟨.inr rfl, .inr rfl, .inr rfl, .inr rfl, trivial⟩ ?_
          refine fu_bind (el_X12_whyNoLaw_56 d (by omega) fu_N s a1 a2 (0 : Int32)) (fun u => fu_sum (fun a => ?_) (fun r14 => ?_))
          · exact fu_ret rfl
          show fu_J _ _ (fr_X d (some .int) k_X12_whyNoLaw 121 [am_U, am_U, am_U, am_U] [] s)
          refine fu_go 1 (pc' := 122) (ls' := [am_U, am_U, am_U, am_U]) (st' := [.int (0 : Int32)]) (s' := s) rfl ?_
          exact fu_iret rfl rfl
        · refine fu_go 1 (pc' := 53) (ls' := [.ref 117, .int a1, .int a2, am_U]) (st' := [.int (5 : Int32)]) (s' := s) rfl ?_
          exact fu_iret rfl rfl
  · refine fu_go 1 (pc' := 9) (ls' := [.ref 117, .int a1, .int a2, am_U]) (st' := [.int (1 : Int32)]) (s' := s) rfl ?_
    exact fu_iret rfl rfl
/-! X12_isLaw -/
theorem el_X12_isLaw_3 (d : Nat) (hd : 1 ≤ d) : ∀ (n : Nat) (s : fu_S) (x1 : Int32) (x2 : Int32) (x3 : Int32) (x4 : Int32) (x5 : Int32), fu_J (l_X12_isLaw_3 n s x1 x2 x3 x4 x5) (fun u => Sum.elim (fun r => some (some (.int (fu_b r)), s)) (fun r => fr_X d (some .boolean) k_X12_isLaw 80 [am_U, am_U, am_U, am_U, am_U, am_U, am_U] [] s) u) (fr_X d (some .boolean) k_X12_isLaw 3 [.ref 117, .int x1, .int x2, .int x3, .int x4, .int x5, am_U] [] s) := by
  intro n
  induction n with
  | zero => intros; exact fu_none
  | succ n ih =>
    intro s x1 x2 x3 x4 x5
    rw [l_X12_isLaw_3]
    refine fu_go 2 (pc' := 6) (ls' := [.ref 117, .int x1, .int x2, .int x3, .int x4, .int x5, am_U]) (st' := [.int x2, .int x5]) (s' := s) rfl ?_
    refine fu_ite (fun h1 => fu_step (fu_ic_ge_t rfl h1) ?_) (fun h1 => fu_step (fu_ic_ge_f rfl h1) ?_)
    · refine fu_go 5 (pc' := 15) (ls' := [.ref 117, .int x1, .int x2, .int x3, .int x4, .int x5, am_U]) (st' := [.int ((3 : Int32) * x5), .int x1, .ref 117]) (s' := s) rfl ?_
      refine fu_bind (fu_cVJ rfl rfl rfl rfl rfl (fu_recv fr_117 am_at_X12_numberOf rfl) (e_X12_numberOf d (by omega) s x1 ((3 : Int32) * x5))) (fun r2 => ?_)
      show fu_J _ _ (fr_X d (some .boolean) k_X12_isLaw 18 [.ref 117, .int x1, .int x2, .int x3, .int x4, .int x5, am_U] [.long r2] s)
      refine fu_go 6 (pc' := 26) (ls' := [.ref 117, .int x1, .int x2, .int x3, .int x4, .int x5, .int (Int64.toInt32 r2)]) (st' := [.ref 117, .int ((Int64.toInt32 r2) + x3)]) (s' := s) rfl ?_
      refine fu_step (fu_getR rfl fr_117 rfl rfl) ?_
      refine fu_go 1 (pc' := 30) (ls' := [.ref 117, .int x1, .int x2, .int x3, .int x4, .int x5, .int (Int64.toInt32 r2)]) (st' := [.int (1 : Int32), .ref 122, .int ((Int64.toInt32 r2) + x3)]) (s' := s) rfl ?_
      refine fu_step (fu_ldIk (k := 1) rfl fr_122 (by decide) (by decide)) ?_
      refine fu_ite (fun _ => fu_none) (fun h3 => fu_step (fu_rem rfl h3) ?_)
      refine fu_go 8 (pc' := 41) (ls' := [.ref 117, .int x1, .int x2, .int x3, .int x4, .int x5, .int (Int64.toInt32 r2)]) (st' := [.int (((3 : Int32) * x5) + (1 : Int32)), .int x1, .ref 117, .long (Int32.toInt64 (((Int64.toInt32 r2) + x3) - ((Int64.toInt32 r2) + x3) / (s.1 122 1) * (s.1 122 1)))]) (s' := s) rfl ?_
      refine fu_bind (fu_cVJ rfl rfl rfl rfl rfl (fu_recv fr_117 am_at_X12_numberOf rfl) (e_X12_numberOf d (by omega) s x1 (((3 : Int32) * x5) + (1 : Int32)))) (fun r4 => ?_)
      show fu_J _ _ (fr_X d (some .boolean) k_X12_isLaw 44 [.ref 117, .int x1, .int x2, .int x3, .int x4, .int x5, .int (Int64.toInt32 r2)] [.long r4, .long (Int32.toInt64 (((Int64.toInt32 r2) + x3) - ((Int64.toInt32 r2) + x3) / (s.1 122 1) * (s.1 122 1)))] s)
      refine fu_ite (fun h5 => fu_step (fu_lc_ne_t rfl rfl h5) ?_) (fun h5 => fu_step (fu_lc_ne_f rfl rfl h5) ?_)
      · refine fu_go 4 (pc' := 55) (ls' := [.ref 117, .int x1, .int x2, .int x3, .int x4, .int x5, .int (Int64.toInt32 r2)]) (st' := [.int (10 : Int32), .int (x4 + (Int64.toInt32 r2))]) (s' := s) rfl ?_
        refine fu_step (fu_rem rfl (by decide)) ?_
        refine fu_go 8 (pc' := 65) (ls' := [.ref 117, .int x1, .int x2, .int x3, .int x4, .int x5, .int (Int64.toInt32 r2)]) (st' := [.int (((3 : Int32) * x5) + (2 : Int32)), .int x1, .ref 117, .long (Int32.toInt64 ((x4 + (Int64.toInt32 r2)) - (x4 + (Int64.toInt32 r2)) / (10 : Int32) * (10 : Int32)))]) (s' := s) rfl ?_
        refine fu_bind (fu_cVJ rfl rfl rfl rfl rfl (fu_recv fr_117 am_at_X12_numberOf rfl) (e_X12_numberOf d (by omega) s x1 (((3 : Int32) * x5) + (2 : Int32)))) (fun r6 => ?_)
        show fu_J _ _ (fr_X d (some .boolean) k_X12_isLaw 68 [.ref 117, .int x1, .int x2, .int x3, .int x4, .int x5, .int (Int64.toInt32 r2)] [.long r6, .long (Int32.toInt64 ((x4 + (Int64.toInt32 r2)) - (x4 + (Int64.toInt32 r2)) / (10 : Int32) * (10 : Int32)))] s)
        refine fu_ite (fun h7 => fu_step (fu_lc_eq_t rfl rfl h7) ?_) (fun h7 => fu_step (fu_lc_eq_f rfl rfl h7) ?_)
        · refine fu_go 2 (pc' := 3) (ls' := [.ref 117, .int x1, .int x2, .int x3, .int x4, .int (x5 + (1 : Int32)), .int (Int64.toInt32 r2)]) (st' := []) (s' := s) rfl ?_
          exact fu_drop (ls' := [.ref 117, .int x1, .int x2, .int x3, .int x4, .int (x5 + (1 : Int32)), am_U]) ⟨.inr rfl, .inr rfl, .inr rfl, .inr rfl, .inr rfl, .inr rfl, .inl rfl, trivial⟩ (ih s x1 x2 x3 x4 (x5 + (1 : Int32)))
        · refine fu_go 1 (pc' := 73) (ls' := [.ref 117, .int x1, .int x2, .int x3, .int x4, .int x5, .int (Int64.toInt32 r2)]) (st' := [.int (0 : Int32)]) (s' := s) rfl ?_
          exact fu_bret (b := false) rfl rfl
      · refine fu_go 1 (pc' := 73) (ls' := [.ref 117, .int x1, .int x2, .int x3, .int x4, .int x5, .int (Int64.toInt32 r2)]) (st' := [.int (0 : Int32)]) (s' := s) rfl ?_
        exact fu_bret (b := false) rfl rfl
    · exact fu_leaf rfl ⟨.inl rfl, .inl rfl, .inl rfl, .inl rfl, .inl rfl, .inl rfl, .inl rfl, trivial⟩
set_option maxRecDepth 100000 in
theorem e_X12_isLaw (d : Nat) (hd : 2 ≤ d) (s : fu_S) (a1 : Int32) (a2 : Int32) (a3 : Int32) (a4 : Int32) : fu_J (f_X12_isLaw s a1 a2 a3 a4) (fun r => some (some (.int (fu_b r)), s)) (am_D (fu_ho fr_sh) am_m d 352 [.ref 117, .int a1, .int a2, .int a3, .int a4] s) := by
  obtain ⟨d, rfl⟩ : ∃ e, d = e + 1 := ⟨d - 1, by omega⟩
  refine fu_enter (ls := [.ref 117, .int a1, .int a2, .int a3, .int a4, am_U, am_U]) am_at_X12_isLaw rfl rfl ?_
  show fu_J _ _ (fr_X d (some .boolean) k_X12_isLaw 0 [.ref 117, .int a1, .int a2, .int a3, .int a4, am_U, am_U] [] s)
  unfold f_X12_isLaw
  refine fu_go 2 (pc' := 3) (ls' := [.ref 117, .int a1, .int a2, .int a3, .int a4, .int (0 : Int32), am_U]) (st' := []) (s' := s) rfl ?_
  refine fu_drop (ls' := [.ref 117, .int a1, .int a2, .int a3, .int a4, .int (0 : Int32), am_U]) ⟨.inr rfl, .inr rfl, .inr rfl, .inr rfl, .inr rfl, .inr rfl, .inl rfl, trivial⟩ ?_
  refine fu_bind (el_X12_isLaw_3 d (by omega) fu_N s a1 a2 a3 a4 (0 : Int32)) (fun u => fu_sum (fun a => ?_) (fun r8 => ?_))
  · exact fu_ret rfl
  show fu_J _ _ (fr_X d (some .boolean) k_X12_isLaw 80 [am_U, am_U, am_U, am_U, am_U, am_U, am_U] [] s)
  refine fu_go 1 (pc' := 81) (ls' := [am_U, am_U, am_U, am_U, am_U, am_U, am_U]) (st' := [.int (1 : Int32)]) (s' := s) rfl ?_
  exact fu_bret (b := true) rfl rfl
/-! X12_laws -/
theorem el_X12_laws_39 (d : Nat) (hd : 2 ≤ d) : ∀ (n : Nat) (s : fu_S) (x1 : Int32) (x2 : Int32) (x3 : Int32) (x4 : Int32) (x5 : Int32), fu_J (l_X12_laws_39 n s x1 x2 x3 x4 x5) (fun r => fr_X d (some .int) k_X12_laws 73 [.ref 117, .int x1, .int x2, .int r, .int x4, am_U] [] s) (fr_X d (some .int) k_X12_laws 39 [.ref 117, .int x1, .int x2, .int x3, .int x4, .int x5] [] s) := by
  intro n
  induction n with
  | zero => intros; exact fu_none
  | succ n ih =>
    intro s x1 x2 x3 x4 x5
    rw [l_X12_laws_39]
    refine fu_go 2 (pc' := 43) (ls' := [.ref 117, .int x1, .int x2, .int x3, .int x4, .int x5]) (st' := [.int (10 : Int32), .int x5]) (s' := s) rfl ?_
    refine fu_ite (fun h6 => fu_step (fu_ic_ge_t rfl h6) ?_) (fun h6 => fu_step (fu_ic_ge_f rfl h6) ?_)
    · refine fu_go 6 (pc' := 54) (ls' := [.ref 117, .int x1, .int x2, .int x3, .int x4, .int x5]) (st' := [.int x5, .int x4, .int x2, .int x1, .ref 117, .int x3]) (s' := s) rfl ?_
      refine fu_bind (fu_cVJ rfl rfl rfl rfl rfl (fu_recv fr_117 am_at_X12_isLaw rfl) (e_X12_isLaw d (by omega) s x1 x2 x4 x5)) (fun r7 => ?_)
      show fu_J _ _ (fr_X d (some .int) k_X12_laws 57 [.ref 117, .int x1, .int x2, .int x3, .int x4, .int x5] [.int (fu_b r7), .int x3] s)
      refine fu_bind (V := fun j8 : Bool => fr_X d (some .int) k_X12_laws 65 [.ref 117, .int x1, .int x2, am_U, .int x4, .int x5] [.int (fu_b j8), .int x3] s) ?_ (fun j8 => ?_)
      · refine fu_ite (fun h9 => fu_step (fu_ib_eq_t rfl h9) ?_) (fun h9 => fu_step (fu_ib_eq_f rfl h9) ?_)
        · refine fu_go 2 (pc' := 65) (ls' := [.ref 117, .int x1, .int x2, .int x3, .int x4, .int x5]) (st' := [.int (1 : Int32), .int x3]) (s' := s) rfl ?_
          exact fu_leaf rfl ⟨.inr rfl, .inr rfl, .inr rfl, .inl rfl, .inr rfl, .inr rfl, trivial⟩
        · refine fu_go 1 (pc' := 65) (ls' := [.ref 117, .int x1, .int x2, .int x3, .int x4, .int x5]) (st' := [.int (0 : Int32), .int x3]) (s' := s) rfl ?_
          exact fu_leaf rfl ⟨.inr rfl, .inr rfl, .inr rfl, .inl rfl, .inr rfl, .inr rfl, trivial⟩
      show fu_J _ _ (fr_X d (some .int) k_X12_laws 65 [.ref 117, .int x1, .int x2, am_U, .int x4, .int x5] [.int (fu_b j8), .int x3] s)
      refine fu_go 4 (pc' := 39) (ls' := [.ref 117, .int x1, .int x2, .int (x3 + (fu_b j8)), .int x4, .int (x5 + (1 : Int32))]) (st' := []) (s' := s) rfl ?_
      exact fu_drop (ls' := [.ref 117, .int x1, .int x2, .int (x3 + (fu_b j8)), .int x4, .int (x5 + (1 : Int32))]) ⟨.inr rfl, .inr rfl, .inr rfl, .inr rfl, .inr rfl, .inr rfl, trivial⟩ (ih s x1 x2 (x3 + (fu_b j8)) x4 (x5 + (1 : Int32)))
    · exact fu_leaf rfl ⟨.inr rfl, .inr rfl, .inr rfl, .inr rfl, .inr rfl, .inl rfl, trivial⟩
theorem el_X12_laws_29 (d : Nat) (hd : 2 ≤ d) : ∀ (n : Nat) (s : fu_S) (x1 : Int32) (x2 : Int32) (x3 : Int32) (x4 : Int32), fu_J (l_X12_laws_29 n s x1 x2 x3 x4) (fun r => fr_X d (some .int) k_X12_laws 79 [am_U, am_U, am_U, .int r, am_U, am_U] [] s) (fr_X d (some .int) k_X12_laws 29 [.ref 117, .int x1, .int x2, .int x3, .int x4, am_U] [] s) := by
  intro n
  induction n with
  | zero => intros; exact fu_none
  | succ n ih =>
    intro s x1 x2 x3 x4
    rw [l_X12_laws_29]
    refine fu_go 2 (pc' := 33) (ls' := [.ref 117, .int x1, .int x2, .int x3, .int x4, am_U]) (st' := [.int (9 : Int32), .int x4]) (s' := s) rfl ?_
    refine fu_ite (fun h5 => fu_step (fu_ic_gt_t rfl h5) ?_) (fun h5 => fu_step (fu_ic_gt_f rfl h5) ?_)
    · refine fu_go 2 (pc' := 39) (ls' := [.ref 117, .int x1, .int x2, .int x3, .int x4, .int (0 : Int32)]) (st' := []) (s' := s) rfl ?_
      refine fu_drop (ls' := [.ref 117, .int x1, .int x2, .int x3, .int x4, .int (0 : Int32)]) ⟨.inr rfl, .inr rfl, .inr rfl, .inr rfl, .inr rfl, .inr rfl, trivial⟩ ?_
      refine fu_bind (el_X12_laws_39 d (by omega) fu_N s x1 x2 x3 x4 (0 : Int32)) (fun r10 => ?_)
      show fu_J _ _ (fr_X d (some .int) k_X12_laws 73 [.ref 117, .int x1, .int x2, .int r10, .int x4, am_U] [] s)
      refine fu_go 2 (pc' := 29) (ls' := [.ref 117, .int x1, .int x2, .int r10, .int (x4 + (1 : Int32)), am_U]) (st' := []) (s' := s) rfl ?_
      exact fu_drop (ls' := [.ref 117, .int x1, .int x2, .int r10, .int (x4 + (1 : Int32)), am_U]) ⟨.inr rfl, .inr rfl, .inr rfl, .inr rfl, .inr rfl, .inl rfl, trivial⟩ (ih s x1 x2 r10 (x4 + (1 : Int32)))
    · exact fu_leaf rfl ⟨.inl rfl, .inl rfl, .inl rfl, .inr rfl, .inl rfl, .inl rfl, trivial⟩
set_option maxRecDepth 100000 in
theorem e_X12_laws (d : Nat) (hd : 4 ≤ d) (s : fu_S) (a1 : Int32) (a2 : Int32) : fu_J (f_X12_laws s a1 a2) (fun r => some (some (.int r.1), r.2)) (am_D (fu_ho fr_sh) am_m d 353 [.ref 117, .int a1, .int a2] s) := by
  obtain ⟨d, rfl⟩ : ∃ e, d = e + 1 := ⟨d - 1, by omega⟩
  refine fu_enter (ls := [.ref 117, .int a1, .int a2, am_U, am_U, am_U]) am_at_X12_laws rfl rfl ?_
  show fu_J _ _ (fr_X d (some .int) k_X12_laws 0 [.ref 117, .int a1, .int a2, am_U, am_U, am_U] [] s)
  unfold f_X12_laws
  refine fu_go 2 (pc' := 2) (ls' := [.ref 117, .int a1, .int a2, am_U, am_U, am_U]) (st' := [.int (0 : Int32), .ref 117]) (s' := s) rfl ?_
  refine fu_lets (b := (fu_pi s 117 1 (0 : Int32))) (fu_putI rfl fr_117 rfl rfl) (fun s1 => ?_)
  refine fu_go 4 (pc' := 9) (ls' := [.ref 117, .int a1, .int a2, am_U, am_U, am_U]) (st' := [.int a2, .int a1, .ref 117, .ref 117]) (s' := s1) rfl ?_
  refine fu_bind (fu_cVJ rfl rfl rfl rfl rfl (fu_recv fr_117 am_at_X12_whyNoLaw rfl) (e_X12_whyNoLaw d (by omega) s1 a1 a2)) (fun r2 => ?_)
  show fu_J _ _ (fr_X d (some .int) k_X12_laws 12 [.ref 117, .int a1, .int a2, am_U, am_U, am_U] [.int r2, .ref 117] s1)
  refine fu_lets (b := (fu_pi s1 117 0 r2)) (fu_putI rfl fr_117 rfl rfl) (fun s3 => ?_)
  refine fu_go 1 (pc' := 16) (ls' := [.ref 117, .int a1, .int a2, am_U, am_U, am_U]) (st' := [.ref 117]) (s' := s3) rfl ?_
  refine fu_step (fu_getI rfl fr_117 rfl rfl) ?_
  refine fu_ite (fun h4 => fu_step (fu_if_le_t rfl h4) ?_) (fun h4 => fu_step (fu_if_le_f rfl h4) ?_)
  · refine fu_go 4 (pc' := 29) (ls' := [.ref 117, .int a1, .int a2, .int (0 : Int32), .int (1 : Int32), am_U]) (st' := []) (s' := s3) rfl ?_
    refine fu_drop (ls' := [.ref 117, .int a1, .int a2, .int (0 : Int32), .int (1 : Int32), am_U]) ⟨.inr rfl, .inr rfl, .inr rfl, .inr rfl, .inr rfl, .inl rfl, trivial⟩ ?_
    refine fu_bind (el_X12_laws_29 d (by omega) fu_N s3 a1 a2 (0 : Int32) (1 : Int32)) (fun r11 => ?_)
    show fu_J _ _ (fr_X d (some .int) k_X12_laws 79 [am_U, am_U, am_U, .int r11, am_U, am_U] [] s3)
    refine fu_go 1 (pc' := 80) (ls' := [am_U, am_U, am_U, .int r11, am_U, am_U]) (st' := [.int r11]) (s' := s3) rfl ?_
    exact fu_iret rfl rfl
  · refine fu_go 1 (pc' := 23) (ls' := [.ref 117, .int a1, .int a2, am_U, am_U, am_U]) (st' := [.int (-1 : Int32)]) (s' := s3) rfl ?_
    exact fu_iret rfl rfl
/-! X12_lawOf -/
theorem el_X12_lawOf_59 (d : Nat) (hd : 2 ≤ d) : ∀ (n : Nat) (s : fu_S) (x1 : Int32) (x2 : Int32) (x3 : Int32) (x4 : Int32) (x5 : Int32), fu_J (l_X12_lawOf_59 n s x1 x2 x3 x4 x5) (fun u => Sum.elim (fun r => some (some (.int r.1), r.2)) (fun r => fr_X d (some .int) k_X12_lawOf 97 [.ref 117, .int x1, .int x2, .int x3, .int x4, am_U] [] s) u) (fr_X d (some .int) k_X12_lawOf 59 [.ref 117, .int x1, .int x2, .int x3, .int x4, .int x5] [] s) := by
  intro n
  induction n with
  | zero => intros; exact fu_none
  | succ n ih =>
    intro s x1 x2 x3 x4 x5
    rw [l_X12_lawOf_59]
    refine fu_go 2 (pc' := 63) (ls' := [.ref 117, .int x1, .int x2, .int x3, .int x4, .int x5]) (st' := [.int (10 : Int32), .int x5]) (s' := s) rfl ?_
    refine fu_ite (fun h10 => fu_step (fu_ic_ge_t rfl h10) ?_) (fun h10 => fu_step (fu_ic_ge_f rfl h10) ?_)
    · refine fu_go 5 (pc' := 73) (ls' := [.ref 117, .int x1, .int x2, .int x3, .int x4, .int x5]) (st' := [.int x5, .int x4, .int x2, .int x1, .ref 117]) (s' := s) rfl ?_
      refine fu_bind (fu_cVJ rfl rfl rfl rfl rfl (fu_recv fr_117 am_at_X12_isLaw rfl) (e_X12_isLaw d (by omega) s x1 x2 x4 x5)) (fun r11 => ?_)
      show fu_J _ _ (fr_X d (some .int) k_X12_lawOf 76 [.ref 117, .int x1, .int x2, .int x3, .int x4, .int x5] [.int (fu_b r11)] s)
      refine fu_ite (fun h12 => fu_step (fu_ib_eq_t rfl h12) ?_) (fun h12 => fu_step (fu_ib_eq_f rfl h12) ?_)
      · refine fu_go 1 (pc' := 80) (ls' := [.ref 117, .int x1, .int x2, .int x3, .int x4, .int x5]) (st' := [.int x3]) (s' := s) rfl ?_
        refine fu_bind (V := fun j13 : Int32 => fr_X d (some .int) k_X12_lawOf 90 [am_U, am_U, am_U, am_U, am_U, am_U] [.int j13] s) ?_ (fun j13 => ?_)
        · refine fu_ite (fun h14 => fu_step (fu_if_ne_t rfl h14) ?_) (fun h14 => fu_step (fu_if_ne_f rfl h14) ?_)
          · refine fu_go 2 (pc' := 90) (ls' := [.ref 117, .int x1, .int x2, .int x3, .int x4, .int x5]) (st' := [.int x4]) (s' := s) rfl ?_
            exact fu_leaf rfl ⟨.inl rfl, .inl rfl, .inl rfl, .inl rfl, .inl rfl, .inl rfl, trivial⟩
          · refine fu_go 1 (pc' := 90) (ls' := [.ref 117, .int x1, .int x2, .int x3, .int x4, .int x5]) (st' := [.int x5]) (s' := s) rfl ?_
            exact fu_leaf rfl ⟨.inl rfl, .inl rfl, .inl rfl, .inl rfl, .inl rfl, .inl rfl, trivial⟩
        show fu_J _ _ (fr_X d (some .int) k_X12_lawOf 90 [am_U, am_U, am_U, am_U, am_U, am_U] [.int j13] s)
        exact fu_iret rfl rfl
      · refine fu_go 2 (pc' := 59) (ls' := [.ref 117, .int x1, .int x2, .int x3, .int x4, .int (x5 + (1 : Int32))]) (st' := []) (s' := s) rfl ?_
        exact fu_drop (ls' := [.ref 117, .int x1, .int x2, .int x3, .int x4, .int (x5 + (1 : Int32))]) ⟨.inr rfl, .inr rfl, .inr rfl, .inr rfl, .inr rfl, .inr rfl, trivial⟩ (ih s x1 x2 x3 x4 (x5 + (1 : Int32)))
    · exact fu_leaf rfl ⟨.inr rfl, .inr rfl, .inr rfl, .inr rfl, .inr rfl, .inl rfl, trivial⟩
theorem el_X12_lawOf_49 (d : Nat) (hd : 2 ≤ d) : ∀ (n : Nat) (s : fu_S) (x1 : Int32) (x2 : Int32) (x3 : Int32) (x4 : Int32), fu_J (l_X12_lawOf_49 n s x1 x2 x3 x4) (fun u => Sum.elim (fun r => some (some (.int r.1), r.2)) (fun r => fr_X d (some .int) k_X12_lawOf 103 [.ref 117, am_U, am_U, am_U, am_U, am_U] [] s) u) (fr_X d (some .int) k_X12_lawOf 49 [.ref 117, .int x1, .int x2, .int x3, .int x4, am_U] [] s) := by
  intro n
  induction n with
  | zero => intros; exact fu_none
  | succ n ih =>
    intro s x1 x2 x3 x4
    rw [l_X12_lawOf_49]
    refine fu_go 2 (pc' := 53) (ls' := [.ref 117, .int x1, .int x2, .int x3, .int x4, am_U]) (st' := [.int (9 : Int32), .int x4]) (s' := s) rfl ?_
    refine fu_ite (fun h9 => fu_step (fu_ic_gt_t rfl h9) ?_) (fun h9 => fu_step (fu_ic_gt_f rfl h9) ?_)
    · refine fu_go 2 (pc' := 59) (ls' := [.ref 117, .int x1, .int x2, .int x3, .int x4, .int (0 : Int32)]) (st' := []) (s' := s) rfl ?_
      refine fu_drop (ls' := [.ref 117, .int x1, .int x2, .int x3, .int x4, .int (0 : Int32)]) ⟨.inr rfl, .inr rfl, .inr rfl, .inr rfl, .inr rfl, .inr rfl, trivial⟩ ?_
      refine fu_bind (el_X12_lawOf_59 d (by omega) fu_N s x1 x2 x3 x4 (0 : Int32)) (fun u => fu_sum (fun a => ?_) (fun r15 => ?_))
      · exact fu_ret rfl
      show fu_J _ _ (fr_X d (some .int) k_X12_lawOf 97 [.ref 117, .int x1, .int x2, .int x3, .int x4, am_U] [] s)
      refine fu_go 2 (pc' := 49) (ls' := [.ref 117, .int x1, .int x2, .int x3, .int (x4 + (1 : Int32)), am_U]) (st' := []) (s' := s) rfl ?_
      exact fu_drop (ls' := [.ref 117, .int x1, .int x2, .int x3, .int (x4 + (1 : Int32)), am_U]) ⟨.inr rfl, .inr rfl, .inr rfl, .inr rfl, .inr rfl, .inl rfl, trivial⟩ (ih s x1 x2 x3 (x4 + (1 : Int32)))
    · exact fu_leaf rfl ⟨.inr rfl, .inl rfl, .inl rfl, .inl rfl, .inl rfl, .inl rfl, trivial⟩
set_option maxRecDepth 100000 in
theorem e_X12_lawOf (d : Nat) (hd : 4 ≤ d) (s : fu_S) (a1 : Int32) (a2 : Int32) (a3 : Int32) : fu_J (f_X12_lawOf s a1 a2 a3) (fun r => some (some (.int r.1), r.2)) (am_D (fu_ho fr_sh) am_m d 354 [.ref 117, .int a1, .int a2, .int a3] s) := by
  obtain ⟨d, rfl⟩ : ∃ e, d = e + 1 := ⟨d - 1, by omega⟩
  refine fu_enter (ls := [.ref 117, .int a1, .int a2, .int a3, am_U, am_U]) am_at_X12_lawOf rfl rfl ?_
  show fu_J _ _ (fr_X d (some .int) k_X12_lawOf 0 [.ref 117, .int a1, .int a2, .int a3, am_U, am_U] [] s)
  unfold f_X12_lawOf
  refine fu_go 2 (pc' := 2) (ls' := [.ref 117, .int a1, .int a2, .int a3, am_U, am_U]) (st' := [.int (0 : Int32), .ref 117]) (s' := s) rfl ?_
  refine fu_lets (b := (fu_pi s 117 1 (0 : Int32))) (fu_putI rfl fr_117 rfl rfl) (fun s1 => ?_)
  refine fu_go 4 (pc' := 9) (ls' := [.ref 117, .int a1, .int a2, .int a3, am_U, am_U]) (st' := [.int a2, .int a1, .ref 117, .ref 117]) (s' := s1) rfl ?_
  refine fu_bind (fu_cVJ rfl rfl rfl rfl rfl (fu_recv fr_117 am_at_X12_whyNoLaw rfl) (e_X12_whyNoLaw d (by omega) s1 a1 a2)) (fun r2 => ?_)
  show fu_J _ _ (fr_X d (some .int) k_X12_lawOf 12 [.ref 117, .int a1, .int a2, .int a3, am_U, am_U] [.int r2, .ref 117] s1)
  refine fu_lets (b := (fu_pi s1 117 0 r2)) (fu_putI rfl fr_117 rfl rfl) (fun s3 => ?_)
  refine fu_go 1 (pc' := 16) (ls' := [.ref 117, .int a1, .int a2, .int a3, am_U, am_U]) (st' := [.ref 117]) (s' := s3) rfl ?_
  refine fu_step (fu_getI rfl fr_117 rfl rfl) ?_
  refine fu_bind (V := fun j4 : fu_S => fr_X d (some .int) k_X12_lawOf 37 [.ref 117, .int a1, .int a2, .int a3, am_U, am_U] [] j4) ?_ (fun j4 => ?_)
  · refine fu_ite (fun h5 => fu_step (fu_if_ne_t rfl h5) ?_) (fun h5 => fu_step (fu_if_ne_f rfl h5) ?_)
    · refine fu_go 4 (pc' := 26) (ls' := [.ref 117, .int a1, .int a2, .int a3, am_U, am_U]) (st' := [.long (1 : Int64), .long (0 : Int64), .long (Int32.toInt64 a3)]) (s' := s3) rfl ?_
      refine fu_step (fu_cS rfl rfl rfl rfl rfl rfl (fu_eq (e_X12_isIn d (by omega) s3 (Int32.toInt64 a3) (0 : Int64) (1 : Int64)) rfl)) ?_
      show fu_J _ _ (fr_X d (some .int) k_X12_lawOf 29 [.ref 117, .int a1, .int a2, .int a3, am_U, am_U] [.int (fu_b (f_X12_isIn (Int32.toInt64 a3) (0 : Int64) (1 : Int64)))] s3)
      refine fu_ite (fun h6 => fu_step (fu_ib_ne_t rfl h6) ?_) (fun h6 => fu_step (fu_ib_ne_f rfl h6) ?_)
      · exact fu_leaf rfl ⟨.inr rfl, .inr rfl, .inr rfl, .inr rfl, .inl rfl, .inl rfl, trivial⟩
      · refine fu_go 2 (pc' := 34) (ls' := [.ref 117, .int a1, .int a2, .int a3, am_U, am_U]) (st' := [.int (5 : Int32), .ref 117]) (s' := s3) rfl ?_
        refine fu_lets (b := (fu_pi s3 117 0 (5 : Int32))) (fu_putI rfl fr_117 rfl rfl) (fun s7 => ?_)
        exact fu_leaf rfl ⟨.inr rfl, .inr rfl, .inr rfl, .inr rfl, .inl rfl, .inl rfl, trivial⟩
    · exact fu_leaf rfl ⟨.inr rfl, .inr rfl, .inr rfl, .inr rfl, .inl rfl, .inl rfl, trivial⟩
  show fu_J _ _ (fr_X d (some .int) k_X12_lawOf 37 [.ref 117, .int a1, .int a2, .int a3, am_U, am_U] [] j4)
  refine fu_go 1 (pc' := 38) (ls' := [.ref 117, .int a1, .int a2, .int a3, am_U, am_U]) (st' := [.ref 117]) (s' := j4) rfl ?_
  refine fu_step (fu_getI rfl fr_117 rfl rfl) ?_
  refine fu_ite (fun h8 => fu_step (fu_if_le_t rfl h8) ?_) (fun h8 => fu_step (fu_if_le_f rfl h8) ?_)
  · refine fu_go 2 (pc' := 49) (ls' := [.ref 117, .int a1, .int a2, .int a3, .int (1 : Int32), am_U]) (st' := []) (s' := j4) rfl ?_
    refine fu_drop (ls' := [.ref 117, .int a1, .int a2, .int a3, .int (1 : Int32), am_U]) ⟨.inr rfl, .inr rfl, .inr rfl, .inr rfl, .inr rfl, .inl rfl, trivial⟩ ?_
    refine fu_bind (el_X12_lawOf_49 d (by omega) fu_N j4 a1 a2 a3 (1 : Int32)) (fun u => fu_sum (fun a => ?_) (fun r16 => ?_))
    · exact fu_ret rfl
    show fu_J _ _ (fr_X d (some .int) k_X12_lawOf 103 [.ref 117, am_U, am_U, am_U, am_U, am_U] [] j4)
    refine fu_go 2 (pc' := 106) (ls' := [.ref 117, am_U, am_U, am_U, am_U, am_U]) (st' := [.int (8 : Int32), .ref 117]) (s' := j4) rfl ?_
    refine fu_let (fu_cVJ rfl rfl rfl rfl rfl (fu_recv fr_117 am_at_X12_refuse rfl) (e_X12_refuse d (by omega) j4 (8 : Int32))) (fun r17 => ?_)
    show fu_J _ _ (fr_X d (some .int) k_X12_lawOf 109 [.ref 117, am_U, am_U, am_U, am_U, am_U] [.int r17.1] r17.2)
    exact fu_iret rfl rfl
  · refine fu_go 1 (pc' := 45) (ls' := [.ref 117, .int a1, .int a2, .int a3, am_U, am_U]) (st' := [.int (-1 : Int32)]) (s' := j4) rfl ?_
    exact fu_iret rfl rfl
/-! X12_laysHands -/
theorem el_X12_laysHands_2 (d : Nat) (hd : 0 ≤ d) : ∀ (n : Nat) (s : fu_S) (x1 : Int32) (x2 : Int32), fu_J (l_X12_laysHands_2 n s x1 x2) (fun r => fr_X d none k_X12_laysHands 30 [.ref 117, am_U, am_U, am_U, am_U, am_U] [] r) (fr_X d none k_X12_laysHands 2 [.ref 117, .int x1, .int x2, am_U, am_U, am_U] [] s) := by
  intro n
  induction n with
  | zero => intros; exact fu_none
  | succ n ih =>
    intro s x1 x2
    rw [l_X12_laysHands_2]
    refine fu_go 2 (pc' := 5) (ls' := [.ref 117, .int x1, .int x2, am_U, am_U, am_U]) (st' := [.int (7 : Int32), .int x2]) (s' := s) rfl ?_
    refine fu_ite (fun h1 => fu_step (fu_ic_ge_t rfl h1) ?_) (fun h1 => fu_step (fu_ic_ge_f rfl h1) ?_)
    · refine fu_go 1 (pc' := 9) (ls' := [.ref 117, .int x1, .int x2, am_U, am_U, am_U]) (st' := [.ref 117]) (s' := s) rfl ?_
      refine fu_step (fu_getR rfl fr_117 rfl rfl) ?_
      refine fu_go 3 (pc' := 15) (ls' := [.ref 117, .int x1, .int x2, am_U, am_U, am_U]) (st' := [.int x1, .int x2, .int x2, .ref 126]) (s' := s) rfl ?_
      refine fu_bind (V := fun j2 : Int32 => fr_X d none k_X12_laysHands 23 [.ref 117, .int x1, .int x2, am_U, am_U, am_U] [.int j2, .int x2, .ref 126] s) ?_ (fun j2 => ?_)
      · refine fu_ite (fun h3 => fu_step (fu_ic_ne_t rfl h3) ?_) (fun h3 => fu_step (fu_ic_ne_f rfl h3) ?_)
        · refine fu_go 2 (pc' := 23) (ls' := [.ref 117, .int x1, .int x2, am_U, am_U, am_U]) (st' := [.int (0 : Int32), .int x2, .ref 126]) (s' := s) rfl ?_
          exact fu_leaf rfl ⟨.inr rfl, .inr rfl, .inr rfl, .inl rfl, .inl rfl, .inl rfl, trivial⟩
        · refine fu_go 1 (pc' := 23) (ls' := [.ref 117, .int x1, .int x2, am_U, am_U, am_U]) (st' := [.int (-1 : Int32), .int x2, .ref 126]) (s' := s) rfl ?_
          exact fu_leaf rfl ⟨.inr rfl, .inr rfl, .inr rfl, .inl rfl, .inl rfl, .inl rfl, trivial⟩
      show fu_J _ _ (fr_X d none k_X12_laysHands 23 [.ref 117, .int x1, .int x2, am_U, am_U, am_U] [.int j2, .int x2, .ref 126] s)
      refine fu_guard (fun h5 => fu_lets (b := (fu_pi s 126 (Int32.toNatClampNeg x2) j2)) (fu_stI rfl fr_126 h5) (fun s4 => ?_))
      refine fu_go 2 (pc' := 2) (ls' := [.ref 117, .int x1, .int (x2 + (1 : Int32)), am_U, am_U, am_U]) (st' := []) (s' := s4) rfl ?_
      exact fu_drop (ls' := [.ref 117, .int x1, .int (x2 + (1 : Int32)), am_U, am_U, am_U]) ⟨.inr rfl, .inr rfl, .inr rfl, .inl rfl, .inl rfl, .inl rfl, trivial⟩ (ih s4 x1 (x2 + (1 : Int32)))
    · exact fu_leaf rfl ⟨.inr rfl, .inl rfl, .inl rfl, .inl rfl, .inl rfl, .inl rfl, trivial⟩
theorem el_X12_laysHands_56 (d : Nat) (hd : 1 ≤ d) : ∀ (n : Nat) (s : fu_S) (x2 : Int32) (x3 : Int32) (x4 : Bool) (x5 : Int32), fu_J (l_X12_laysHands_56 n s x2 x3 x4 x5) (fun r => fr_X d none k_X12_laysHands 103 [.ref 117, am_U, .int x2, .int x3, .int (fu_b r), am_U] [] s) (fr_X d none k_X12_laysHands 56 [.ref 117, am_U, .int x2, .int x3, .int (fu_b x4), .int x5] [] s) := by
  intro n
  induction n with
  | zero => intros; exact fu_none
  | succ n ih =>
    intro s x2 x3 x4 x5
    rw [l_X12_laysHands_56]
    refine fu_go 2 (pc' := 59) (ls' := [.ref 117, am_U, .int x2, .int x3, .int (fu_b x4), .int x5]) (st' := [.ref 117, .int x5]) (s' := s) rfl ?_
    refine fu_step (fu_getR rfl fr_117 rfl rfl) ?_
    refine fu_go 1 (pc' := 63) (ls' := [.ref 117, am_U, .int x2, .int x3, .int (fu_b x4), .int x5]) (st' := [.int (0 : Int32), .ref 122, .int x5]) (s' := s) rfl ?_
    refine fu_step (fu_ldIk (k := 0) rfl fr_122 (by decide) (by decide)) ?_
    refine fu_ite (fun h9 => fu_step (fu_ic_ge_t rfl h9) ?_) (fun h9 => fu_step (fu_ic_ge_f rfl h9) ?_)
    · refine fu_go 1 (pc' := 69) (ls' := [.ref 117, am_U, .int x2, .int x3, .int (fu_b x4), .int x5]) (st' := [.int (fu_b x4)]) (s' := s) rfl ?_
      refine fu_bind (V := fun j10 : Bool => fr_X d none k_X12_laysHands 95 [.ref 117, am_U, .int x2, .int x3, am_U, .int x5] [.int (fu_b j10)] s) ?_ (fun j10 => ?_)
      · refine fu_ite (fun h11 => fu_step (fu_ib_ne_t rfl h11) ?_) (fun h11 => fu_step (fu_ib_ne_f rfl h11) ?_)
        · refine fu_go 2 (pc' := 95) (ls' := [.ref 117, am_U, .int x2, .int x3, .int (fu_b x4), .int x5]) (st' := [.int (1 : Int32)]) (s' := s) rfl ?_
          exact fu_leaf rfl ⟨.inr rfl, .inl rfl, .inr rfl, .inr rfl, .inl rfl, .inr rfl, trivial⟩
        · refine fu_go 1 (pc' := 73) (ls' := [.ref 117, am_U, .int x2, .int x3, .int (fu_b x4), .int x5]) (st' := [.ref 117]) (s' := s) rfl ?_
          refine fu_step (fu_getR rfl fr_117 rfl rfl) ?_
          refine fu_go 3 (pc' := 80) (ls' := [.ref 117, am_U, .int x2, .int x3, .int (fu_b x4), .int x5]) (st' := [.int x5, .int x3, .ref 117, .ref 126]) (s' := s) rfl ?_
          refine fu_bind (fu_cVJ rfl rfl rfl rfl rfl (fu_recv fr_117 am_at_X12_bearerBy rfl) (e_X12_bearerBy d (by omega) s x3 x5)) (fun r12 => ?_)
          show fu_J _ _ (fr_X d none k_X12_laysHands 83 [.ref 117, am_U, .int x2, .int x3, .int (fu_b x4), .int x5] [.int r12, .ref 126] s)
          refine fu_guard (fun h13 => fu_step (fu_ldI rfl fr_126 h13) ?_)
          refine fu_go 3 (pc' := 87) (ls' := [.ref 117, am_U, .int x2, .int x3, .int (fu_b x4), .int x5]) (st' := [.int (x2 - (1 : Int32)), .int (s.1 126 (Int32.toNatClampNeg r12))]) (s' := s) rfl ?_
          refine fu_ite (fun h14 => fu_step (fu_ic_ne_t rfl h14) ?_) (fun h14 => fu_step (fu_ic_ne_f rfl h14) ?_)
          · refine fu_go 2 (pc' := 95) (ls' := [.ref 117, am_U, .int x2, .int x3, .int (fu_b x4), .int x5]) (st' := [.int (1 : Int32)]) (s' := s) rfl ?_
            exact fu_leaf rfl ⟨.inr rfl, .inl rfl, .inr rfl, .inr rfl, .inl rfl, .inr rfl, trivial⟩
          · refine fu_go 1 (pc' := 95) (ls' := [.ref 117, am_U, .int x2, .int x3, .int (fu_b x4), .int x5]) (st' := [.int (0 : Int32)]) (s' := s) rfl ?_
            exact fu_leaf rfl ⟨.inr rfl, .inl rfl, .inr rfl, .inr rfl, .inl rfl, .inr rfl, trivial⟩
      show fu_J _ _ (fr_X d none k_X12_laysHands 95 [.ref 117, am_U, .int x2, .int x3, am_U, .int x5] [.int (fu_b j10)] s)
      refine fu_go 3 (pc' := 56) (ls' := [.ref 117, am_U, .int x2, .int x3, .int (fu_b j10), .int (x5 + (1 : Int32))]) (st' := []) (s' := s) rfl ?_
      exact fu_drop (ls' := [.ref 117, am_U, .int x2, .int x3, .int (fu_b j10), .int (x5 + (1 : Int32))]) ⟨.inr rfl, .inl rfl, .inr rfl, .inr rfl, .inr rfl, .inr rfl, trivial⟩ (ih s x2 x3 j10 (x5 + (1 : Int32)))
    · exact fu_leaf rfl ⟨.inr rfl, .inl rfl, .inr rfl, .inr rfl, .inr rfl, .inl rfl, trivial⟩
theorem el_X12_laysHands_40 (d : Nat) (hd : 1 ≤ d) : ∀ (n : Nat) (s : fu_S) (x2 : Int32) (x3 : Int32), fu_J (l_X12_laysHands_40 n s x2 x3) (fun r => fr_X d none k_X12_laysHands 130 [.ref 117, am_U, .int x2, am_U, am_U, am_U] [] r) (fr_X d none k_X12_laysHands 40 [.ref 117, am_U, .int x2, .int x3, am_U, am_U] [] s) := by
  intro n
  induction n with
  | zero => intros; exact fu_none
  | succ n ih =>
    intro s x2 x3
    rw [l_X12_laysHands_40]
    refine fu_go 2 (pc' := 42) (ls' := [.ref 117, am_U, .int x2, .int x3, am_U, am_U]) (st' := [.ref 117, .int x3]) (s' := s) rfl ?_
    refine fu_step (fu_getR rfl fr_117 rfl rfl) ?_
    refine fu_go 1 (pc' := 46) (ls' := [.ref 117, am_U, .int x2, .int x3, am_U, am_U]) (st' := [.int (1 : Int32), .ref 122, .int x3]) (s' := s) rfl ?_
    refine fu_step (fu_ldIk (k := 1) rfl fr_122 (by decide) (by decide)) ?_
    refine fu_ite (fun h8 => fu_step (fu_ic_ge_t rfl h8) ?_) (fun h8 => fu_step (fu_ic_ge_f rfl h8) ?_)
    · refine fu_go 4 (pc' := 56) (ls' := [.ref 117, am_U, .int x2, .int x3, .int (0 : Int32), .int (0 : Int32)]) (st' := []) (s' := s) rfl ?_
      refine fu_drop (ls' := [.ref 117, am_U, .int x2, .int x3, .int (0 : Int32), .int (0 : Int32)]) ⟨.inr rfl, .inl rfl, .inr rfl, .inr rfl, .inr rfl, .inr rfl, trivial⟩ ?_
      refine fu_bind (el_X12_laysHands_56 d (by omega) fu_N s x2 x3 false (0 : Int32)) (fun r15 => ?_)
      show fu_J _ _ (fr_X d none k_X12_laysHands 103 [.ref 117, am_U, .int x2, .int x3, .int (fu_b r15), am_U] [] s)
      refine fu_go 1 (pc' := 105) (ls' := [.ref 117, am_U, .int x2, .int x3, .int (fu_b r15), am_U]) (st' := [.int (fu_b r15)]) (s' := s) rfl ?_
      refine fu_bind (V := fun j16 : fu_S => fr_X d none k_X12_laysHands 124 [.ref 117, am_U, .int x2, .int x3, am_U, am_U] [] j16) ?_ (fun j16 => ?_)
      · refine fu_ite (fun h17 => fu_step (fu_ib_eq_t rfl h17) ?_) (fun h17 => fu_step (fu_ib_eq_f rfl h17) ?_)
        · refine fu_go 1 (pc' := 109) (ls' := [.ref 117, am_U, .int x2, .int x3, .int (fu_b r15), am_U]) (st' := [.ref 117]) (s' := s) rfl ?_
          refine fu_step (fu_getR rfl fr_117 rfl rfl) ?_
          refine fu_go 1 (pc' := 113) (ls' := [.ref 117, am_U, .int x2, .int x3, .int (fu_b r15), am_U]) (st' := [.int x3, .ref 126]) (s' := s) rfl ?_
          refine fu_guard (fun h18 => fu_step (fu_ldI rfl fr_126 h18) ?_)
          refine fu_ite (fun h19 => fu_step (fu_if_ge_t rfl h19) ?_) (fun h19 => fu_step (fu_if_ge_f rfl h19) ?_)
          · refine fu_go 1 (pc' := 118) (ls' := [.ref 117, am_U, .int x2, .int x3, .int (fu_b r15), am_U]) (st' := [.ref 117]) (s' := s) rfl ?_
            refine fu_step (fu_getR rfl fr_117 rfl rfl) ?_
            refine fu_go 2 (pc' := 123) (ls' := [.ref 117, am_U, .int x2, .int x3, .int (fu_b r15), am_U]) (st' := [.int x2, .int x3, .ref 126]) (s' := s) rfl ?_
            refine fu_guard (fun h21 => fu_lets (b := (fu_pi s 126 (Int32.toNatClampNeg x3) x2)) (fu_stI rfl fr_126 h21) (fun s20 => ?_))
            exact fu_leaf rfl ⟨.inr rfl, .inl rfl, .inr rfl, .inr rfl, .inl rfl, .inl rfl, trivial⟩
          · exact fu_leaf rfl ⟨.inr rfl, .inl rfl, .inr rfl, .inr rfl, .inl rfl, .inl rfl, trivial⟩
        · exact fu_leaf rfl ⟨.inr rfl, .inl rfl, .inr rfl, .inr rfl, .inl rfl, .inl rfl, trivial⟩
      show fu_J _ _ (fr_X d none k_X12_laysHands 124 [.ref 117, am_U, .int x2, .int x3, am_U, am_U] [] j16)
      refine fu_go 2 (pc' := 40) (ls' := [.ref 117, am_U, .int x2, .int (x3 + (1 : Int32)), am_U, am_U]) (st' := []) (s' := j16) rfl ?_
      exact fu_drop (ls' := [.ref 117, am_U, .int x2, .int (x3 + (1 : Int32)), am_U, am_U]) ⟨.inr rfl, .inl rfl, .inr rfl, .inr rfl, .inl rfl, .inl rfl, trivial⟩ (ih j16 x2 (x3 + (1 : Int32)))
    · exact fu_leaf rfl ⟨.inr rfl, .inl rfl, .inr rfl, .inl rfl, .inl rfl, .inl rfl, trivial⟩
theorem el_X12_laysHands_32 (d : Nat) (hd : 1 ≤ d) : ∀ (n : Nat) (s : fu_S) (x2 : Int32), fu_J (l_X12_laysHands_32 n s x2) (fun r => fr_X d none k_X12_laysHands 136 [am_U, am_U, am_U, am_U, am_U, am_U] [] r) (fr_X d none k_X12_laysHands 32 [.ref 117, am_U, .int x2, am_U, am_U, am_U] [] s) := by
  intro n
  induction n with
  | zero => intros; exact fu_none
  | succ n ih =>
    intro s x2
    rw [l_X12_laysHands_32]
    refine fu_go 2 (pc' := 35) (ls' := [.ref 117, am_U, .int x2, am_U, am_U, am_U]) (st' := [.int (7 : Int32), .int x2]) (s' := s) rfl ?_
    refine fu_ite (fun h7 => fu_step (fu_ic_ge_t rfl h7) ?_) (fun h7 => fu_step (fu_ic_ge_f rfl h7) ?_)
    · refine fu_go 2 (pc' := 40) (ls' := [.ref 117, am_U, .int x2, .int (0 : Int32), am_U, am_U]) (st' := []) (s' := s) rfl ?_
      refine fu_drop (ls' := [.ref 117, am_U, .int x2, .int (0 : Int32), am_U, am_U]) ⟨.inr rfl, .inl rfl, .inr rfl, .inr rfl, .inl rfl, .inl rfl, trivial⟩ ?_
      refine fu_bind (el_X12_laysHands_40 d (by omega) fu_N s x2 (0 : Int32)) (fun r22 => ?_)
      show fu_J _ _ (fr_X d none k_X12_laysHands 130 [.ref 117, am_U, .int x2, am_U, am_U, am_U] [] r22)
      refine fu_go 2 (pc' := 32) (ls' := [.ref 117, am_U, .int (x2 + (1 : Int32)), am_U, am_U, am_U]) (st' := []) (s' := r22) rfl ?_
      exact fu_drop (ls' := [.ref 117, am_U, .int (x2 + (1 : Int32)), am_U, am_U, am_U]) ⟨.inr rfl, .inl rfl, .inr rfl, .inl rfl, .inl rfl, .inl rfl, trivial⟩ (ih r22 (x2 + (1 : Int32)))
    · exact fu_leaf rfl ⟨.inl rfl, .inl rfl, .inl rfl, .inl rfl, .inl rfl, .inl rfl, trivial⟩
set_option maxRecDepth 100000 in
theorem e_X12_laysHands (d : Nat) (hd : 2 ≤ d) (s : fu_S) (a1 : Int32) : fu_J (f_X12_laysHands s a1) (fun r => some (none, r)) (am_D (fu_ho fr_sh) am_m d 355 [.ref 117, .int a1] s) := by
  obtain ⟨d, rfl⟩ : ∃ e, d = e + 1 := ⟨d - 1, by omega⟩
  refine fu_enter (ls := [.ref 117, .int a1, am_U, am_U, am_U, am_U]) am_at_X12_laysHands rfl rfl ?_
  show fu_J _ _ (fr_X d none k_X12_laysHands 0 [.ref 117, .int a1, am_U, am_U, am_U, am_U] [] s)
  unfold f_X12_laysHands
  refine fu_go 2 (pc' := 2) (ls' := [.ref 117, .int a1, .int (0 : Int32), am_U, am_U, am_U]) (st' := []) (s' := s) rfl ?_
  refine fu_drop (ls' := [.ref 117, .int a1, .int (0 : Int32), am_U, am_U, am_U]) ⟨.inr rfl, .inr rfl, .inr rfl, .inl rfl, .inl rfl, .inl rfl, trivial⟩ ?_
  refine fu_bind (el_X12_laysHands_2 d (by omega) fu_N s a1 (0 : Int32)) (fun r6 => ?_)
  show fu_J _ _ (fr_X d none k_X12_laysHands 30 [.ref 117, am_U, am_U, am_U, am_U, am_U] [] r6)
  refine fu_go 2 (pc' := 32) (ls' := [.ref 117, am_U, .int (1 : Int32), am_U, am_U, am_U]) (st' := []) (s' := r6) rfl ?_
  refine fu_drop (ls' := [.ref 117, am_U, .int (1 : Int32), am_U, am_U, am_U]) ⟨.inr rfl, .inl rfl, .inr rfl, .inl rfl, .inl rfl, .inl rfl, trivial⟩ ?_
  refine fu_bind (el_X12_laysHands_32 d (by omega) fu_N r6 (1 : Int32)) (fun r23 => ?_)
  show fu_J _ _ (fr_X d none k_X12_laysHands 136 [am_U, am_U, am_U, am_U, am_U, am_U] [] r23)
  exact fu_vret rfl rfl
/-! X12_hands -/
set_option maxRecDepth 100000 in
theorem e_X12_hands (d : Nat) (hd : 3 ≤ d) (s : fu_S) (a1 : Int32) (a2 : Int32) : fu_J (f_X12_hands s a1 a2) (fun r => some (some (.int r.1), r.2)) (am_D (fu_ho fr_sh) am_m d 356 [.ref 117, .int a1, .int a2] s) := by
  obtain ⟨d, rfl⟩ : ∃ e, d = e + 1 := ⟨d - 1, by omega⟩
  refine fu_enter (ls := [.ref 117, .int a1, .int a2]) am_at_X12_hands rfl rfl ?_
  show fu_J _ _ (fr_X d (some .int) k_X12_hands 0 [.ref 117, .int a1, .int a2] [] s)
  unfold f_X12_hands
  refine fu_go 2 (pc' := 2) (ls' := [.ref 117, .int a1, .int a2]) (st' := [.int (0 : Int32), .ref 117]) (s' := s) rfl ?_
  refine fu_lets (b := (fu_pi s 117 1 (0 : Int32))) (fu_putI rfl fr_117 rfl rfl) (fun s1 => ?_)
  refine fu_go 2 (pc' := 7) (ls' := [.ref 117, .int a1, .int a2]) (st' := [.int (0 : Int32), .ref 117]) (s' := s1) rfl ?_
  refine fu_lets (b := (fu_pi s1 117 0 (0 : Int32))) (fu_putI rfl fr_117 rfl rfl) (fun s2 => ?_)
  refine fu_go 3 (pc' := 13) (ls' := [.ref 117, .int a1, .int a2]) (st' := [.long (Int32.toInt64 a1), .ref 117]) (s' := s2) rfl ?_
  refine fu_step (fu_cV rfl rfl rfl rfl rfl (fu_recv fr_117 am_at_X12_isPersonAt rfl) (fu_eq (e_X12_isPersonAt d (by omega) s2 (Int32.toInt64 a1)) rfl)) ?_
  show fu_J _ _ (fr_X d (some .int) k_X12_hands 16 [.ref 117, .int a1, .int a2] [.int (fu_b (f_X12_isPersonAt s2 (Int32.toInt64 a1)))] s2)
  refine fu_ite (fun h3 => fu_step (fu_ib_eq_t rfl h3) ?_) (fun h3 => fu_step (fu_ib_eq_f rfl h3) ?_)
  · refine fu_go 3 (pc' := 22) (ls' := [.ref 117, .int a1, .int a2]) (st' := [.long (Int32.toInt64 a2), .ref 117]) (s' := s2) rfl ?_
    refine fu_step (fu_cV rfl rfl rfl rfl rfl (fu_recv fr_117 am_at_X12_isPersonAt rfl) (fu_eq (e_X12_isPersonAt d (by omega) s2 (Int32.toInt64 a2)) rfl)) ?_
    show fu_J _ _ (fr_X d (some .int) k_X12_hands 25 [.ref 117, .int a1, .int a2] [.int (fu_b (f_X12_isPersonAt s2 (Int32.toInt64 a2)))] s2)
    refine fu_ite (fun h4 => fu_step (fu_ib_ne_t rfl h4) ?_) (fun h4 => fu_step (fu_ib_ne_f rfl h4) ?_)
    · refine fu_go 2 (pc' := 36) (ls' := [.ref 117, .int a1, .int a2]) (st' := [.int a2, .ref 117]) (s' := s2) rfl ?_
      refine fu_bind (fu_cVJ rfl rfl rfl rfl rfl (fu_recv fr_117 am_at_X12_laysHands rfl) (e_X12_laysHands d (by omega) s2 a2)) (fun r5 => ?_)
      show fu_J _ _ (fr_X d (some .int) k_X12_hands 39 [.ref 117, .int a1, .int a2] [] r5)
      refine fu_go 1 (pc' := 40) (ls' := [.ref 117, .int a1, .int a2]) (st' := [.ref 117]) (s' := r5) rfl ?_
      refine fu_step (fu_getR rfl fr_117 rfl rfl) ?_
      refine fu_go 1 (pc' := 44) (ls' := [.ref 117, .int a1, .int a2]) (st' := [.int a1, .ref 126]) (s' := r5) rfl ?_
      refine fu_guard (fun h6 => fu_step (fu_ldI rfl fr_126 h6) ?_)
      refine fu_bind (V := fun j7 : Int32 × fu_S => fr_X d (some .int) k_X12_hands 63 [am_U, am_U, am_U] [.int j7.1] j7.2) ?_ (fun j7 => ?_)
      · refine fu_ite (fun h8 => fu_step (fu_if_ge_t rfl h8) ?_) (fun h8 => fu_step (fu_if_ge_f rfl h8) ?_)
        · refine fu_go 2 (pc' := 51) (ls' := [.ref 117, .int a1, .int a2]) (st' := [.int (8 : Int32), .ref 117]) (s' := r5) rfl ?_
          refine fu_let (fu_cVJ rfl rfl rfl rfl rfl (fu_recv fr_117 am_at_X12_refuse rfl) (e_X12_refuse d (by omega) r5 (8 : Int32))) (fun r9 => ?_)
          show fu_J _ _ (fr_X d (some .int) k_X12_hands 54 [.ref 117, .int a1, .int a2] [.int r9.1] r9.2)
          refine fu_go 1 (pc' := 63) (ls' := [.ref 117, .int a1, .int a2]) (st' := [.int r9.1]) (s' := r9.2) rfl ?_
          exact fu_leaf rfl ⟨.inl rfl, .inl rfl, .inl rfl, trivial⟩
        · refine fu_go 1 (pc' := 58) (ls' := [.ref 117, .int a1, .int a2]) (st' := [.ref 117]) (s' := r5) rfl ?_
          refine fu_step (fu_getR rfl fr_117 rfl rfl) ?_
          refine fu_go 1 (pc' := 62) (ls' := [.ref 117, .int a1, .int a2]) (st' := [.int a1, .ref 126]) (s' := r5) rfl ?_
          refine fu_guard (fun h10 => fu_step (fu_ldI rfl fr_126 h10) ?_)
          exact fu_leaf rfl ⟨.inl rfl, .inl rfl, .inl rfl, trivial⟩
      show fu_J _ _ (fr_X d (some .int) k_X12_hands 63 [am_U, am_U, am_U] [.int j7.1] j7.2)
      exact fu_iret rfl rfl
    · refine fu_go 2 (pc' := 30) (ls' := [.ref 117, .int a1, .int a2]) (st' := [.int (2 : Int32), .ref 117]) (s' := s2) rfl ?_
      refine fu_let (fu_cVJ rfl rfl rfl rfl rfl (fu_recv fr_117 am_at_X12_refuse rfl) (e_X12_refuse d (by omega) s2 (2 : Int32))) (fun r11 => ?_)
      show fu_J _ _ (fr_X d (some .int) k_X12_hands 33 [.ref 117, .int a1, .int a2] [.int r11.1] r11.2)
      exact fu_iret rfl rfl
  · refine fu_go 2 (pc' := 30) (ls' := [.ref 117, .int a1, .int a2]) (st' := [.int (2 : Int32), .ref 117]) (s' := s2) rfl ?_
    refine fu_let (fu_cVJ rfl rfl rfl rfl rfl (fu_recv fr_117 am_at_X12_refuse rfl) (e_X12_refuse d (by omega) s2 (2 : Int32))) (fun r12 => ?_)
    show fu_J _ _ (fr_X d (some .int) k_X12_hands 33 [.ref 117, .int a1, .int a2] [.int r12.1] r12.2)
    exact fu_iret rfl rfl
/-! X12_way -/
theorem el_X12_way_80 (d : Nat) (hd : 1 ≤ d) : ∀ (n : Nat) (s : fu_S) (x3 : Int32) (x4 : Int32) (x5 : Int32) (x6 : Int32) (x7 : Int32), fu_J (l_X12_way_80 n s x3 x4 x5 x6 x7) (fun r => fr_X d (some .int) k_X12_way 142 [.ref 117, am_U, am_U, .int x3, am_U, .int x5, .int r, am_U, am_U] [] s) (fr_X d (some .int) k_X12_way 80 [.ref 117, am_U, am_U, .int x3, .int x4, .int x5, .int x6, .int x7, am_U] [] s) := by
  intro n
  induction n with
  | zero => intros; exact fu_none
  | succ n ih =>
    intro s x3 x4 x5 x6 x7
    rw [l_X12_way_80]
    refine fu_go 2 (pc' := 83) (ls' := [.ref 117, am_U, am_U, .int x3, .int x4, .int x5, .int x6, .int x7, am_U]) (st' := [.ref 117, .int x7]) (s' := s) rfl ?_
    refine fu_step (fu_getR rfl fr_117 rfl rfl) ?_
    refine fu_go 1 (pc' := 87) (ls' := [.ref 117, am_U, am_U, .int x3, .int x4, .int x5, .int x6, .int x7, am_U]) (st' := [.int (0 : Int32), .ref 122, .int x7]) (s' := s) rfl ?_
    refine fu_step (fu_ldIk (k := 0) rfl fr_122 (by decide) (by decide)) ?_
    refine fu_ite (fun h9 => fu_step (fu_ic_ge_t rfl h9) ?_) (fun h9 => fu_step (fu_ic_ge_f rfl h9) ?_)
    · refine fu_go 3 (pc' := 96) (ls' := [.ref 117, am_U, am_U, .int x3, .int x4, .int x5, .int x6, .int x7, am_U]) (st' := [.int x7, .int x4, .ref 117]) (s' := s) rfl ?_
      refine fu_bind (fu_cVJ rfl rfl rfl rfl rfl (fu_recv fr_117 am_at_X12_bearerBy rfl) (e_X12_bearerBy d (by omega) s x4 x7)) (fun r10 => ?_)
      show fu_J _ _ (fr_X d (some .int) k_X12_way 99 [.ref 117, am_U, am_U, .int x3, .int x4, .int x5, .int x6, .int x7, am_U] [.int r10] s)
      refine fu_go 2 (pc' := 102) (ls' := [.ref 117, am_U, am_U, .int x3, .int x4, .int x5, .int x6, .int x7, .int r10]) (st' := [.ref 117]) (s' := s) rfl ?_
      refine fu_step (fu_getR rfl fr_117 rfl rfl) ?_
      refine fu_go 1 (pc' := 107) (ls' := [.ref 117, am_U, am_U, .int x3, .int x4, .int x5, .int x6, .int x7, .int r10]) (st' := [.int r10, .ref 126]) (s' := s) rfl ?_
      refine fu_guard (fun h11 => fu_step (fu_ldI rfl fr_126 h11) ?_)
      refine fu_go 1 (pc' := 109) (ls' := [.ref 117, am_U, am_U, .int x3, .int x4, .int x5, .int x6, .int x7, .int r10]) (st' := [.ref 117, .int (s.1 126 (Int32.toNatClampNeg r10))]) (s' := s) rfl ?_
      refine fu_step (fu_getR rfl fr_117 rfl rfl) ?_
      refine fu_go 1 (pc' := 114) (ls' := [.ref 117, am_U, am_U, .int x3, .int x4, .int x5, .int x6, .int x7, .int r10]) (st' := [.int x4, .ref 126, .int (s.1 126 (Int32.toNatClampNeg r10))]) (s' := s) rfl ?_
      refine fu_guard (fun h12 => fu_step (fu_ldI rfl fr_126 h12) ?_)
      refine fu_go 2 (pc' := 117) (ls' := [.ref 117, am_U, am_U, .int x3, .int x4, .int x5, .int x6, .int x7, .int r10]) (st' := [.int ((s.1 126 (Int32.toNatClampNeg x4)) - (1 : Int32)), .int (s.1 126 (Int32.toNatClampNeg r10))]) (s' := s) rfl ?_
      refine fu_bind (V := fun j13 : Int32 => fr_X d (some .int) k_X12_way 136 [.ref 117, am_U, am_U, .int x3, .int x4, .int x5, .int j13, .int x7, am_U] [] s) ?_ (fun j13 => ?_)
      · refine fu_ite (fun h14 => fu_step (fu_ic_ne_t rfl h14) ?_) (fun h14 => fu_step (fu_ic_ne_f rfl h14) ?_)
        · refine fu_go 1 (pc' := 122) (ls' := [.ref 117, am_U, am_U, .int x3, .int x4, .int x5, .int x6, .int x7, .int r10]) (st' := [.int x6]) (s' := s) rfl ?_
          refine fu_ite (fun h15 => fu_step (fu_if_lt_t rfl h15) ?_) (fun h15 => fu_step (fu_if_lt_f rfl h15) ?_)
          · refine fu_go 2 (pc' := 136) (ls' := [.ref 117, am_U, am_U, .int x3, .int x4, .int x5, .int r10, .int x7, .int r10]) (st' := []) (s' := s) rfl ?_
            exact fu_leaf rfl ⟨.inr rfl, .inl rfl, .inl rfl, .inr rfl, .inr rfl, .inr rfl, .inr rfl, .inr rfl, .inl rfl, trivial⟩
          · refine fu_go 2 (pc' := 129) (ls' := [.ref 117, am_U, am_U, .int x3, .int x4, .int x5, .int x6, .int x7, .int r10]) (st' := [.int x6, .int r10]) (s' := s) rfl ?_
            refine fu_ite (fun h16 => fu_step (fu_ic_ge_t rfl h16) ?_) (fun h16 => fu_step (fu_ic_ge_f rfl h16) ?_)
            · refine fu_go 2 (pc' := 136) (ls' := [.ref 117, am_U, am_U, .int x3, .int x4, .int x5, .int r10, .int x7, .int r10]) (st' := []) (s' := s) rfl ?_
              exact fu_leaf rfl ⟨.inr rfl, .inl rfl, .inl rfl, .inr rfl, .inr rfl, .inr rfl, .inr rfl, .inr rfl, .inl rfl, trivial⟩
            · exact fu_leaf rfl ⟨.inr rfl, .inl rfl, .inl rfl, .inr rfl, .inr rfl, .inr rfl, .inr rfl, .inr rfl, .inl rfl, trivial⟩
        · exact fu_leaf rfl ⟨.inr rfl, .inl rfl, .inl rfl, .inr rfl, .inr rfl, .inr rfl, .inr rfl, .inr rfl, .inl rfl, trivial⟩
      show fu_J _ _ (fr_X d (some .int) k_X12_way 136 [.ref 117, am_U, am_U, .int x3, .int x4, .int x5, .int j13, .int x7, am_U] [] s)
      refine fu_go 2 (pc' := 80) (ls' := [.ref 117, am_U, am_U, .int x3, .int x4, .int x5, .int j13, .int (x7 + (1 : Int32)), am_U]) (st' := []) (s' := s) rfl ?_
      exact fu_drop (ls' := [.ref 117, am_U, am_U, .int x3, .int x4, .int x5, .int j13, .int (x7 + (1 : Int32)), am_U]) ⟨.inr rfl, .inl rfl, .inl rfl, .inr rfl, .inr rfl, .inr rfl, .inr rfl, .inr rfl, .inl rfl, trivial⟩ (ih s x3 x4 x5 j13 (x7 + (1 : Int32)))
    · exact fu_leaf rfl ⟨.inr rfl, .inl rfl, .inl rfl, .inr rfl, .inl rfl, .inr rfl, .inr rfl, .inl rfl, .inl rfl, trivial⟩
theorem el_X12_way_68 (d : Nat) (hd : 1 ≤ d) : ∀ (n : Nat) (s : fu_S) (x3 : Int32) (x4 : Int32) (x5 : Int32), fu_J (l_X12_way_68 n s x3 x4 x5) (fun r => fr_X d (some .int) k_X12_way 152 [am_U, am_U, am_U, am_U, .int r, am_U, am_U, am_U, am_U] [] s) (fr_X d (some .int) k_X12_way 68 [.ref 117, am_U, am_U, .int x3, .int x4, .int x5, am_U, am_U, am_U] [] s) := by
  intro n
  induction n with
  | zero => intros; exact fu_none
  | succ n ih =>
    intro s x3 x4 x5
    rw [l_X12_way_68]
    refine fu_go 2 (pc' := 71) (ls' := [.ref 117, am_U, am_U, .int x3, .int x4, .int x5, am_U, am_U, am_U]) (st' := [.int x3, .int x5]) (s' := s) rfl ?_
    refine fu_ite (fun h8 => fu_step (fu_ic_ge_t rfl h8) ?_) (fun h8 => fu_step (fu_ic_ge_f rfl h8) ?_)
    · refine fu_go 4 (pc' := 80) (ls' := [.ref 117, am_U, am_U, .int x3, .int x4, .int x5, .int (-1 : Int32), .int (0 : Int32), am_U]) (st' := []) (s' := s) rfl ?_
      refine fu_drop (ls' := [.ref 117, am_U, am_U, .int x3, .int x4, .int x5, .int (-1 : Int32), .int (0 : Int32), am_U]) ⟨.inr rfl, .inl rfl, .inl rfl, .inr rfl, .inr rfl, .inr rfl, .inr rfl, .inr rfl, .inl rfl, trivial⟩ ?_
      refine fu_bind (el_X12_way_80 d (by omega) fu_N s x3 x4 x5 (-1 : Int32) (0 : Int32)) (fun r17 => ?_)
      show fu_J _ _ (fr_X d (some .int) k_X12_way 142 [.ref 117, am_U, am_U, .int x3, am_U, .int x5, .int r17, am_U, am_U] [] s)
      refine fu_go 4 (pc' := 68) (ls' := [.ref 117, am_U, am_U, .int x3, .int r17, .int (x5 + (1 : Int32)), .int r17, am_U, am_U]) (st' := []) (s' := s) rfl ?_
      exact fu_drop (ls' := [.ref 117, am_U, am_U, .int x3, .int r17, .int (x5 + (1 : Int32)), am_U, am_U, am_U]) ⟨.inr rfl, .inl rfl, .inl rfl, .inr rfl, .inr rfl, .inr rfl, .inl rfl, .inl rfl, .inl rfl, trivial⟩ (ih s x3 r17 (x5 + (1 : Int32)))
    · exact fu_leaf rfl ⟨.inl rfl, .inl rfl, .inl rfl, .inl rfl, .inr rfl, .inl rfl, .inl rfl, .inl rfl, .inl rfl, trivial⟩
set_option maxRecDepth 100000 in
theorem e_X12_way (d : Nat) (hd : 3 ≤ d) (s : fu_S) (a1 : Int32) (a2 : Int32) (a3 : Int32) : fu_J (f_X12_way s a1 a2 a3) (fun r => some (some (.int r.1), r.2)) (am_D (fu_ho fr_sh) am_m d 357 [.ref 117, .int a1, .int a2, .int a3] s) := by
  obtain ⟨d, rfl⟩ : ∃ e, d = e + 1 := ⟨d - 1, by omega⟩
  refine fu_enter (ls := [.ref 117, .int a1, .int a2, .int a3, am_U, am_U, am_U, am_U, am_U]) am_at_X12_way rfl rfl ?_
  show fu_J _ _ (fr_X d (some .int) k_X12_way 0 [.ref 117, .int a1, .int a2, .int a3, am_U, am_U, am_U, am_U, am_U] [] s)
  unfold f_X12_way
  refine fu_go 2 (pc' := 2) (ls' := [.ref 117, .int a1, .int a2, .int a3, am_U, am_U, am_U, am_U, am_U]) (st' := [.int (0 : Int32), .ref 117]) (s' := s) rfl ?_
  refine fu_lets (b := (fu_pi s 117 1 (0 : Int32))) (fu_putI rfl fr_117 rfl rfl) (fun s1 => ?_)
  refine fu_go 2 (pc' := 7) (ls' := [.ref 117, .int a1, .int a2, .int a3, am_U, am_U, am_U, am_U, am_U]) (st' := [.int (0 : Int32), .ref 117]) (s' := s1) rfl ?_
  refine fu_lets (b := (fu_pi s1 117 0 (0 : Int32))) (fu_putI rfl fr_117 rfl rfl) (fun s2 => ?_)
  refine fu_go 3 (pc' := 13) (ls' := [.ref 117, .int a1, .int a2, .int a3, am_U, am_U, am_U, am_U, am_U]) (st' := [.long (Int32.toInt64 a1), .ref 117]) (s' := s2) rfl ?_
  refine fu_step (fu_cV rfl rfl rfl rfl rfl (fu_recv fr_117 am_at_X12_isPersonAt rfl) (fu_eq (e_X12_isPersonAt d (by omega) s2 (Int32.toInt64 a1)) rfl)) ?_
  show fu_J _ _ (fr_X d (some .int) k_X12_way 16 [.ref 117, .int a1, .int a2, .int a3, am_U, am_U, am_U, am_U, am_U] [.int (fu_b (f_X12_isPersonAt s2 (Int32.toInt64 a1)))] s2)
  refine fu_ite (fun h3 => fu_step (fu_ib_eq_t rfl h3) ?_) (fun h3 => fu_step (fu_ib_eq_f rfl h3) ?_)
  · refine fu_go 3 (pc' := 22) (ls' := [.ref 117, .int a1, .int a2, .int a3, am_U, am_U, am_U, am_U, am_U]) (st' := [.long (Int32.toInt64 a2), .ref 117]) (s' := s2) rfl ?_
    refine fu_step (fu_cV rfl rfl rfl rfl rfl (fu_recv fr_117 am_at_X12_isPersonAt rfl) (fu_eq (e_X12_isPersonAt d (by omega) s2 (Int32.toInt64 a2)) rfl)) ?_
    show fu_J _ _ (fr_X d (some .int) k_X12_way 25 [.ref 117, .int a1, .int a2, .int a3, am_U, am_U, am_U, am_U, am_U] [.int (fu_b (f_X12_isPersonAt s2 (Int32.toInt64 a2)))] s2)
    refine fu_ite (fun h4 => fu_step (fu_ib_ne_t rfl h4) ?_) (fun h4 => fu_step (fu_ib_ne_f rfl h4) ?_)
    · refine fu_go 2 (pc' := 36) (ls' := [.ref 117, .int a1, .int a2, .int a3, am_U, am_U, am_U, am_U, am_U]) (st' := [.int a2, .ref 117]) (s' := s2) rfl ?_
      refine fu_bind (fu_cVJ rfl rfl rfl rfl rfl (fu_recv fr_117 am_at_X12_laysHands rfl) (e_X12_laysHands d (by omega) s2 a2)) (fun r5 => ?_)
      show fu_J _ _ (fr_X d (some .int) k_X12_way 39 [.ref 117, .int a1, .int a2, .int a3, am_U, am_U, am_U, am_U, am_U] [] r5)
      refine fu_go 4 (pc' := 43) (ls' := [.ref 117, .int a1, .int a2, .int a3, am_U, am_U, am_U, am_U, am_U]) (st' := [.ref 117, .long (0 : Int64), .long (Int32.toInt64 a3)]) (s' := r5) rfl ?_
      refine fu_step (fu_getR rfl fr_117 rfl rfl) ?_
      refine fu_go 1 (pc' := 47) (ls' := [.ref 117, .int a1, .int a2, .int a3, am_U, am_U, am_U, am_U, am_U]) (st' := [.int a1, .ref 126, .long (0 : Int64), .long (Int32.toInt64 a3)]) (s' := r5) rfl ?_
      refine fu_guard (fun h6 => fu_step (fu_ldI rfl fr_126 h6) ?_)
      refine fu_go 1 (pc' := 49) (ls' := [.ref 117, .int a1, .int a2, .int a3, am_U, am_U, am_U, am_U, am_U]) (st' := [.long (Int32.toInt64 (r5.1 126 (Int32.toNatClampNeg a1))), .long (0 : Int64), .long (Int32.toInt64 a3)]) (s' := r5) rfl ?_
      refine fu_step (fu_cS rfl rfl rfl rfl rfl rfl (fu_eq (e_X12_isIn d (by omega) r5 (Int32.toInt64 a3) (0 : Int64) (Int32.toInt64 (r5.1 126 (Int32.toNatClampNeg a1)))) rfl)) ?_
      show fu_J _ _ (fr_X d (some .int) k_X12_way 52 [.ref 117, .int a1, .int a2, .int a3, am_U, am_U, am_U, am_U, am_U] [.int (fu_b (f_X12_isIn (Int32.toInt64 a3) (0 : Int64) (Int32.toInt64 (r5.1 126 (Int32.toNatClampNeg a1)))))] r5)
      refine fu_ite (fun h7 => fu_step (fu_ib_ne_t rfl h7) ?_) (fun h7 => fu_step (fu_ib_ne_f rfl h7) ?_)
      · refine fu_go 4 (pc' := 68) (ls' := [.ref 117, .int a1, .int a2, .int a3, .int a1, .int (0 : Int32), am_U, am_U, am_U]) (st' := []) (s' := r5) rfl ?_
        refine fu_drop (ls' := [.ref 117, am_U, am_U, .int a3, .int a1, .int (0 : Int32), am_U, am_U, am_U]) ⟨.inr rfl, .inl rfl, .inl rfl, .inr rfl, .inr rfl, .inr rfl, .inl rfl, .inl rfl, .inl rfl, trivial⟩ ?_
        refine fu_bind (el_X12_way_68 d (by omega) fu_N r5 a3 a1 (0 : Int32)) (fun r18 => ?_)
        show fu_J _ _ (fr_X d (some .int) k_X12_way 152 [am_U, am_U, am_U, am_U, .int r18, am_U, am_U, am_U, am_U] [] r5)
        refine fu_go 1 (pc' := 154) (ls' := [am_U, am_U, am_U, am_U, .int r18, am_U, am_U, am_U, am_U]) (st' := [.int r18]) (s' := r5) rfl ?_
        exact fu_iret rfl rfl
      · refine fu_go 2 (pc' := 58) (ls' := [.ref 117, .int a1, .int a2, .int a3, am_U, am_U, am_U, am_U, am_U]) (st' := [.int (8 : Int32), .ref 117]) (s' := r5) rfl ?_
        refine fu_let (fu_cVJ rfl rfl rfl rfl rfl (fu_recv fr_117 am_at_X12_refuse rfl) (e_X12_refuse d (by omega) r5 (8 : Int32))) (fun r19 => ?_)
        show fu_J _ _ (fr_X d (some .int) k_X12_way 61 [.ref 117, .int a1, .int a2, .int a3, am_U, am_U, am_U, am_U, am_U] [.int r19.1] r19.2)
        exact fu_iret rfl rfl
    · refine fu_go 2 (pc' := 30) (ls' := [.ref 117, .int a1, .int a2, .int a3, am_U, am_U, am_U, am_U, am_U]) (st' := [.int (2 : Int32), .ref 117]) (s' := s2) rfl ?_
      refine fu_let (fu_cVJ rfl rfl rfl rfl rfl (fu_recv fr_117 am_at_X12_refuse rfl) (e_X12_refuse d (by omega) s2 (2 : Int32))) (fun r20 => ?_)
      show fu_J _ _ (fr_X d (some .int) k_X12_way 33 [.ref 117, .int a1, .int a2, .int a3, am_U, am_U, am_U, am_U, am_U] [.int r20.1] r20.2)
      exact fu_iret rfl rfl
  · refine fu_go 2 (pc' := 30) (ls' := [.ref 117, .int a1, .int a2, .int a3, am_U, am_U, am_U, am_U, am_U]) (st' := [.int (2 : Int32), .ref 117]) (s' := s2) rfl ?_
    refine fu_let (fu_cVJ rfl rfl rfl rfl rfl (fu_recv fr_117 am_at_X12_refuse rfl) (e_X12_refuse d (by omega) s2 (2 : Int32))) (fun r21 => ?_)
    show fu_J _ _ (fr_X d (some .int) k_X12_way 33 [.ref 117, .int a1, .int a2, .int a3, am_U, am_U, am_U, am_U, am_U] [.int r21.1] r21.2)
    exact fu_iret rfl rfl
/-! X12_signs -/
theorem el_X12_signs_39 (d : Nat) (hd : 1 ≤ d) : ∀ (n : Nat) (s : fu_S) (x1 : Int32) (x2 : Int32) (x3 : Int32) (x4 : Int32), fu_J (l_X12_signs_39 n s x1 x2 x3 x4) (fun r => fr_X d (some .int) k_X12_signs 83 [am_U, am_U, am_U, .int r, am_U] [] s) (fr_X d (some .int) k_X12_signs 39 [.ref 117, .int x1, .int x2, .int x3, .int x4] [] s) := by
  intro n
  induction n with
  | zero => intros; exact fu_none
  | succ n ih =>
    intro s x1 x2 x3 x4
    rw [l_X12_signs_39]
    refine fu_go 2 (pc' := 42) (ls' := [.ref 117, .int x1, .int x2, .int x3, .int x4]) (st' := [.ref 117, .int x4]) (s' := s) rfl ?_
    refine fu_step (fu_getR rfl fr_117 rfl rfl) ?_
    refine fu_go 1 (pc' := 46) (ls' := [.ref 117, .int x1, .int x2, .int x3, .int x4]) (st' := [.int (0 : Int32), .ref 122, .int x4]) (s' := s) rfl ?_
    refine fu_step (fu_ldIk (k := 0) rfl fr_122 (by decide) (by decide)) ?_
    refine fu_ite (fun h5 => fu_step (fu_ic_ge_t rfl h5) ?_) (fun h5 => fu_step (fu_ic_ge_f rfl h5) ?_)
    · refine fu_go 4 (pc' := 55) (ls' := [.ref 117, .int x1, .int x2, .int x3, .int x4]) (st' := [.int x4, .int x1, .ref 117, .int x3]) (s' := s) rfl ?_
      refine fu_bind (fu_cVJ rfl rfl rfl rfl rfl (fu_recv fr_117 am_at_X12_bearerBy rfl) (e_X12_bearerBy d (by omega) s x1 x4)) (fun r6 => ?_)
      show fu_J _ _ (fr_X d (some .int) k_X12_signs 58 [.ref 117, .int x1, .int x2, .int x3, .int x4] [.int r6, .int x3] s)
      refine fu_go 1 (pc' := 59) (ls' := [.ref 117, .int x1, .int x2, .int x3, .int x4]) (st' := [.int x2, .int r6, .int x3]) (s' := s) rfl ?_
      refine fu_bind (V := fun j7 : Int32 => fr_X d (some .int) k_X12_signs 75 [.ref 117, .int x1, .int x2, am_U, .int x4] [.int j7, .int x3] s) ?_ (fun j7 => ?_)
      · refine fu_ite (fun h8 => fu_step (fu_ic_ne_t rfl h8) ?_) (fun h8 => fu_step (fu_ic_ne_f rfl h8) ?_)
        · refine fu_go 4 (pc' := 67) (ls' := [.ref 117, .int x1, .int x2, .int x3, .int x4]) (st' := [.int x4, .int x1, .ref 117, .int (1 : Int32), .int x3]) (s' := s) rfl ?_
          refine fu_bind (fu_cVJ rfl rfl rfl rfl rfl (fu_recv fr_117 am_at_X12_spotBy rfl) (e_X12_spotBy d (by omega) s x1 x4)) (fun r9 => ?_)
          show fu_J _ _ (fr_X d (some .int) k_X12_signs 70 [.ref 117, .int x1, .int x2, .int x3, .int x4] [.int r9, .int (1 : Int32), .int x3] s)
          refine fu_go 2 (pc' := 75) (ls' := [.ref 117, .int x1, .int x2, .int x3, .int x4]) (st' := [.int ((1 : Int32) <<< (r9 &&& 31)), .int x3]) (s' := s) rfl ?_
          exact fu_leaf rfl ⟨.inr rfl, .inr rfl, .inr rfl, .inl rfl, .inr rfl, trivial⟩
        · refine fu_go 1 (pc' := 75) (ls' := [.ref 117, .int x1, .int x2, .int x3, .int x4]) (st' := [.int (0 : Int32), .int x3]) (s' := s) rfl ?_
          exact fu_leaf rfl ⟨.inr rfl, .inr rfl, .inr rfl, .inl rfl, .inr rfl, trivial⟩
      show fu_J _ _ (fr_X d (some .int) k_X12_signs 75 [.ref 117, .int x1, .int x2, am_U, .int x4] [.int j7, .int x3] s)
      refine fu_go 4 (pc' := 39) (ls' := [.ref 117, .int x1, .int x2, .int (x3 ||| j7), .int (x4 + (1 : Int32))]) (st' := []) (s' := s) rfl ?_
      exact fu_drop (ls' := [.ref 117, .int x1, .int x2, .int (x3 ||| j7), .int (x4 + (1 : Int32))]) ⟨.inr rfl, .inr rfl, .inr rfl, .inr rfl, .inr rfl, trivial⟩ (ih s x1 x2 (x3 ||| j7) (x4 + (1 : Int32)))
    · exact fu_leaf rfl ⟨.inl rfl, .inl rfl, .inl rfl, .inr rfl, .inl rfl, trivial⟩
set_option maxRecDepth 100000 in
theorem e_X12_signs (d : Nat) (hd : 3 ≤ d) (s : fu_S) (a1 : Int32) (a2 : Int32) : fu_J (f_X12_signs s a1 a2) (fun r => some (some (.int r.1), r.2)) (am_D (fu_ho fr_sh) am_m d 358 [.ref 117, .int a1, .int a2] s) := by
  obtain ⟨d, rfl⟩ : ∃ e, d = e + 1 := ⟨d - 1, by omega⟩
  refine fu_enter (ls := [.ref 117, .int a1, .int a2, am_U, am_U]) am_at_X12_signs rfl rfl ?_
  show fu_J _ _ (fr_X d (some .int) k_X12_signs 0 [.ref 117, .int a1, .int a2, am_U, am_U] [] s)
  unfold f_X12_signs
  refine fu_go 2 (pc' := 2) (ls' := [.ref 117, .int a1, .int a2, am_U, am_U]) (st' := [.int (0 : Int32), .ref 117]) (s' := s) rfl ?_
  refine fu_lets (b := (fu_pi s 117 1 (0 : Int32))) (fu_putI rfl fr_117 rfl rfl) (fun s1 => ?_)
  refine fu_go 2 (pc' := 7) (ls' := [.ref 117, .int a1, .int a2, am_U, am_U]) (st' := [.int (0 : Int32), .ref 117]) (s' := s1) rfl ?_
  refine fu_lets (b := (fu_pi s1 117 0 (0 : Int32))) (fu_putI rfl fr_117 rfl rfl) (fun s2 => ?_)
  refine fu_go 3 (pc' := 13) (ls' := [.ref 117, .int a1, .int a2, am_U, am_U]) (st' := [.long (Int32.toInt64 a1), .ref 117]) (s' := s2) rfl ?_
  refine fu_step (fu_cV rfl rfl rfl rfl rfl (fu_recv fr_117 am_at_X12_isPersonAt rfl) (fu_eq (e_X12_isPersonAt d (by omega) s2 (Int32.toInt64 a1)) rfl)) ?_
  show fu_J _ _ (fr_X d (some .int) k_X12_signs 16 [.ref 117, .int a1, .int a2, am_U, am_U] [.int (fu_b (f_X12_isPersonAt s2 (Int32.toInt64 a1)))] s2)
  refine fu_ite (fun h3 => fu_step (fu_ib_eq_t rfl h3) ?_) (fun h3 => fu_step (fu_ib_eq_f rfl h3) ?_)
  · refine fu_go 3 (pc' := 22) (ls' := [.ref 117, .int a1, .int a2, am_U, am_U]) (st' := [.long (Int32.toInt64 a2), .ref 117]) (s' := s2) rfl ?_
    refine fu_step (fu_cV rfl rfl rfl rfl rfl (fu_recv fr_117 am_at_X12_isPersonAt rfl) (fu_eq (e_X12_isPersonAt d (by omega) s2 (Int32.toInt64 a2)) rfl)) ?_
    show fu_J _ _ (fr_X d (some .int) k_X12_signs 25 [.ref 117, .int a1, .int a2, am_U, am_U] [.int (fu_b (f_X12_isPersonAt s2 (Int32.toInt64 a2)))] s2)
    refine fu_ite (fun h4 => fu_step (fu_ib_ne_t rfl h4) ?_) (fun h4 => fu_step (fu_ib_ne_f rfl h4) ?_)
    · refine fu_go 4 (pc' := 39) (ls' := [.ref 117, .int a1, .int a2, .int (0 : Int32), .int (0 : Int32)]) (st' := []) (s' := s2) rfl ?_
      refine fu_drop (ls' := [.ref 117, .int a1, .int a2, .int (0 : Int32), .int (0 : Int32)]) ⟨.inr rfl, .inr rfl, .inr rfl, .inr rfl, .inr rfl, trivial⟩ ?_
      refine fu_bind (el_X12_signs_39 d (by omega) fu_N s2 a1 a2 (0 : Int32) (0 : Int32)) (fun r10 => ?_)
      show fu_J _ _ (fr_X d (some .int) k_X12_signs 83 [am_U, am_U, am_U, .int r10, am_U] [] s2)
      refine fu_go 1 (pc' := 84) (ls' := [am_U, am_U, am_U, .int r10, am_U]) (st' := [.int r10]) (s' := s2) rfl ?_
      refine fu_bind (fu_cSJ rfl rfl rfl rfl rfl rfl (e_X12_sizeOf d (by omega) s2 r10)) (fun r11 => ?_)
      show fu_J _ _ (fr_X d (some .int) k_X12_signs 87 [am_U, am_U, am_U, .int r10, am_U] [.int r11] s2)
      exact fu_iret rfl rfl
    · refine fu_go 2 (pc' := 30) (ls' := [.ref 117, .int a1, .int a2, am_U, am_U]) (st' := [.int (2 : Int32), .ref 117]) (s' := s2) rfl ?_
      refine fu_let (fu_cVJ rfl rfl rfl rfl rfl (fu_recv fr_117 am_at_X12_refuse rfl) (e_X12_refuse d (by omega) s2 (2 : Int32))) (fun r12 => ?_)
      show fu_J _ _ (fr_X d (some .int) k_X12_signs 33 [.ref 117, .int a1, .int a2, am_U, am_U] [.int r12.1] r12.2)
      exact fu_iret rfl rfl
  · refine fu_go 2 (pc' := 30) (ls' := [.ref 117, .int a1, .int a2, am_U, am_U]) (st' := [.int (2 : Int32), .ref 117]) (s' := s2) rfl ?_
    refine fu_let (fu_cVJ rfl rfl rfl rfl rfl (fu_recv fr_117 am_at_X12_refuse rfl) (e_X12_refuse d (by omega) s2 (2 : Int32))) (fun r13 => ?_)
    show fu_J _ _ (fr_X d (some .int) k_X12_signs 33 [.ref 117, .int a1, .int a2, am_U, am_U] [.int r13.1] r13.2)
    exact fu_iret rfl rfl
