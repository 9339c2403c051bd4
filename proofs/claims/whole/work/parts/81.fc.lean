/-! printed by wip/whole/lift/lift.py: the small machine comes to what the functions answer -/
/-! X10_mostFrom -/
theorem el_X10_mostFrom_22 (d : Nat) (hd : 1 ≤ d) : ∀ (n : Nat) (s : fu_S) (x1 : Int32) (x2 : Int32) (x3 : Int32) (x4 : Int32) (x5 : Int32), fu_J (l_X10_mostFrom_22 n s x1 x2 x3 x4 x5) (fun r => fc_X d (some .int) k_X10_mostFrom 68 [am_U, am_U, am_U, .int r, am_U, am_U] [] s) (fc_X d (some .int) k_X10_mostFrom 22 [.ref 110, .int x1, .int x2, .int x3, .int x4, .int x5] [] s) := by
  intro n
  induction n with
  | zero => intros; exact fu_none
  | succ n ih =>
    intro s x1 x2 x3 x4 x5
    rw [l_X10_mostFrom_22]
    refine fu_go 2 (pc' := 26) (ls' := [.ref 110, .int x1, .int x2, .int x3, .int x4, .int x5]) (st' := [.int (7 : Int32), .int x5]) (s' := s) rfl ?_
    refine fu_ite (fun h3 => fu_step (fu_ic_ge_t rfl h3) ?_) (fun h3 => fu_step (fu_ic_ge_f rfl h3) ?_)
    · refine fu_go 1 (pc' := 31) (ls' := [.ref 110, .int x1, .int x2, .int x3, .int x4, .int x5]) (st' := [.int x4]) (s' := s) rfl ?_
      refine fu_ite (fun h4 => fu_step (fu_if_eq_t rfl h4) ?_) (fun h4 => fu_step (fu_if_eq_f rfl h4) ?_)
      · exact fu_leaf rfl ⟨.inl rfl, .inl rfl, .inl rfl, .inr rfl, .inl rfl, .inl rfl, trivial⟩
      · refine fu_go 5 (pc' := 41) (ls' := [.ref 110, .int x1, .int x2, .int x3, .int x4, .int x5]) (st' := [.int ((x4 >>> (x5 &&& 31)) &&& (1 : Int32))]) (s' := s) rfl ?_
        refine fu_bind (V := fun j5 : Int32 => fc_X d (some .int) k_X10_mostFrom 62 [.ref 110, .int x1, .int x2, .int j5, .int x4, .int x5] [] s) ?_ (fun j5 => ?_)
        · refine fu_ite (fun h6 => fu_step (fu_if_eq_t rfl h6) ?_) (fun h6 => fu_step (fu_if_eq_f rfl h6) ?_)
          · exact fu_leaf rfl ⟨.inr rfl, .inr rfl, .inr rfl, .inr rfl, .inr rfl, .inr rfl, trivial⟩
          · refine fu_go 9 (pc' := 54) (ls' := [.ref 110, .int x1, .int x2, .int x3, .int x4, .int x5]) (st' := [.int (x2 ||| ((1 : Int32) <<< (x5 &&& 31))), .int x1, .ref 110, .int (1 : Int32), .int x3]) (s' := s) rfl ?_
            refine fu_bind (fu_cVJ rfl rfl rfl rfl rfl (fu_recv fc_110 am_at_X10_mostBehind rfl) (e_X10_mostBehind d (by omega) s x1 (x2 ||| ((1 : Int32) <<< (x5 &&& 31))))) (fun r7 => ?_)
            show fu_J _ _ (fc_X d (some .int) k_X10_mostFrom 57 [.ref 110, .int x1, .int x2, .int x3, .int x4, .int x5] [.int r7, .int (1 : Int32), .int x3] s)
            refine fu_go 1 (pc' := 58) (ls' := [.ref 110, .int x1, .int x2, .int x3, .int x4, .int x5]) (st' := [.int ((1 : Int32) + r7), .int x3]) (s' := s) rfl ?_
            refine fu_step (fu_prim rfl rfl rfl rfl) ?_
            refine fu_go 1 (pc' := 62) (ls' := [.ref 110, .int x1, .int x2, .int (fu_mx x3 ((1 : Int32) + r7)), .int x4, .int x5]) (st' := []) (s' := s) rfl ?_
            exact fu_leaf rfl ⟨.inr rfl, .inr rfl, .inr rfl, .inr rfl, .inr rfl, .inr rfl, trivial⟩
        show fu_J _ _ (fc_X d (some .int) k_X10_mostFrom 62 [.ref 110, .int x1, .int x2, .int j5, .int x4, .int x5] [] s)
        refine fu_go 2 (pc' := 22) (ls' := [.ref 110, .int x1, .int x2, .int j5, .int x4, .int (x5 + (1 : Int32))]) (st' := []) (s' := s) rfl ?_
        exact fu_drop (ls' := [.ref 110, .int x1, .int x2, .int j5, .int x4, .int (x5 + (1 : Int32))]) ⟨.inr rfl, .inr rfl, .inr rfl, .inr rfl, .inr rfl, .inr rfl, trivial⟩ (ih s x1 x2 j5 x4 (x5 + (1 : Int32)))
    · exact fu_leaf rfl ⟨.inl rfl, .inl rfl, .inl rfl, .inr rfl, .inl rfl, .inl rfl, trivial⟩
set_option maxRecDepth 100000 in
theorem e_X10_mostFrom (d : Nat) (hd : 2 ≤ d) (s : fu_S) (a1 : Int32) (a2 : Int32) : fu_J (f_X10_mostFrom s a1 a2) (fun r => some (some (.int r), s)) (am_D (fu_ho fc_sh) am_m d 170 [.ref 110, .int a1, .int a2] s) := by
  obtain ⟨d, rfl⟩ : ∃ e, d = e + 1 := ⟨d - 1, by omega⟩
  refine fu_enter (ls := [.ref 110, .int a1, .int a2, am_U, am_U, am_U]) am_at_X10_mostFrom rfl rfl ?_
  show fu_J _ _ (fc_X d (some .int) k_X10_mostFrom 0 [.ref 110, .int a1, .int a2, am_U, am_U, am_U] [] s)
  unfold f_X10_mostFrom
  refine fu_go 3 (pc' := 3) (ls' := [.ref 110, .int a1, .int a2, am_U, am_U, am_U]) (st' := [.int a2, .int a1, .ref 110]) (s' := s) rfl ?_
  refine fu_bind (fu_cVJ rfl rfl rfl rfl rfl (fu_recv fc_110 am_at_X10_mostBehind rfl) (e_X10_mostBehind d (by omega) s a1 a2)) (fun r1 => ?_)
  show fu_J _ _ (fc_X d (some .int) k_X10_mostFrom 6 [.ref 110, .int a1, .int a2, am_U, am_U, am_U] [.int r1] s)
  refine fu_go 2 (pc' := 8) (ls' := [.ref 110, .int a1, .int a2, .int r1, am_U, am_U]) (st' := [.ref 110]) (s' := s) rfl ?_
  refine fu_step (fu_getR rfl fc_110 rfl rfl) ?_
  refine fu_go 1 (pc' := 12) (ls' := [.ref 110, .int a1, .int a2, .int r1, am_U, am_U]) (st' := [.int a1, .ref 111]) (s' := s) rfl ?_
  refine fu_guard (fun h2 => fu_step (fu_ldI rfl fc_111 h2) ?_)
  refine fu_go 7 (pc' := 22) (ls' := [.ref 110, .int a1, .int a2, .int r1, .int ((s.1 111 (Int32.toNatClampNeg a1)) &&& (a2 ^^^ (-1 : Int32))), .int (0 : Int32)]) (st' := []) (s' := s) rfl ?_
  refine fu_drop (ls' := [.ref 110, .int a1, .int a2, .int r1, .int ((s.1 111 (Int32.toNatClampNeg a1)) &&& (a2 ^^^ (-1 : Int32))), .int (0 : Int32)]) ⟨.inr rfl, .inr rfl, .inr rfl, .inr rfl, .inr rfl, .inr rfl, trivial⟩ ?_
  refine fu_bind (el_X10_mostFrom_22 d (by omega) fu_N s a1 a2 r1 ((s.1 111 (Int32.toNatClampNeg a1)) &&& (a2 ^^^ (-1 : Int32))) (0 : Int32)) (fun r8 => ?_)
  show fu_J _ _ (fc_X d (some .int) k_X10_mostFrom 68 [am_U, am_U, am_U, .int r8, am_U, am_U] [] s)
  refine fu_go 1 (pc' := 69) (ls' := [am_U, am_U, am_U, .int r8, am_U, am_U]) (st' := [.int r8]) (s' := s) rfl ?_
  exact fu_iret rfl rfl
/-! X10_bestWorker -/
theorem el_X10_bestWorker_10 (d : Nat) (hd : 1 ≤ d) : ∀ (n : Nat) (s : fu_S) (x1 : Int32) (x2 : Int32) (x3 : Int32) (x4 : Int32), fu_J (l_X10_bestWorker_10 n s x1 x2 x3 x4) (fun u => Sum.elim (fun r => some (some (.int r), s)) (fun r => fc_X d (some .int) k_X10_bestWorker 78 [am_U, am_U, am_U, am_U, am_U, am_U] [] s) u) (fc_X d (some .int) k_X10_bestWorker 10 [.ref 110, .int x1, .int x2, .int x3, .int x4, am_U] [] s) := by
  intro n
  induction n with
  | zero => intros; exact fu_none
  | succ n ih =>
    intro s x1 x2 x3 x4
    rw [l_X10_bestWorker_10]
    refine fu_go 2 (pc' := 14) (ls' := [.ref 110, .int x1, .int x2, .int x3, .int x4, am_U]) (st' := [.int (7 : Int32), .int x4]) (s' := s) rfl ?_
    refine fu_ite (fun h2 => fu_step (fu_ic_ge_t rfl h2) ?_) (fun h2 => fu_step (fu_ic_ge_f rfl h2) ?_)
    · refine fu_go 1 (pc' := 18) (ls' := [.ref 110, .int x1, .int x2, .int x3, .int x4, am_U]) (st' := [.ref 110]) (s' := s) rfl ?_
      refine fu_step (fu_getR rfl fc_110 rfl rfl) ?_
      refine fu_go 1 (pc' := 22) (ls' := [.ref 110, .int x1, .int x2, .int x3, .int x4, am_U]) (st' := [.int x1, .ref 111]) (s' := s) rfl ?_
      refine fu_guard (fun h3 => fu_step (fu_ldI rfl fc_111 h3) ?_)
      refine fu_go 4 (pc' := 28) (ls' := [.ref 110, .int x1, .int x2, .int x3, .int x4, am_U]) (st' := [.int (((s.1 111 (Int32.toNatClampNeg x1)) >>> (x4 &&& 31)) &&& (1 : Int32))]) (s' := s) rfl ?_
      refine fu_bind (V := fun j4 : Bool => fc_X d (some .int) k_X10_bestWorker 45 [.ref 110, .int x1, .int x2, .int x3, .int x4, am_U] [.int (fu_b j4)] s) ?_ (fun j4 => ?_)
      · refine fu_ite (fun h5 => fu_step (fu_if_eq_t rfl h5) ?_) (fun h5 => fu_step (fu_if_eq_f rfl h5) ?_)
        · refine fu_go 1 (pc' := 45) (ls' := [.ref 110, .int x1, .int x2, .int x3, .int x4, am_U]) (st' := [.int (0 : Int32)]) (s' := s) rfl ?_
          exact fu_leaf rfl ⟨.inr rfl, .inr rfl, .inr rfl, .inr rfl, .inr rfl, .inl rfl, trivial⟩
        · refine fu_go 5 (pc' := 37) (ls' := [.ref 110, .int x1, .int x2, .int x3, .int x4, am_U]) (st' := [.int ((x2 >>> (x4 &&& 31)) &&& (1 : Int32))]) (s' := s) rfl ?_
          refine fu_ite (fun h6 => fu_step (fu_if_ne_t rfl h6) ?_) (fun h6 => fu_step (fu_if_ne_f rfl h6) ?_)
          · refine fu_go 2 (pc' := 45) (ls' := [.ref 110, .int x1, .int x2, .int x3, .int x4, am_U]) (st' := [.int (1 : Int32)]) (s' := s) rfl ?_
            exact fu_leaf rfl ⟨.inr rfl, .inr rfl, .inr rfl, .inr rfl, .inr rfl, .inl rfl, trivial⟩
          · refine fu_go 1 (pc' := 45) (ls' := [.ref 110, .int x1, .int x2, .int x3, .int x4, am_U]) (st' := [.int (0 : Int32)]) (s' := s) rfl ?_
            exact fu_leaf rfl ⟨.inr rfl, .inr rfl, .inr rfl, .inr rfl, .inr rfl, .inl rfl, trivial⟩
      show fu_J _ _ (fc_X d (some .int) k_X10_bestWorker 45 [.ref 110, .int x1, .int x2, .int x3, .int x4, am_U] [.int (fu_b j4)] s)
      refine fu_go 2 (pc' := 49) (ls' := [.ref 110, .int x1, .int x2, .int x3, .int x4, .int (fu_b j4)]) (st' := [.int (fu_b j4)]) (s' := s) rfl ?_
      refine fu_ite (fun h7 => fu_step (fu_ib_eq_t rfl h7) ?_) (fun h7 => fu_step (fu_ib_eq_f rfl h7) ?_)
      · refine fu_go 8 (pc' := 61) (ls' := [.ref 110, .int x1, .int x2, .int x3, .int x4, .int (fu_b j4)]) (st' := [.int (x2 ||| ((1 : Int32) <<< (x4 &&& 31))), .int x1, .ref 110, .int (1 : Int32)]) (s' := s) rfl ?_
        refine fu_bind (fu_cVJ rfl rfl rfl rfl rfl (fu_recv fc_110 am_at_X10_mostBehind rfl) (e_X10_mostBehind d (by omega) s x1 (x2 ||| ((1 : Int32) <<< (x4 &&& 31))))) (fun r8 => ?_)
        show fu_J _ _ (fc_X d (some .int) k_X10_bestWorker 64 [.ref 110, .int x1, .int x2, .int x3, .int x4, .int (fu_b j4)] [.int r8, .int (1 : Int32)] s)
        refine fu_go 2 (pc' := 66) (ls' := [.ref 110, .int x1, .int x2, .int x3, .int x4, .int (fu_b j4)]) (st' := [.int x3, .int ((1 : Int32) + r8)]) (s' := s) rfl ?_
        refine fu_ite (fun h9 => fu_step (fu_ic_ne_t rfl h9) ?_) (fun h9 => fu_step (fu_ic_ne_f rfl h9) ?_)
        · refine fu_go 1 (pc' := 71) (ls' := [.ref 110, .int x1, .int x2, .int x3, .int x4, .int (fu_b j4)]) (st' := [.int x4]) (s' := s) rfl ?_
          exact fu_iret rfl rfl
        · refine fu_go 2 (pc' := 10) (ls' := [.ref 110, .int x1, .int x2, .int x3, .int (x4 + (1 : Int32)), .int (fu_b j4)]) (st' := []) (s' := s) rfl ?_
          exact fu_drop (ls' := [.ref 110, .int x1, .int x2, .int x3, .int (x4 + (1 : Int32)), am_U]) ⟨.inr rfl, .inr rfl, .inr rfl, .inr rfl, .inr rfl, .inl rfl, trivial⟩ (ih s x1 x2 x3 (x4 + (1 : Int32)))
      · refine fu_go 2 (pc' := 10) (ls' := [.ref 110, .int x1, .int x2, .int x3, .int (x4 + (1 : Int32)), .int (fu_b j4)]) (st' := []) (s' := s) rfl ?_
        exact fu_drop (ls' := [.ref 110, .int x1, .int x2, .int x3, .int (x4 + (1 : Int32)), am_U]) ⟨.inr rfl, .inr rfl, .inr rfl, .inr rfl, .inr rfl, .inl rfl, trivial⟩ (ih s x1 x2 x3 (x4 + (1 : Int32)))
    · exact fu_leaf rfl ⟨.inl rfl, .inl rfl, .inl rfl, .inl rfl, .inl rfl, .inl rfl, trivial⟩
set_option maxRecDepth 100000 in
theorem e_X10_bestWorker (d : Nat) (hd : 3 ≤ d) (s : fu_S) (a1 : Int32) (a2 : Int32) : fu_J (f_X10_bestWorker s a1 a2) (fun r => some (some (.int r), s)) (am_D (fu_ho fc_sh) am_m d 172 [.ref 110, .int a1, .int a2] s) := by
  obtain ⟨d, rfl⟩ : ∃ e, d = e + 1 := ⟨d - 1, by omega⟩
  refine fu_enter (ls := [.ref 110, .int a1, .int a2, am_U, am_U, am_U]) am_at_X10_bestWorker rfl rfl ?_
  show fu_J _ _ (fc_X d (some .int) k_X10_bestWorker 0 [.ref 110, .int a1, .int a2, am_U, am_U, am_U] [] s)
  unfold f_X10_bestWorker
  refine fu_go 3 (pc' := 3) (ls' := [.ref 110, .int a1, .int a2, am_U, am_U, am_U]) (st' := [.int a2, .int a1, .ref 110]) (s' := s) rfl ?_
  refine fu_bind (fu_cVJ rfl rfl rfl rfl rfl (fu_recv fc_110 am_at_X10_mostFrom rfl) (e_X10_mostFrom d (by omega) s a1 a2)) (fun r1 => ?_)
  show fu_J _ _ (fc_X d (some .int) k_X10_bestWorker 6 [.ref 110, .int a1, .int a2, am_U, am_U, am_U] [.int r1] s)
  refine fu_go 3 (pc' := 10) (ls' := [.ref 110, .int a1, .int a2, .int r1, .int (0 : Int32), am_U]) (st' := []) (s' := s) rfl ?_
  refine fu_drop (ls' := [.ref 110, .int a1, .int a2, .int r1, .int (0 : Int32), am_U]) ⟨.inr rfl, .inr rfl, .inr rfl, .inr rfl, .inr rfl, .inl rfl, trivial⟩ ?_
  refine fu_bind (el_X10_bestWorker_10 d (by omega) fu_N s a1 a2 r1 (0 : Int32)) (fun u => fu_sum (fun a => ?_) (fun r10 => ?_))
  · exact fu_ret rfl
  show fu_J _ _ (fc_X d (some .int) k_X10_bestWorker 78 [am_U, am_U, am_U, am_U, am_U, am_U] [] s)
  refine fu_go 1 (pc' := 79) (ls' := [am_U, am_U, am_U, am_U, am_U, am_U]) (st' := [.int (-1 : Int32)]) (s' := s) rfl ?_
  exact fu_iret rfl rfl
/-! X10_assign -/
theorem el_X10_assign_2 (d : Nat) (hd : 4 ≤ d) : ∀ (n : Nat) (s : fu_S) (P1 : Nat) (hP1 : fc_is3 P1) (x2 : Int32), fu_J (l_X10_assign_2 n s P1 x2) (fun r => fc_X d (some .int) k_X10_assign 37 [.ref 110, am_U, am_U, am_U] [] r) (fc_X d (some .int) k_X10_assign 2 [.ref 110, .ref P1, .int x2, am_U] [] s) := by
  intro n
  induction n with
  | zero => intros; exact fu_none
  | succ n ih =>
    intro s P1 hP1 x2
    rw [l_X10_assign_2]
    refine fu_go 2 (pc' := 5) (ls' := [.ref 110, .ref P1, .int x2, am_U]) (st' := [.int (8 : Int32), .int x2]) (s' := s) rfl ?_
    refine fu_ite (fun h1 => fu_step (fu_ic_ge_t rfl h1) ?_) (fun h1 => fu_step (fu_ic_ge_f rfl h1) ?_)
    · refine fu_go 1 (pc' := 9) (ls' := [.ref 110, .ref P1, .int x2, am_U]) (st' := [.ref 110]) (s' := s) rfl ?_
      refine fu_step (fu_getR rfl fc_110 rfl rfl) ?_
      refine fu_go 3 (pc' := 15) (ls' := [.ref 110, .ref P1, .int x2, am_U]) (st' := [.int x2, .ref P1, .int x2, .ref 111]) (s' := s) rfl ?_
      refine fu_bind (fu_cVJ rfl rfl rfl rfl rfl (fu_recv hP1.1 am_at_X4_isUp rfl) (e_X4_isUp d (by omega) s P1 hP1 x2)) (fun r2 => ?_)
      show fu_J _ _ (fc_X d (some .int) k_X10_assign 18 [.ref 110, .ref P1, .int x2, am_U] [.int (fu_b r2), .int x2, .ref 111] s)
      refine fu_bind (V := fun j3 : Int32 => fc_X d (some .int) k_X10_assign 30 [.ref 110, .ref P1, .int x2, am_U] [.int j3, .int x2, .ref 111] s) ?_ (fun j3 => ?_)
      · refine fu_ite (fun h4 => fu_step (fu_ib_eq_t rfl h4) ?_) (fun h4 => fu_step (fu_ib_eq_f rfl h4) ?_)
        · refine fu_go 2 (pc' := 23) (ls' := [.ref 110, .ref P1, .int x2, am_U]) (st' := [.int x2, .ref P1, .int x2, .ref 111]) (s' := s) rfl ?_
          refine fu_bind (fu_cVJ rfl rfl rfl rfl rfl (fu_recv hP1.1 am_at_X4_ableSetFor rfl) (e_X4_ableSetFor d (by omega) s P1 hP1 x2)) (fun r5 => ?_)
          show fu_J _ _ (fc_X d (some .int) k_X10_assign 26 [.ref 110, .ref P1, .int x2, am_U] [.int r5, .int x2, .ref 111] s)
          refine fu_go 1 (pc' := 30) (ls' := [.ref 110, .ref P1, .int x2, am_U]) (st' := [.int r5, .int x2, .ref 111]) (s' := s) rfl ?_
          exact fu_leaf rfl ⟨.inr rfl, .inr rfl, .inr rfl, .inl rfl, trivial⟩
        · refine fu_go 1 (pc' := 30) (ls' := [.ref 110, .ref P1, .int x2, am_U]) (st' := [.int (0 : Int32), .int x2, .ref 111]) (s' := s) rfl ?_
          exact fu_leaf rfl ⟨.inr rfl, .inr rfl, .inr rfl, .inl rfl, trivial⟩
      show fu_J _ _ (fc_X d (some .int) k_X10_assign 30 [.ref 110, .ref P1, .int x2, am_U] [.int j3, .int x2, .ref 111] s)
      refine fu_guard (fun h7 => fu_lets (b := (fu_pi s 111 (Int32.toNatClampNeg x2) j3)) (fu_stI rfl fc_111 h7) (fun s6 => ?_))
      refine fu_go 2 (pc' := 2) (ls' := [.ref 110, .ref P1, .int (x2 + (1 : Int32)), am_U]) (st' := []) (s' := s6) rfl ?_
      exact fu_drop (ls' := [.ref 110, .ref P1, .int (x2 + (1 : Int32)), am_U]) ⟨.inr rfl, .inr rfl, .inr rfl, .inl rfl, trivial⟩ (ih s6 P1 hP1 (x2 + (1 : Int32)))
    · exact fu_leaf rfl ⟨.inr rfl, .inl rfl, .inl rfl, .inl rfl, trivial⟩
theorem el_X10_assign_46 (d : Nat) (hd : 2 ≤ d) : ∀ (n : Nat) (s : fu_S) (P1 : Nat) (hP1 : fc_is3 P1) (x2 : Int32) (x3 : Int32), fu_J (l_X10_assign_46 n s P1 x2 x3) (fun r => fc_X d (some .int) k_X10_assign 77 [.ref 110, am_U, .int x2, am_U] [] r) (fc_X d (some .int) k_X10_assign 46 [.ref 110, am_U, .int x2, .int x3] [] s) := by
  intro n
  induction n with
  | zero => intros; exact fu_none
  | succ n ih =>
    intro s P1 hP1 x2 x3
    rw [l_X10_assign_46]
    refine fu_go 2 (pc' := 50) (ls' := [.ref 110, am_U, .int x2, .int x3]) (st' := [.int (128 : Int32), .int x3]) (s' := s) rfl ?_
    refine fu_ite (fun h10 => fu_step (fu_ic_ge_t rfl h10) ?_) (fun h10 => fu_step (fu_ic_ge_f rfl h10) ?_)
    · refine fu_go 1 (pc' := 54) (ls' := [.ref 110, am_U, .int x2, .int x3]) (st' := [.ref 110]) (s' := s) rfl ?_
      refine fu_step (fu_getR rfl fc_110 rfl rfl) ?_
      refine fu_go 8 (pc' := 67) (ls' := [.ref 110, am_U, .int x2, .int x3]) (st' := [.int x3, .int x2, .ref 110, .int ((x2 * (128 : Int32)) + x3), .ref 113]) (s' := s) rfl ?_
      refine fu_bind (fu_cVJ rfl rfl rfl rfl rfl (fu_recv fc_110 am_at_X10_mostFrom rfl) (e_X10_mostFrom d (by omega) s x2 x3)) (fun r11 => ?_)
      show fu_J _ _ (fc_X d (some .int) k_X10_assign 70 [.ref 110, am_U, .int x2, .int x3] [.int r11, .int ((x2 * (128 : Int32)) + x3), .ref 113] s)
      refine fu_guard (fun h13 => fu_lets (b := (fu_pi s 113 (Int32.toNatClampNeg ((x2 * (128 : Int32)) + x3)) r11)) (fu_stI rfl fc_113 h13) (fun s12 => ?_))
      refine fu_go 2 (pc' := 46) (ls' := [.ref 110, am_U, .int x2, .int (x3 + (1 : Int32))]) (st' := []) (s' := s12) rfl ?_
      exact fu_drop (ls' := [.ref 110, am_U, .int x2, .int (x3 + (1 : Int32))]) ⟨.inr rfl, .inl rfl, .inr rfl, .inr rfl, trivial⟩ (ih s12 P1 hP1 x2 (x3 + (1 : Int32)))
    · exact fu_leaf rfl ⟨.inr rfl, .inl rfl, .inr rfl, .inl rfl, trivial⟩
theorem el_X10_assign_40 (d : Nat) (hd : 2 ≤ d) : ∀ (n : Nat) (s : fu_S) (P1 : Nat) (hP1 : fc_is3 P1) (x2 : Int32), fu_J (l_X10_assign_40 n s P1 x2) (fun r => fc_X d (some .int) k_X10_assign 83 [.ref 110, am_U, am_U, am_U] [] r) (fc_X d (some .int) k_X10_assign 40 [.ref 110, am_U, .int x2, am_U] [] s) := by
  intro n
  induction n with
  | zero => intros; exact fu_none
  | succ n ih =>
    intro s P1 hP1 x2
    rw [l_X10_assign_40]
    refine fu_go 1 (pc' := 41) (ls' := [.ref 110, am_U, .int x2, am_U]) (st' := [.int x2]) (s' := s) rfl ?_
    refine fu_ite (fun h9 => fu_step (fu_if_lt_t rfl h9) ?_) (fun h9 => fu_step (fu_if_lt_f rfl h9) ?_)
    · exact fu_leaf rfl ⟨.inr rfl, .inl rfl, .inl rfl, .inl rfl, trivial⟩
    · refine fu_go 2 (pc' := 46) (ls' := [.ref 110, am_U, .int x2, .int (0 : Int32)]) (st' := []) (s' := s) rfl ?_
      refine fu_drop (ls' := [.ref 110, am_U, .int x2, .int (0 : Int32)]) ⟨.inr rfl, .inl rfl, .inr rfl, .inr rfl, trivial⟩ ?_
      refine fu_bind (el_X10_assign_46 d (by omega) fu_N s P1 hP1 x2 (0 : Int32)) (fun r14 => ?_)
      show fu_J _ _ (fc_X d (some .int) k_X10_assign 77 [.ref 110, am_U, .int x2, am_U] [] r14)
      refine fu_go 2 (pc' := 40) (ls' := [.ref 110, am_U, .int (x2 + (-1 : Int32)), am_U]) (st' := []) (s' := r14) rfl ?_
      exact fu_drop (ls' := [.ref 110, am_U, .int (x2 + (-1 : Int32)), am_U]) ⟨.inr rfl, .inl rfl, .inr rfl, .inl rfl, trivial⟩ (ih r14 P1 hP1 (x2 + (-1 : Int32)))
theorem el_X10_assign_87 (d : Nat) (hd : 3 ≤ d) : ∀ (n : Nat) (s : fu_S) (P1 : Nat) (hP1 : fc_is3 P1) (x2 : Int32) (x3 : Int32), fu_J (l_X10_assign_87 n s P1 x2 x3) (fun r => fc_X d (some .int) k_X10_assign 136 [.ref 110, am_U, am_U, am_U] [] r) (fc_X d (some .int) k_X10_assign 87 [.ref 110, am_U, .int x2, .int x3] [] s) := by
  intro n
  induction n with
  | zero => intros; exact fu_none
  | succ n ih =>
    intro s P1 hP1 x2 x3
    rw [l_X10_assign_87]
    refine fu_go 2 (pc' := 90) (ls' := [.ref 110, am_U, .int x2, .int x3]) (st' := [.int (8 : Int32), .int x3]) (s' := s) rfl ?_
    refine fu_ite (fun h16 => fu_step (fu_ic_ge_t rfl h16) ?_) (fun h16 => fu_step (fu_ic_ge_f rfl h16) ?_)
    · refine fu_go 1 (pc' := 94) (ls' := [.ref 110, am_U, .int x2, .int x3]) (st' := [.ref 110]) (s' := s) rfl ?_
      refine fu_step (fu_getR rfl fc_110 rfl rfl) ?_
      refine fu_go 4 (pc' := 101) (ls' := [.ref 110, am_U, .int x2, .int x3]) (st' := [.int x2, .int x3, .ref 110, .int x3, .ref 112]) (s' := s) rfl ?_
      refine fu_bind (fu_cVJ rfl rfl rfl rfl rfl (fu_recv fc_110 am_at_X10_bestWorker rfl) (e_X10_bestWorker d (by omega) s x3 x2)) (fun r17 => ?_)
      show fu_J _ _ (fc_X d (some .int) k_X10_assign 104 [.ref 110, am_U, .int x2, .int x3] [.int r17, .int x3, .ref 112] s)
      refine fu_guard (fun h19 => fu_lets (b := (fu_pi s 112 (Int32.toNatClampNeg x3) r17)) (fu_stI rfl fc_112 h19) (fun s18 => ?_))
      refine fu_go 2 (pc' := 107) (ls' := [.ref 110, am_U, .int x2, .int x3]) (st' := [.ref 110, .int x2]) (s' := s18) rfl ?_
      refine fu_step (fu_getR rfl fc_110 rfl rfl) ?_
      refine fu_go 1 (pc' := 111) (ls' := [.ref 110, am_U, .int x2, .int x3]) (st' := [.int x3, .ref 112, .int x2]) (s' := s18) rfl ?_
      refine fu_guard (fun h20 => fu_step (fu_ldI rfl fc_112 h20) ?_)
      refine fu_go 1 (pc' := 113) (ls' := [.ref 110, am_U, .int x2, .int x3]) (st' := [.int (-1 : Int32), .int (s18.1 112 (Int32.toNatClampNeg x3)), .int x2]) (s' := s18) rfl ?_
      refine fu_bind (V := fun j21 : Int32 => fc_X d (some .int) k_X10_assign 128 [.ref 110, am_U, am_U, .int x3] [.int j21, .int x2] s18) ?_ (fun j21 => ?_)
      · refine fu_ite (fun h22 => fu_step (fu_ic_ne_t rfl h22) ?_) (fun h22 => fu_step (fu_ic_ne_f rfl h22) ?_)
        · refine fu_go 2 (pc' := 128) (ls' := [.ref 110, am_U, .int x2, .int x3]) (st' := [.int (0 : Int32), .int x2]) (s' := s18) rfl ?_
          exact fu_leaf rfl ⟨.inr rfl, .inl rfl, .inl rfl, .inr rfl, trivial⟩
        · refine fu_go 2 (pc' := 122) (ls' := [.ref 110, am_U, .int x2, .int x3]) (st' := [.ref 110, .int (1 : Int32), .int x2]) (s' := s18) rfl ?_
          refine fu_step (fu_getR rfl fc_110 rfl rfl) ?_
          refine fu_go 1 (pc' := 126) (ls' := [.ref 110, am_U, .int x2, .int x3]) (st' := [.int x3, .ref 112, .int (1 : Int32), .int x2]) (s' := s18) rfl ?_
          refine fu_guard (fun h23 => fu_step (fu_ldI rfl fc_112 h23) ?_)
          refine fu_go 1 (pc' := 128) (ls' := [.ref 110, am_U, .int x2, .int x3]) (st' := [.int ((1 : Int32) <<< ((s18.1 112 (Int32.toNatClampNeg x3)) &&& 31)), .int x2]) (s' := s18) rfl ?_
          exact fu_leaf rfl ⟨.inr rfl, .inl rfl, .inl rfl, .inr rfl, trivial⟩
      show fu_J _ _ (fc_X d (some .int) k_X10_assign 128 [.ref 110, am_U, am_U, .int x3] [.int j21, .int x2] s18)
      refine fu_go 4 (pc' := 87) (ls' := [.ref 110, am_U, .int (x2 ||| j21), .int (x3 + (1 : Int32))]) (st' := []) (s' := s18) rfl ?_
      exact fu_drop (ls' := [.ref 110, am_U, .int (x2 ||| j21), .int (x3 + (1 : Int32))]) ⟨.inr rfl, .inl rfl, .inr rfl, .inr rfl, trivial⟩ (ih s18 P1 hP1 (x2 ||| j21) (x3 + (1 : Int32)))
    · exact fu_leaf rfl ⟨.inr rfl, .inl rfl, .inl rfl, .inl rfl, trivial⟩
set_option maxRecDepth 100000 in
theorem e_X10_assign (d : Nat) (hd : 5 ≤ d) (s : fu_S) (P1 : Nat) (hP1 : fc_is3 P1) : fu_J (f_X10_assign s P1) (fun r => some (some (.int r.1), r.2)) (am_D (fu_ho fc_sh) am_m d 169 [.ref 110, .ref P1] s) := by
  obtain ⟨d, rfl⟩ : ∃ e, d = e + 1 := ⟨d - 1, by omega⟩
  refine fu_enter (ls := [.ref 110, .ref P1, am_U, am_U]) am_at_X10_assign rfl rfl ?_
  show fu_J _ _ (fc_X d (some .int) k_X10_assign 0 [.ref 110, .ref P1, am_U, am_U] [] s)
  unfold f_X10_assign
  refine fu_go 2 (pc' := 2) (ls' := [.ref 110, .ref P1, .int (0 : Int32), am_U]) (st' := []) (s' := s) rfl ?_
  refine fu_drop (ls' := [.ref 110, .ref P1, .int (0 : Int32), am_U]) ⟨.inr rfl, .inr rfl, .inr rfl, .inl rfl, trivial⟩ ?_
  refine fu_bind (el_X10_assign_2 d (by omega) fu_N s P1 hP1 (0 : Int32)) (fun r8 => ?_)
  show fu_J _ _ (fc_X d (some .int) k_X10_assign 37 [.ref 110, am_U, am_U, am_U] [] r8)
  refine fu_go 2 (pc' := 40) (ls' := [.ref 110, am_U, .int (7 : Int32), am_U]) (st' := []) (s' := r8) rfl ?_
  refine fu_drop (ls' := [.ref 110, am_U, .int (7 : Int32), am_U]) ⟨.inr rfl, .inl rfl, .inr rfl, .inl rfl, trivial⟩ ?_
  refine fu_bind (el_X10_assign_40 d (by omega) fu_N r8 P1 hP1 (7 : Int32)) (fun r15 => ?_)
  show fu_J _ _ (fc_X d (some .int) k_X10_assign 83 [.ref 110, am_U, am_U, am_U] [] r15)
  refine fu_go 4 (pc' := 87) (ls' := [.ref 110, am_U, .int (0 : Int32), .int (0 : Int32)]) (st' := []) (s' := r15) rfl ?_
  refine fu_drop (ls' := [.ref 110, am_U, .int (0 : Int32), .int (0 : Int32)]) ⟨.inr rfl, .inl rfl, .inr rfl, .inr rfl, trivial⟩ ?_
  refine fu_bind (el_X10_assign_87 d (by omega) fu_N r15 P1 hP1 (0 : Int32) (0 : Int32)) (fun r24 => ?_)
  show fu_J _ _ (fc_X d (some .int) k_X10_assign 136 [.ref 110, am_U, am_U, am_U] [] r24)
  refine fu_go 1 (pc' := 137) (ls' := [.ref 110, am_U, am_U, am_U]) (st' := [.ref 110]) (s' := r24) rfl ?_
  refine fu_step (fu_getR rfl fc_110 rfl rfl) ?_
  refine fu_go 1 (pc' := 141) (ls' := [.ref 110, am_U, am_U, am_U]) (st' := [.int (0 : Int32), .ref 113]) (s' := r24) rfl ?_
  refine fu_step (fu_ldIk (k := 0) rfl fc_113 (by decide) (by decide)) ?_
  exact fu_iret rfl rfl
/-! X10_workerOn -/
set_option maxRecDepth 100000 in
theorem e_X10_workerOn (d : Nat) (hd : 1 ≤ d) (s : fu_S) (a1 : Int32) : fu_J (f_X10_workerOn s a1) (fun r => some (some (.int r), s)) (am_D (fu_ho fc_sh) am_m d 173 [.ref 110, .int a1] s) := by
  obtain ⟨d, rfl⟩ : ∃ e, d = e + 1 := ⟨d - 1, by omega⟩
  refine fu_enter (ls := [.ref 110, .int a1]) am_at_X10_workerOn rfl rfl ?_
  show fu_J _ _ (fc_X d (some .int) k_X10_workerOn 0 [.ref 110, .int a1] [] s)
  unfold f_X10_workerOn
  refine fu_go 1 (pc' := 1) (ls' := [.ref 110, .int a1]) (st' := [.int a1]) (s' := s) rfl ?_
  refine fu_bind (V := fun j1 : Int32 => fc_X d (some .int) k_X10_workerOn 20 [am_U, am_U] [.int j1] s) ?_ (fun j1 => ?_)
  · refine fu_ite (fun h2 => fu_step (fu_if_lt_t rfl h2) ?_) (fun h2 => fu_step (fu_if_lt_f rfl h2) ?_)
    · refine fu_go 1 (pc' := 20) (ls' := [.ref 110, .int a1]) (st' := [.int (-1 : Int32)]) (s' := s) rfl ?_
      exact fu_leaf rfl ⟨.inl rfl, .inl rfl, trivial⟩
    · refine fu_go 2 (pc' := 7) (ls' := [.ref 110, .int a1]) (st' := [.int (8 : Int32), .int a1]) (s' := s) rfl ?_
      refine fu_ite (fun h3 => fu_step (fu_ic_ge_t rfl h3) ?_) (fun h3 => fu_step (fu_ic_ge_f rfl h3) ?_)
      · refine fu_go 1 (pc' := 11) (ls' := [.ref 110, .int a1]) (st' := [.ref 110]) (s' := s) rfl ?_
        refine fu_step (fu_getR rfl fc_110 rfl rfl) ?_
        refine fu_go 1 (pc' := 15) (ls' := [.ref 110, .int a1]) (st' := [.int a1, .ref 112]) (s' := s) rfl ?_
        refine fu_guard (fun h4 => fu_step (fu_ldI rfl fc_112 h4) ?_)
        refine fu_go 1 (pc' := 20) (ls' := [.ref 110, .int a1]) (st' := [.int (s.1 112 (Int32.toNatClampNeg a1))]) (s' := s) rfl ?_
        exact fu_leaf rfl ⟨.inl rfl, .inl rfl, trivial⟩
      · refine fu_go 1 (pc' := 20) (ls' := [.ref 110, .int a1]) (st' := [.int (-1 : Int32)]) (s' := s) rfl ?_
        exact fu_leaf rfl ⟨.inl rfl, .inl rfl, trivial⟩
  show fu_J _ _ (fc_X d (some .int) k_X10_workerOn 20 [am_U, am_U] [.int j1] s)
  exact fu_iret rfl rfl
/-! X10_worthOfMove -/
set_option maxRecDepth 100000 in
theorem e_X10_worthOfMove (K : fu_S → Nat → Int32 → Int32 → Int32 → Option Int32) (D0 : Nat) (hK : ∀ d, D0 ≤ d → ∀ (s : fu_S) (P0 : Nat) (hP0 : fc_is3 P0) (a1 : Int32) (a2 : Int32) (a3 : Int32), fu_J (K s P0 a1 a2 a3) (fun r => some (some (.int r), s)) (am_D (fu_ho fc_sh) am_m d 177 [.ref P0, .int a1, .int a2, .int a3] s)) (d : Nat) (hd0 : D0 + 1 ≤ d) (hd : 3 ≤ d) (s : fu_S) (P0 : Nat) (hP0 : fc_is3 P0) (a1 : Int32) (a2 : Int32) (a3 : Int32) (a4 : Int32) : fu_J (f_X10_worthOfMove K s P0 a1 a2 a3 a4) (fun r => some (some (.int r), s)) (am_D (fu_ho fc_sh) am_m d 176 [.ref P0, .int a1, .int a2, .int a3, .int a4] s) := by
  obtain ⟨d, rfl⟩ : ∃ e, d = e + 1 := ⟨d - 1, by omega⟩
  refine fu_enter (ls := [.ref P0, .int a1, .int a2, .int a3, .int a4, am_U]) am_at_X10_worthOfMove rfl rfl ?_
  show fu_J _ _ (fc_X d (some .int) k_X10_worthOfMove 0 [.ref P0, .int a1, .int a2, .int a3, .int a4, am_U] [] s)
  unfold f_X10_worthOfMove
  refine fu_go 8 (pc' := 11) (ls' := [.ref P0, .int a1, .int a2, .int a3, .int a4, .int (((1 : Int32) <<< (a4 &&& 31)) ^^^ (-1 : Int32))]) (st' := [.int a4, .ref P0]) (s' := s) rfl ?_
  refine fu_bind (fu_cVJ rfl rfl rfl rfl rfl (fu_recv hP0.1 am_at_X4_worthOf rfl) (e_X4_worthOf d (by omega) s P0 hP0 a4)) (fun r1 => ?_)
  show fu_J _ _ (fc_X d (some .int) k_X10_worthOfMove 14 [.ref P0, .int a1, .int a2, .int a3, .int a4, .int (((1 : Int32) <<< (a4 &&& 31)) ^^^ (-1 : Int32))] [.int r1] s)
  refine fu_go 10 (pc' := 26) (ls' := [.ref P0, .int a1, .int a2, .int a3, .int a4, .int (((1 : Int32) <<< (a4 &&& 31)) ^^^ (-1 : Int32))]) (st' := [.int (a3 - (1 : Int32)), .int (a1 &&& (((1 : Int32) <<< (a4 &&& 31)) ^^^ (-1 : Int32))), .int (a2 &&& (((1 : Int32) <<< (a4 &&& 31)) ^^^ (-1 : Int32))), .ref P0, .int r1]) (s' := s) rfl ?_
  refine fu_bind (fu_cSJ rfl rfl rfl rfl rfl rfl (hK d (by omega) s P0 hP0 (a2 &&& (((1 : Int32) <<< (a4 &&& 31)) ^^^ (-1 : Int32))) (a1 &&& (((1 : Int32) <<< (a4 &&& 31)) ^^^ (-1 : Int32))) (a3 - (1 : Int32)))) (fun r2 => ?_)
  show fu_J _ _ (fc_X d (some .int) k_X10_worthOfMove 29 [.ref P0, .int a1, .int a2, .int a3, .int a4, .int (((1 : Int32) <<< (a4 &&& 31)) ^^^ (-1 : Int32))] [.int r2, .int r1] s)
  refine fu_go 1 (pc' := 30) (ls' := [.ref P0, .int a1, .int a2, .int a3, .int a4, .int (((1 : Int32) <<< (a4 &&& 31)) ^^^ (-1 : Int32))]) (st' := [.int (r1 - r2)]) (s' := s) rfl ?_
  exact fu_iret rfl rfl
/-! X10_bestPlay -/
theorem el_X10_bestPlay_26 (K : fu_S → Nat → Int32 → Int32 → Int32 → Option Int32) (D0 : Nat) (hK : ∀ d, D0 ≤ d → ∀ (s : fu_S) (P0 : Nat) (hP0 : fc_is3 P0) (a1 : Int32) (a2 : Int32) (a3 : Int32), fu_J (K s P0 a1 a2 a3) (fun r => some (some (.int r), s)) (am_D (fu_ho fc_sh) am_m d 177 [.ref P0, .int a1, .int a2, .int a3] s)) (d : Nat) (hd0 : D0 + 1 ≤ d) (hd : 3 ≤ d) : ∀ (n : Nat) (s : fu_S) (P0 : Nat) (hP0 : fc_is3 P0) (x1 : Int32) (x2 : Int32) (x3 : Int32) (x4 : Int32) (x5 : Int32), fu_J (l_X10_bestPlay_26 K n s P0 x1 x2 x3 x4 x5) (fun r => fc_X d (some .int) k_X10_bestPlay 64 [am_U, am_U, am_U, am_U, .int r, am_U] [] s) (fc_X d (some .int) k_X10_bestPlay 26 [.ref P0, .int x1, .int x2, .int x3, .int x4, .int x5] [] s) := by
  intro n
  induction n with
  | zero => intros; exact fu_none
  | succ n ih =>
    intro s P0 hP0 x1 x2 x3 x4 x5
    rw [l_X10_bestPlay_26]
    refine fu_go 2 (pc' := 30) (ls' := [.ref P0, .int x1, .int x2, .int x3, .int x4, .int x5]) (st' := [.int (8 : Int32), .int x5]) (s' := s) rfl ?_
    refine fu_ite (fun h4 => fu_step (fu_ic_ge_t rfl h4) ?_) (fun h4 => fu_step (fu_ic_ge_f rfl h4) ?_)
    · refine fu_go 5 (pc' := 39) (ls' := [.ref P0, .int x1, .int x2, .int x3, .int x4, .int x5]) (st' := [.int ((x1 >>> (x5 &&& 31)) &&& (1 : Int32))]) (s' := s) rfl ?_
      refine fu_bind (V := fun j5 : Int32 => fc_X d (some .int) k_X10_bestPlay 58 [.ref P0, .int x1, .int x2, .int x3, .int j5, .int x5] [] s) ?_ (fun j5 => ?_)
      · refine fu_ite (fun h6 => fu_step (fu_if_eq_t rfl h6) ?_) (fun h6 => fu_step (fu_if_eq_f rfl h6) ?_)
        · exact fu_leaf rfl ⟨.inr rfl, .inr rfl, .inr rfl, .inr rfl, .inr rfl, .inr rfl, trivial⟩
        · refine fu_go 6 (pc' := 50) (ls' := [.ref P0, .int x1, .int x2, .int x3, .int x4, .int x5]) (st' := [.int x5, .int x3, .int x2, .int x1, .ref P0, .int x4]) (s' := s) rfl ?_
          refine fu_bind (fu_cSJ rfl rfl rfl rfl rfl rfl (e_X10_worthOfMove K D0 hK d (by omega) (by omega) s P0 hP0 x1 x2 x3 x5)) (fun r7 => ?_)
          show fu_J _ _ (fc_X d (some .int) k_X10_bestPlay 53 [.ref P0, .int x1, .int x2, .int x3, .int x4, .int x5] [.int r7, .int x4] s)
          refine fu_step (fu_prim rfl rfl rfl rfl) ?_
          refine fu_go 1 (pc' := 58) (ls' := [.ref P0, .int x1, .int x2, .int x3, .int (fu_mx x4 r7), .int x5]) (st' := []) (s' := s) rfl ?_
          exact fu_leaf rfl ⟨.inr rfl, .inr rfl, .inr rfl, .inr rfl, .inr rfl, .inr rfl, trivial⟩
      show fu_J _ _ (fc_X d (some .int) k_X10_bestPlay 58 [.ref P0, .int x1, .int x2, .int x3, .int j5, .int x5] [] s)
      refine fu_go 2 (pc' := 26) (ls' := [.ref P0, .int x1, .int x2, .int x3, .int j5, .int (x5 + (1 : Int32))]) (st' := []) (s' := s) rfl ?_
      exact fu_drop (ls' := [.ref P0, .int x1, .int x2, .int x3, .int j5, .int (x5 + (1 : Int32))]) ⟨.inr rfl, .inr rfl, .inr rfl, .inr rfl, .inr rfl, .inr rfl, trivial⟩ (ih s P0 hP0 x1 x2 x3 j5 (x5 + (1 : Int32)))
    · exact fu_leaf rfl ⟨.inl rfl, .inl rfl, .inl rfl, .inl rfl, .inr rfl, .inl rfl, trivial⟩
set_option maxRecDepth 100000 in
theorem eb_X10_bestPlay (K : fu_S → Nat → Int32 → Int32 → Int32 → Option Int32) (D0 : Nat) (hK : ∀ d, D0 ≤ d → ∀ (s : fu_S) (P0 : Nat) (hP0 : fc_is3 P0) (a1 : Int32) (a2 : Int32) (a3 : Int32), fu_J (K s P0 a1 a2 a3) (fun r => some (some (.int r), s)) (am_D (fu_ho fc_sh) am_m d 177 [.ref P0, .int a1, .int a2, .int a3] s)) (d : Nat) (hd0 : D0 + 2 ≤ d) (hd : 4 ≤ d) (s : fu_S) (P0 : Nat) (hP0 : fc_is3 P0) (a1 : Int32) (a2 : Int32) (a3 : Int32) : fu_J (fb_X10_bestPlay K s P0 a1 a2 a3) (fun r => some (some (.int r), s)) (am_D (fu_ho fc_sh) am_m d 177 [.ref P0, .int a1, .int a2, .int a3] s) := by
  obtain ⟨d, rfl⟩ : ∃ e, d = e + 1 := ⟨d - 1, by omega⟩
  refine fu_enter (ls := [.ref P0, .int a1, .int a2, .int a3, am_U, am_U]) am_at_X10_bestPlay rfl rfl ?_
  show fu_J _ _ (fc_X d (some .int) k_X10_bestPlay 0 [.ref P0, .int a1, .int a2, .int a3, am_U, am_U] [] s)
  unfold fb_X10_bestPlay
  refine fu_go 1 (pc' := 1) (ls' := [.ref P0, .int a1, .int a2, .int a3, am_U, am_U]) (st' := [.int a3]) (s' := s) rfl ?_
  refine fu_ite (fun h1 => fu_step (fu_if_le_t rfl h1) ?_) (fun h1 => fu_step (fu_if_le_f rfl h1) ?_)
  · refine fu_go 1 (pc' := 10) (ls' := [.ref P0, .int a1, .int a2, .int a3, am_U, am_U]) (st' := [.int (0 : Int32)]) (s' := s) rfl ?_
    exact fu_iret rfl rfl
  · refine fu_go 2 (pc' := 6) (ls' := [.ref P0, .int a1, .int a2, .int a3, am_U, am_U]) (st' := [.int (4 : Int32), .int a3]) (s' := s) rfl ?_
    refine fu_ite (fun h2 => fu_step (fu_ic_le_t rfl h2) ?_) (fun h2 => fu_step (fu_ic_le_f rfl h2) ?_)
    · refine fu_go 6 (pc' := 17) (ls' := [.ref P0, .int a1, .int a2, .int a3, am_U, am_U]) (st' := [.int (a3 - (1 : Int32)), .int a1, .int a2, .ref P0]) (s' := s) rfl ?_
      refine fu_bind (fu_cSJ rfl rfl rfl rfl rfl rfl (hK d (by omega) s P0 hP0 a2 a1 (a3 - (1 : Int32)))) (fun r3 => ?_)
      show fu_J _ _ (fc_X d (some .int) k_X10_bestPlay 20 [.ref P0, .int a1, .int a2, .int a3, am_U, am_U] [.int r3] s)
      refine fu_go 4 (pc' := 26) (ls' := [.ref P0, .int a1, .int a2, .int a3, .int (-r3), .int (0 : Int32)]) (st' := []) (s' := s) rfl ?_
      refine fu_drop (ls' := [.ref P0, .int a1, .int a2, .int a3, .int (-r3), .int (0 : Int32)]) ⟨.inr rfl, .inr rfl, .inr rfl, .inr rfl, .inr rfl, .inr rfl, trivial⟩ ?_
      refine fu_bind (el_X10_bestPlay_26 K D0 hK d (by omega) (by omega) fu_N s P0 hP0 a1 a2 a3 (-r3) (0 : Int32)) (fun r8 => ?_)
      show fu_J _ _ (fc_X d (some .int) k_X10_bestPlay 64 [am_U, am_U, am_U, am_U, .int r8, am_U] [] s)
      refine fu_go 1 (pc' := 66) (ls' := [am_U, am_U, am_U, am_U, .int r8, am_U]) (st' := [.int r8]) (s' := s) rfl ?_
      exact fu_iret rfl rfl
    · refine fu_go 1 (pc' := 10) (ls' := [.ref P0, .int a1, .int a2, .int a3, am_U, am_U]) (st' := [.int (0 : Int32)]) (s' := s) rfl ?_
      exact fu_iret rfl rfl
theorem e_X10_bestPlay : ∀ (n d : Nat) (_ : 4 + 2 * n ≤ d) (s : fu_S) (P0 : Nat) (hP0 : fc_is3 P0) (a1 : Int32) (a2 : Int32) (a3 : Int32), fu_J (f_X10_bestPlay n s P0 a1 a2 a3) (fun r => some (some (.int r), s)) (am_D (fu_ho fc_sh) am_m d 177 [.ref P0, .int a1, .int a2, .int a3] s)
  | 0 => fun d _ _ _ _ _ _ _ => fu_none
  | n + 1 => fun d hd s P0 hP0 a1 a2 a3 => eb_X10_bestPlay (f_X10_bestPlay n) (4 + 2 * n) (fun d hd => e_X10_bestPlay n d hd) d (by omega) (by omega) s P0 hP0 a1 a2 a3
/-! X10_gameWorth -/
set_option maxRecDepth 100000 in
theorem e_X10_gameWorth (d : Nat) (hd : 37 ≤ d) (s : fu_S) (P1 : Nat) (hP1 : fc_is3 P1) (a2 : Int32) (a3 : Int32) (a4 : Int32) : fu_J (f_X10_gameWorth s P1 a2 a3 a4) (fun r => some (some (.int r), s)) (am_D (fu_ho fc_sh) am_m d 174 [.ref 110, .ref P1, .int a2, .int a3, .int a4] s) := by
  obtain ⟨d, rfl⟩ : ∃ e, d = e + 1 := ⟨d - 1, by omega⟩
  refine fu_enter (ls := [.ref 110, .ref P1, .int a2, .int a3, .int a4]) am_at_X10_gameWorth rfl rfl ?_
  show fu_J _ _ (fc_X d (some .int) k_X10_gameWorth 0 [.ref 110, .ref P1, .int a2, .int a3, .int a4] [] s)
  unfold f_X10_gameWorth
  refine fu_go 3 (pc' := 3) (ls' := [.ref 110, .ref P1, .int a2, .int a3, .int a4]) (st' := [.int a2, .ref P1, .ref P1]) (s' := s) rfl ?_
  refine fu_bind (fu_cVJ rfl rfl rfl rfl rfl (fu_recv hP1.1 am_at_X4_upSetFor rfl) (e_X4_upSetFor d (by omega) s P1 hP1 a2)) (fun r1 => ?_)
  show fu_J _ _ (fc_X d (some .int) k_X10_gameWorth 6 [.ref 110, .ref P1, .int a2, .int a3, .int a4] [.int r1, .ref P1] s)
  refine fu_go 2 (pc' := 8) (ls' := [.ref 110, .ref P1, .int a2, .int a3, .int a4]) (st' := [.int a3, .ref P1, .int r1, .ref P1]) (s' := s) rfl ?_
  refine fu_bind (fu_cVJ rfl rfl rfl rfl rfl (fu_recv hP1.1 am_at_X4_upSetFor rfl) (e_X4_upSetFor d (by omega) s P1 hP1 a3)) (fun r2 => ?_)
  show fu_J _ _ (fc_X d (some .int) k_X10_gameWorth 11 [.ref 110, .ref P1, .int a2, .int a3, .int a4] [.int r2, .int r1, .ref P1] s)
  refine fu_go 1 (pc' := 13) (ls' := [.ref 110, .ref P1, .int a2, .int a3, .int a4]) (st' := [.int a4, .int r2, .int r1, .ref P1]) (s' := s) rfl ?_
  refine fu_bind (fu_cSJ rfl rfl rfl rfl rfl rfl (e_X10_bestPlay 16 d (by omega) s P1 hP1 r1 r2 a4)) (fun r3 => ?_)
  show fu_J _ _ (fc_X d (some .int) k_X10_gameWorth 16 [.ref 110, .ref P1, .int a2, .int a3, .int a4] [.int r3] s)
  exact fu_iret rfl rfl
/-! X10_firstMove -/
theorem el_X10_firstMove_29 (d : Nat) (hd : 37 ≤ d) : ∀ (n : Nat) (s : fu_S) (P1 : Nat) (hP1 : fc_is3 P1) (x4 : Int32) (x5 : Int32) (x6 : Int32) (x7 : Int32) (x8 : Int32), fu_J (l_X10_firstMove_29 n s P1 x4 x5 x6 x7 x8) (fun u => Sum.elim (fun r => some (some (.int r), s)) (fun r => fc_X d (some .int) k_X10_firstMove 72 [am_U, am_U, am_U, am_U, am_U, am_U, am_U, am_U, am_U] [] s) u) (fc_X d (some .int) k_X10_firstMove 29 [am_U, .ref P1, am_U, am_U, .int x4, .int x5, .int x6, .int x7, .int x8] [] s) := by
  intro n
  induction n with
  | zero => intros; exact fu_none
  | succ n ih =>
    intro s P1 hP1 x4 x5 x6 x7 x8
    rw [l_X10_firstMove_29]
    refine fu_go 2 (pc' := 33) (ls' := [am_U, .ref P1, am_U, am_U, .int x4, .int x5, .int x6, .int x7, .int x8]) (st' := [.int (8 : Int32), .int x8]) (s' := s) rfl ?_
    refine fu_ite (fun h4 => fu_step (fu_ic_ge_t rfl h4) ?_) (fun h4 => fu_step (fu_ic_ge_f rfl h4) ?_)
    · refine fu_go 5 (pc' := 43) (ls' := [am_U, .ref P1, am_U, am_U, .int x4, .int x5, .int x6, .int x7, .int x8]) (st' := [.int ((x5 >>> (x8 &&& 31)) &&& (1 : Int32))]) (s' := s) rfl ?_
      refine fu_ite (fun h5 => fu_step (fu_if_eq_t rfl h5) ?_) (fun h5 => fu_step (fu_if_eq_f rfl h5) ?_)
      · refine fu_go 2 (pc' := 29) (ls' := [am_U, .ref P1, am_U, am_U, .int x4, .int x5, .int x6, .int x7, .int (x8 + (1 : Int32))]) (st' := []) (s' := s) rfl ?_
        exact fu_drop (ls' := [am_U, .ref P1, am_U, am_U, .int x4, .int x5, .int x6, .int x7, .int (x8 + (1 : Int32))]) ⟨.inl rfl, .inr rfl, .inl rfl, .inl rfl, .inr rfl, .inr rfl, .inr rfl, .inr rfl, .inr rfl, trivial⟩ (ih s P1 hP1 x4 x5 x6 x7 (x8 + (1 : Int32)))
      · refine fu_go 5 (pc' := 55) (ls' := [am_U, .ref P1, am_U, am_U, .int x4, .int x5, .int x6, .int x7, .int x8]) (st' := [.int x8, .int x4, .int x6, .int x5, .ref P1]) (s' := s) rfl ?_
        refine fu_bind (fu_cSJ rfl rfl rfl rfl rfl rfl (e_X10_worthOfMove (f_X10_bestPlay 16) 36 (fun d hd => e_X10_bestPlay 16 d hd) d (by omega) (by omega) s P1 hP1 x5 x6 x4 x8)) (fun r6 => ?_)
        show fu_J _ _ (fc_X d (some .int) k_X10_firstMove 58 [am_U, .ref P1, am_U, am_U, .int x4, .int x5, .int x6, .int x7, .int x8] [.int r6] s)
        refine fu_go 1 (pc' := 60) (ls' := [am_U, .ref P1, am_U, am_U, .int x4, .int x5, .int x6, .int x7, .int x8]) (st' := [.int x7, .int r6]) (s' := s) rfl ?_
        refine fu_ite (fun h7 => fu_step (fu_ic_ne_t rfl h7) ?_) (fun h7 => fu_step (fu_ic_ne_f rfl h7) ?_)
        · refine fu_go 1 (pc' := 65) (ls' := [am_U, .ref P1, am_U, am_U, .int x4, .int x5, .int x6, .int x7, .int x8]) (st' := [.int x8]) (s' := s) rfl ?_
          exact fu_iret rfl rfl
        · refine fu_go 2 (pc' := 29) (ls' := [am_U, .ref P1, am_U, am_U, .int x4, .int x5, .int x6, .int x7, .int (x8 + (1 : Int32))]) (st' := []) (s' := s) rfl ?_
          exact fu_drop (ls' := [am_U, .ref P1, am_U, am_U, .int x4, .int x5, .int x6, .int x7, .int (x8 + (1 : Int32))]) ⟨.inl rfl, .inr rfl, .inl rfl, .inl rfl, .inr rfl, .inr rfl, .inr rfl, .inr rfl, .inr rfl, trivial⟩ (ih s P1 hP1 x4 x5 x6 x7 (x8 + (1 : Int32)))
    · exact fu_leaf rfl ⟨.inl rfl, .inl rfl, .inl rfl, .inl rfl, .inl rfl, .inl rfl, .inl rfl, .inl rfl, .inl rfl, trivial⟩
set_option maxRecDepth 100000 in
theorem e_X10_firstMove (d : Nat) (hd : 38 ≤ d) (s : fu_S) (P1 : Nat) (hP1 : fc_is3 P1) (a2 : Int32) (a3 : Int32) (a4 : Int32) : fu_J (f_X10_firstMove s P1 a2 a3 a4) (fun r => some (some (.int r), s)) (am_D (fu_ho fc_sh) am_m d 175 [.ref 110, .ref P1, .int a2, .int a3, .int a4] s) := by
  obtain ⟨d, rfl⟩ : ∃ e, d = e + 1 := ⟨d - 1, by omega⟩
  refine fu_enter (ls := [.ref 110, .ref P1, .int a2, .int a3, .int a4, am_U, am_U, am_U, am_U]) am_at_X10_firstMove rfl rfl ?_
  show fu_J _ _ (fc_X d (some .int) k_X10_firstMove 0 [.ref 110, .ref P1, .int a2, .int a3, .int a4, am_U, am_U, am_U, am_U] [] s)
  unfold f_X10_firstMove
  refine fu_go 2 (pc' := 2) (ls' := [.ref 110, .ref P1, .int a2, .int a3, .int a4, am_U, am_U, am_U, am_U]) (st' := [.int a2, .ref P1]) (s' := s) rfl ?_
  refine fu_bind (fu_cVJ rfl rfl rfl rfl rfl (fu_recv hP1.1 am_at_X4_upSetFor rfl) (e_X4_upSetFor d (by omega) s P1 hP1 a2)) (fun r1 => ?_)
  show fu_J _ _ (fc_X d (some .int) k_X10_firstMove 5 [.ref 110, .ref P1, .int a2, .int a3, .int a4, am_U, am_U, am_U, am_U] [.int r1] s)
  refine fu_go 3 (pc' := 9) (ls' := [.ref 110, .ref P1, .int a2, .int a3, .int a4, .int r1, am_U, am_U, am_U]) (st' := [.int a3, .ref P1]) (s' := s) rfl ?_
  refine fu_bind (fu_cVJ rfl rfl rfl rfl rfl (fu_recv hP1.1 am_at_X4_upSetFor rfl) (e_X4_upSetFor d (by omega) s P1 hP1 a3)) (fun r2 => ?_)
  show fu_J _ _ (fc_X d (some .int) k_X10_firstMove 12 [.ref 110, .ref P1, .int a2, .int a3, .int a4, .int r1, am_U, am_U, am_U] [.int r2] s)
  refine fu_go 5 (pc' := 21) (ls' := [.ref 110, .ref P1, .int a2, .int a3, .int a4, .int r1, .int r2, am_U, am_U]) (st' := [.int a4, .int r2, .int r1, .ref P1]) (s' := s) rfl ?_
  refine fu_bind (fu_cSJ rfl rfl rfl rfl rfl rfl (e_X10_bestPlay 16 d (by omega) s P1 hP1 r1 r2 a4)) (fun r3 => ?_)
  show fu_J _ _ (fc_X d (some .int) k_X10_firstMove 24 [.ref 110, .ref P1, .int a2, .int a3, .int a4, .int r1, .int r2, am_U, am_U] [.int r3] s)
  refine fu_go 3 (pc' := 29) (ls' := [.ref 110, .ref P1, .int a2, .int a3, .int a4, .int r1, .int r2, .int r3, .int (0 : Int32)]) (st' := []) (s' := s) rfl ?_
  refine fu_drop (ls' := [am_U, .ref P1, am_U, am_U, .int a4, .int r1, .int r2, .int r3, .int (0 : Int32)]) ⟨.inl rfl, .inr rfl, .inl rfl, .inl rfl, .inr rfl, .inr rfl, .inr rfl, .inr rfl, .inr rfl, trivial⟩ ?_
  refine fu_bind (el_X10_firstMove_29 d (by omega) fu_N s P1 hP1 a4 r1 r2 r3 (0 : Int32)) (fun u => fu_sum (fun a => ?_) (fun r8 => ?_))
  · exact fu_ret rfl
  show fu_J _ _ (fc_X d (some .int) k_X10_firstMove 72 [am_U, am_U, am_U, am_U, am_U, am_U, am_U, am_U, am_U] [] s)
  refine fu_go 1 (pc' := 73) (ls' := [am_U, am_U, am_U, am_U, am_U, am_U, am_U, am_U, am_U]) (st' := [.int (-1 : Int32)]) (s' := s) rfl ?_
  exact fu_iret rfl rfl
/-! X11_status -/
set_option maxRecDepth 100000 in
theorem e_X11_status (d : Nat) (hd : 1 ≤ d) (s : fu_S) : fu_J (some (f_X11_status s)) (fun r => some (some (.int r), s)) (am_D (fu_ho fc_sh) am_m d 179 [.ref 0] s) := by
  obtain ⟨d, rfl⟩ : ∃ e, d = e + 1 := ⟨d - 1, by omega⟩
  refine fu_enter (ls := [.ref 0]) am_at_X11_status rfl rfl ?_
  show fu_J _ _ (fc_X d (some .int) k_X11_status 0 [.ref 0] [] s)
  unfold f_X11_status
  refine fu_go 1 (pc' := 1) (ls' := [.ref 0]) (st' := [.ref 0]) (s' := s) rfl ?_
  refine fu_step (fu_getI rfl fc_0 rfl rfl) ?_
  exact fu_iret rfl rfl
/-! X11_top -/
set_option maxRecDepth 100000 in
theorem e_X11_top (d : Nat) (hd : 1 ≤ d) (s : fu_S) : fu_J (some (f_X11_top s)) (fun r => some (some (.long r), s)) (am_D (fu_ho fc_sh) am_m d 180 [.ref 0] s) := by
  obtain ⟨d, rfl⟩ : ∃ e, d = e + 1 := ⟨d - 1, by omega⟩
  refine fu_enter (ls := [.ref 0]) am_at_X11_top rfl rfl ?_
  show fu_J _ _ (fc_X d (some .long) k_X11_top 0 [.ref 0] [] s)
  unfold f_X11_top
  refine fu_go 1 (pc' := 1) (ls' := [.ref 0]) (st' := [.ref 0]) (s' := s) rfl ?_
  refine fu_step (fu_getL rfl fc_0 rfl rfl) ?_
  exact fu_lret rfl rfl
/-! X11_bottom -/
set_option maxRecDepth 100000 in
theorem e_X11_bottom (d : Nat) (hd : 1 ≤ d) (s : fu_S) : fu_J (some (f_X11_bottom s)) (fun r => some (some (.long r), s)) (am_D (fu_ho fc_sh) am_m d 181 [.ref 0] s) := by
  obtain ⟨d, rfl⟩ : ∃ e, d = e + 1 := ⟨d - 1, by omega⟩
  refine fu_enter (ls := [.ref 0]) am_at_X11_bottom rfl rfl ?_
  show fu_J _ _ (fc_X d (some .long) k_X11_bottom 0 [.ref 0] [] s)
  unfold f_X11_bottom
  refine fu_go 1 (pc' := 1) (ls' := [.ref 0]) (st' := [.ref 0]) (s' := s) rfl ?_
  refine fu_step (fu_getL rfl fc_0 rfl rfl) ?_
  exact fu_lret rfl rfl
/-! X11_tray -/
set_option maxRecDepth 100000 in
theorem e_X11_tray (d : Nat) (hd : 3 ≤ d) (s : fu_S) (a1 : Int32) (a2 : Int32) (a3 : Int32) : fu_J (f_X11_tray s a1 a2 a3) (fun r => some (some (.int (fu_b r.1)), r.2)) (am_D (fu_ho fc_sh) am_m d 182 [.ref 0, .int a1, .int a2, .int a3] s) := by
  obtain ⟨d, rfl⟩ : ∃ e, d = e + 1 := ⟨d - 1, by omega⟩
  refine fu_enter (ls := [.ref 0, .int a1, .int a2, .int a3]) am_at_X11_tray rfl rfl ?_
  show fu_J _ _ (fc_X d (some .boolean) k_X11_tray 0 [.ref 0, .int a1, .int a2, .int a3] [] s)
  unfold f_X11_tray
  refine fu_go 2 (pc' := 2) (ls' := [.ref 0, .int a1, .int a2, .int a3]) (st' := [.ref 0, .ref 0]) (s' := s) rfl ?_
  refine fu_step (fu_getR rfl fc_0 rfl rfl) ?_
  refine fu_go 1 (pc' := 6) (ls' := [.ref 0, .int a1, .int a2, .int a3]) (st' := [.int a1, .ref 1, .ref 0]) (s' := s) rfl ?_
  refine fu_step (fu_cV rfl rfl rfl rfl rfl (fu_recv fc_1 am_at_X7_isTray rfl) (fu_eq (e_X7_isTray d (by omega) s a1) rfl)) ?_
  show fu_J _ _ (fc_X d (some .boolean) k_X11_tray 9 [.ref 0, .int a1, .int a2, .int a3] [.int (fu_b (f_X7_isTray a1)), .ref 0] s)
  refine fu_bind (V := fun j1 : Int32 => fc_X d (some .boolean) k_X11_tray 47 [.ref 0, .int a1, .int a2, .int a3] [.int j1, .ref 0] s) ?_ (fun j1 => ?_)
  · refine fu_ite (fun h2 => fu_step (fu_ib_eq_t rfl h2) ?_) (fun h2 => fu_step (fu_ib_eq_f rfl h2) ?_)
    · refine fu_go 1 (pc' := 13) (ls' := [.ref 0, .int a1, .int a2, .int a3]) (st' := [.ref 0, .ref 0]) (s' := s) rfl ?_
      refine fu_step (fu_getR rfl fc_0 rfl rfl) ?_
      refine fu_go 1 (pc' := 17) (ls' := [.ref 0, .int a1, .int a2, .int a3]) (st' := [.int a2, .ref 1, .ref 0]) (s' := s) rfl ?_
      refine fu_step (fu_cV rfl rfl rfl rfl rfl (fu_recv fc_1 am_at_X7_isSort rfl) (fu_eq (e_X7_isSort d (by omega) s a2) rfl)) ?_
      show fu_J _ _ (fc_X d (some .boolean) k_X11_tray 20 [.ref 0, .int a1, .int a2, .int a3] [.int (fu_b (f_X7_isSort a2)), .ref 0] s)
      refine fu_ite (fun h3 => fu_step (fu_ib_ne_t rfl h3) ?_) (fun h3 => fu_step (fu_ib_ne_f rfl h3) ?_)
      · refine fu_go 2 (pc' := 30) (ls' := [.ref 0, .int a1, .int a2, .int a3]) (st' := [.int (60 : Int32), .int a3, .ref 0]) (s' := s) rfl ?_
        refine fu_ite (fun h4 => fu_step (fu_ic_le_t rfl h4) ?_) (fun h4 => fu_step (fu_ic_le_f rfl h4) ?_)
        · refine fu_go 1 (pc' := 38) (ls' := [.ref 0, .int a1, .int a2, .int a3]) (st' := [.int a3, .ref 0]) (s' := s) rfl ?_
          refine fu_ite (fun h5 => fu_step (fu_if_ge_t rfl h5) ?_) (fun h5 => fu_step (fu_if_ge_f rfl h5) ?_)
          · refine fu_go 2 (pc' := 47) (ls' := [.ref 0, .int a1, .int a2, .int a3]) (st' := [.int (6 : Int32), .ref 0]) (s' := s) rfl ?_
            exact fu_leaf rfl ⟨.inr rfl, .inr rfl, .inr rfl, .inr rfl, trivial⟩
          · refine fu_go 1 (pc' := 47) (ls' := [.ref 0, .int a1, .int a2, .int a3]) (st' := [.int (0 : Int32), .ref 0]) (s' := s) rfl ?_
            exact fu_leaf rfl ⟨.inr rfl, .inr rfl, .inr rfl, .inr rfl, trivial⟩
        · refine fu_go 2 (pc' := 47) (ls' := [.ref 0, .int a1, .int a2, .int a3]) (st' := [.int (5 : Int32), .ref 0]) (s' := s) rfl ?_
          exact fu_leaf rfl ⟨.inr rfl, .inr rfl, .inr rfl, .inr rfl, trivial⟩
      · refine fu_go 2 (pc' := 47) (ls' := [.ref 0, .int a1, .int a2, .int a3]) (st' := [.int (1 : Int32), .ref 0]) (s' := s) rfl ?_
        exact fu_leaf rfl ⟨.inr rfl, .inr rfl, .inr rfl, .inr rfl, trivial⟩
    · refine fu_go 2 (pc' := 47) (ls' := [.ref 0, .int a1, .int a2, .int a3]) (st' := [.int (1 : Int32), .ref 0]) (s' := s) rfl ?_
      exact fu_leaf rfl ⟨.inr rfl, .inr rfl, .inr rfl, .inr rfl, trivial⟩
  show fu_J _ _ (fc_X d (some .boolean) k_X11_tray 47 [.ref 0, .int a1, .int a2, .int a3] [.int j1, .ref 0] s)
  refine fu_lets (b := (fu_pi s 0 15 j1)) (fu_putI rfl fc_0 rfl rfl) (fun s6 => ?_)
  refine fu_go 1 (pc' := 51) (ls' := [.ref 0, .int a1, .int a2, .int a3]) (st' := [.ref 0]) (s' := s6) rfl ?_
  refine fu_step (fu_getI rfl fc_0 rfl rfl) ?_
  refine fu_bind (V := fun j7 : fu_S => fc_X d (some .boolean) k_X11_tray 67 [.ref 0, am_U, am_U, am_U] [] j7) ?_ (fun j7 => ?_)
  · refine fu_ite (fun h8 => fu_step (fu_if_ne_t rfl h8) ?_) (fun h8 => fu_step (fu_if_ne_f rfl h8) ?_)
    · refine fu_go 1 (pc' := 58) (ls' := [.ref 0, .int a1, .int a2, .int a3]) (st' := [.ref 0]) (s' := s6) rfl ?_
      refine fu_step (fu_getR rfl fc_0 rfl rfl) ?_
      refine fu_go 3 (pc' := 64) (ls' := [.ref 0, .int a1, .int a2, .int a3]) (st' := [.int a3, .int a2, .int a1, .ref 1]) (s' := s6) rfl ?_
      refine fu_bind (fu_cVJ rfl rfl rfl rfl rfl (fu_recv fc_1 am_at_X7_make rfl) (e_X7_make d (by omega) s6 a1 a2 a3)) (fun r9 => ?_)
      show fu_J _ _ (fc_X d (some .boolean) k_X11_tray 67 [.ref 0, .int a1, .int a2, .int a3] [] r9)
      exact fu_leaf rfl ⟨.inr rfl, .inl rfl, .inl rfl, .inl rfl, trivial⟩
    · exact fu_leaf rfl ⟨.inr rfl, .inl rfl, .inl rfl, .inl rfl, trivial⟩
  show fu_J _ _ (fc_X d (some .boolean) k_X11_tray 67 [.ref 0, am_U, am_U, am_U] [] j7)
  refine fu_go 1 (pc' := 68) (ls' := [.ref 0, am_U, am_U, am_U]) (st' := [.ref 0]) (s' := j7) rfl ?_
  refine fu_step (fu_getI rfl fc_0 rfl rfl) ?_
  refine fu_bind (V := fun j10 : Bool => fc_X d (some .boolean) k_X11_tray 79 [am_U, am_U, am_U, am_U] [.int (fu_b j10)] j7) ?_ (fun j10 => ?_)
  · refine fu_ite (fun h11 => fu_step (fu_if_ne_t rfl h11) ?_) (fun h11 => fu_step (fu_if_ne_f rfl h11) ?_)
    · refine fu_go 2 (pc' := 79) (ls' := [.ref 0, am_U, am_U, am_U]) (st' := [.int (1 : Int32)]) (s' := j7) rfl ?_
      exact fu_leaf rfl ⟨.inl rfl, .inl rfl, .inl rfl, .inl rfl, trivial⟩
    · refine fu_go 1 (pc' := 79) (ls' := [.ref 0, am_U, am_U, am_U]) (st' := [.int (0 : Int32)]) (s' := j7) rfl ?_
      exact fu_leaf rfl ⟨.inl rfl, .inl rfl, .inl rfl, .inl rfl, trivial⟩
  show fu_J _ _ (fc_X d (some .boolean) k_X11_tray 79 [am_U, am_U, am_U, am_U] [.int (fu_b j10)] j7)
  exact fu_bret (b := j10) rfl rfl
/-! X11_placeStatus -/
set_option maxRecDepth 100000 in
theorem e_X11_placeStatus (d : Nat) (hd : 4 ≤ d) (s : fu_S) (a1 : Int32) (a2 : Int32) : fu_J (f_X11_placeStatus s a1 a2) (fun r => some (some (.int r), s)) (am_D (fu_ho fc_sh) am_m d 185 [.ref 0, .int a1, .int a2] s) := by
  obtain ⟨d, rfl⟩ : ∃ e, d = e + 1 := ⟨d - 1, by omega⟩
  refine fu_enter (ls := [.ref 0, .int a1, .int a2]) am_at_X11_placeStatus rfl rfl ?_
  show fu_J _ _ (fc_X d (some .int) k_X11_placeStatus 0 [.ref 0, .int a1, .int a2] [] s)
  unfold f_X11_placeStatus
  refine fu_go 1 (pc' := 1) (ls' := [.ref 0, .int a1, .int a2]) (st' := [.ref 0]) (s' := s) rfl ?_
  refine fu_step (fu_getR rfl fc_0 rfl rfl) ?_
  refine fu_go 1 (pc' := 5) (ls' := [.ref 0, .int a1, .int a2]) (st' := [.int a1, .ref 1]) (s' := s) rfl ?_
  refine fu_step (fu_cV rfl rfl rfl rfl rfl (fu_recv fc_1 am_at_X7_isTray rfl) (fu_eq (e_X7_isTray d (by omega) s a1) rfl)) ?_
  show fu_J _ _ (fc_X d (some .int) k_X11_placeStatus 8 [.ref 0, .int a1, .int a2] [.int (fu_b (f_X7_isTray a1))] s)
  refine fu_bind (V := fun j1 : Int32 => fc_X d (some .int) k_X11_placeStatus 48 [am_U, am_U, am_U] [.int j1] s) ?_ (fun j1 => ?_)
  · refine fu_ite (fun h2 => fu_step (fu_ib_ne_t rfl h2) ?_) (fun h2 => fu_step (fu_ib_ne_f rfl h2) ?_)
    · refine fu_go 1 (pc' := 16) (ls' := [.ref 0, .int a1, .int a2]) (st' := [.ref 0]) (s' := s) rfl ?_
      refine fu_step (fu_getR rfl fc_0 rfl rfl) ?_
      refine fu_go 1 (pc' := 20) (ls' := [.ref 0, .int a1, .int a2]) (st' := [.int a1, .ref 1]) (s' := s) rfl ?_
      refine fu_bind (fu_cVJ rfl rfl rfl rfl rfl (fu_recv fc_1 am_at_X7_isThere rfl) (e_X7_isThere d (by omega) s a1)) (fun r3 => ?_)
      show fu_J _ _ (fc_X d (some .int) k_X11_placeStatus 23 [.ref 0, .int a1, .int a2] [.int (fu_b r3)] s)
      refine fu_ite (fun h4 => fu_step (fu_ib_ne_t rfl h4) ?_) (fun h4 => fu_step (fu_ib_ne_f rfl h4) ?_)
      · refine fu_go 1 (pc' := 31) (ls' := [.ref 0, .int a1, .int a2]) (st' := [.ref 0]) (s' := s) rfl ?_
        refine fu_step (fu_getR rfl fc_0 rfl rfl) ?_
        refine fu_go 3 (pc' := 37) (ls' := [.ref 0, .int a1, .int a2]) (st' := [.int (1 : Int32), .int a2, .int a1, .ref 1]) (s' := s) rfl ?_
        refine fu_bind (fu_cVJ rfl rfl rfl rfl rfl (fu_recv fc_1 am_at_X7_hasPlaces rfl) (e_X7_hasPlaces d (by omega) s a1 a2 (1 : Int32))) (fun r5 => ?_)
        show fu_J _ _ (fc_X d (some .int) k_X11_placeStatus 40 [.ref 0, .int a1, .int a2] [.int (fu_b r5)] s)
        refine fu_ite (fun h6 => fu_step (fu_ib_ne_t rfl h6) ?_) (fun h6 => fu_step (fu_ib_ne_f rfl h6) ?_)
        · refine fu_go 1 (pc' := 48) (ls' := [.ref 0, .int a1, .int a2]) (st' := [.int (0 : Int32)]) (s' := s) rfl ?_
          exact fu_leaf rfl ⟨.inl rfl, .inl rfl, .inl rfl, trivial⟩
        · refine fu_go 2 (pc' := 48) (ls' := [.ref 0, .int a1, .int a2]) (st' := [.int (4 : Int32)]) (s' := s) rfl ?_
          exact fu_leaf rfl ⟨.inl rfl, .inl rfl, .inl rfl, trivial⟩
      · refine fu_go 2 (pc' := 48) (ls' := [.ref 0, .int a1, .int a2]) (st' := [.int (3 : Int32)]) (s' := s) rfl ?_
        exact fu_leaf rfl ⟨.inl rfl, .inl rfl, .inl rfl, trivial⟩
    · refine fu_go 2 (pc' := 48) (ls' := [.ref 0, .int a1, .int a2]) (st' := [.int (1 : Int32)]) (s' := s) rfl ?_
      exact fu_leaf rfl ⟨.inl rfl, .inl rfl, .inl rfl, trivial⟩
  show fu_J _ _ (fc_X d (some .int) k_X11_placeStatus 48 [am_U, am_U, am_U] [.int j1] s)
  exact fu_iret rfl rfl
/-! X11_write -/
set_option maxRecDepth 100000 in
theorem e_X11_write (d : Nat) (hd : 5 ≤ d) (s : fu_S) (a1 : Int32) (a2 : Int32) (a3 : Int64) : fu_J (f_X11_write s a1 a2 a3) (fun r => some (some (.int (fu_b r.1)), r.2)) (am_D (fu_ho fc_sh) am_m d 183 [.ref 0, .int a1, .int a2, .long a3] s) := by
  obtain ⟨d, rfl⟩ : ∃ e, d = e + 1 := ⟨d - 1, by omega⟩
  refine fu_enter (ls := [.ref 0, .int a1, .int a2, .long a3, am_U]) am_at_X11_write rfl rfl ?_
  show fu_J _ _ (fc_X d (some .boolean) k_X11_write 0 [.ref 0, .int a1, .int a2, .long a3, am_U] [] s)
  unfold f_X11_write
  refine fu_go 4 (pc' := 4) (ls' := [.ref 0, .int a1, .int a2, .long a3, am_U]) (st' := [.int a2, .int a1, .ref 0, .ref 0]) (s' := s) rfl ?_
  refine fu_bind (fu_cVJ rfl rfl rfl rfl rfl (fu_recv fc_0 am_at_X11_placeStatus rfl) (e_X11_placeStatus d (by omega) s a1 a2)) (fun r1 => ?_)
  show fu_J _ _ (fc_X d (some .boolean) k_X11_write 7 [.ref 0, .int a1, .int a2, .long a3, am_U] [.int r1, .ref 0] s)
  refine fu_lets (b := (fu_pi s 0 15 r1)) (fu_putI rfl fc_0 rfl rfl) (fun s2 => ?_)
  refine fu_go 1 (pc' := 11) (ls' := [.ref 0, .int a1, .int a2, .long a3, am_U]) (st' := [.ref 0]) (s' := s2) rfl ?_
  refine fu_step (fu_getI rfl fc_0 rfl rfl) ?_
  refine fu_bind (V := fun j3 : fu_S => fc_X d (some .boolean) k_X11_write 27 [.ref 0, am_U, am_U, am_U, am_U] [] j3) ?_ (fun j3 => ?_)
  · refine fu_ite (fun h4 => fu_step (fu_if_ne_t rfl h4) ?_) (fun h4 => fu_step (fu_if_ne_f rfl h4) ?_)
    · refine fu_go 1 (pc' := 18) (ls' := [.ref 0, .int a1, .int a2, .long a3, am_U]) (st' := [.ref 0]) (s' := s2) rfl ?_
      refine fu_step (fu_getR rfl fc_0 rfl rfl) ?_
      refine fu_go 3 (pc' := 24) (ls' := [.ref 0, .int a1, .int a2, .long a3, am_U]) (st' := [.long a3, .int a2, .int a1, .ref 1]) (s' := s2) rfl ?_
      refine fu_bind (fu_cVJ rfl rfl rfl rfl rfl (fu_recv fc_1 am_at_X7_put rfl) (e_X7_put d (by omega) s2 a1 a2 a3)) (fun r5 => ?_)
      show fu_J _ _ (fc_X d (some .boolean) k_X11_write 27 [.ref 0, .int a1, .int a2, .long a3, am_U] [] r5)
      exact fu_leaf rfl ⟨.inr rfl, .inl rfl, .inl rfl, .inl rfl, .inl rfl, trivial⟩
    · exact fu_leaf rfl ⟨.inr rfl, .inl rfl, .inl rfl, .inl rfl, .inl rfl, trivial⟩
  show fu_J _ _ (fc_X d (some .boolean) k_X11_write 27 [.ref 0, am_U, am_U, am_U, am_U] [] j3)
  refine fu_go 1 (pc' := 28) (ls' := [.ref 0, am_U, am_U, am_U, am_U]) (st' := [.ref 0]) (s' := j3) rfl ?_
  refine fu_step (fu_getI rfl fc_0 rfl rfl) ?_
  refine fu_bind (V := fun j6 : Bool => fc_X d (some .boolean) k_X11_write 39 [am_U, am_U, am_U, am_U, am_U] [.int (fu_b j6)] j3) ?_ (fun j6 => ?_)
  · refine fu_ite (fun h7 => fu_step (fu_if_ne_t rfl h7) ?_) (fun h7 => fu_step (fu_if_ne_f rfl h7) ?_)
    · refine fu_go 2 (pc' := 39) (ls' := [.ref 0, am_U, am_U, am_U, am_U]) (st' := [.int (1 : Int32)]) (s' := j3) rfl ?_
      exact fu_leaf rfl ⟨.inl rfl, .inl rfl, .inl rfl, .inl rfl, .inl rfl, trivial⟩
    · refine fu_go 1 (pc' := 39) (ls' := [.ref 0, am_U, am_U, am_U, am_U]) (st' := [.int (0 : Int32)]) (s' := j3) rfl ?_
      exact fu_leaf rfl ⟨.inl rfl, .inl rfl, .inl rfl, .inl rfl, .inl rfl, trivial⟩
  show fu_J _ _ (fc_X d (some .boolean) k_X11_write 39 [am_U, am_U, am_U, am_U, am_U] [.int (fu_b j6)] j3)
  exact fu_bret (b := j6) rfl rfl
/-! X11_read -/
set_option maxRecDepth 100000 in
theorem e_X11_read (d : Nat) (hd : 5 ≤ d) (s : fu_S) (a1 : Int32) (a2 : Int32) : fu_J (f_X11_read s a1 a2) (fun r => some (some (.long r.1), r.2)) (am_D (fu_ho fc_sh) am_m d 184 [.ref 0, .int a1, .int a2] s) := by
  obtain ⟨d, rfl⟩ : ∃ e, d = e + 1 := ⟨d - 1, by omega⟩
  refine fu_enter (ls := [.ref 0, .int a1, .int a2]) am_at_X11_read rfl rfl ?_
  show fu_J _ _ (fc_X d (some .long) k_X11_read 0 [.ref 0, .int a1, .int a2] [] s)
  unfold f_X11_read
  refine fu_go 4 (pc' := 4) (ls' := [.ref 0, .int a1, .int a2]) (st' := [.int a2, .int a1, .ref 0, .ref 0]) (s' := s) rfl ?_
  refine fu_bind (fu_cVJ rfl rfl rfl rfl rfl (fu_recv fc_0 am_at_X11_placeStatus rfl) (e_X11_placeStatus d (by omega) s a1 a2)) (fun r1 => ?_)
  show fu_J _ _ (fc_X d (some .long) k_X11_read 7 [.ref 0, .int a1, .int a2] [.int r1, .ref 0] s)
  refine fu_lets (b := (fu_pi s 0 15 r1)) (fu_putI rfl fc_0 rfl rfl) (fun s2 => ?_)
  refine fu_go 1 (pc' := 11) (ls' := [.ref 0, .int a1, .int a2]) (st' := [.ref 0]) (s' := s2) rfl ?_
  refine fu_step (fu_getI rfl fc_0 rfl rfl) ?_
  refine fu_bind (V := fun j3 : Int64 => fc_X d (some .long) k_X11_read 32 [am_U, am_U, am_U] [.long j3] s2) ?_ (fun j3 => ?_)
  · refine fu_ite (fun h4 => fu_step (fu_if_ne_t rfl h4) ?_) (fun h4 => fu_step (fu_if_ne_f rfl h4) ?_)
    · refine fu_go 1 (pc' := 18) (ls' := [.ref 0, .int a1, .int a2]) (st' := [.ref 0]) (s' := s2) rfl ?_
      refine fu_step (fu_getR rfl fc_0 rfl rfl) ?_
      refine fu_go 2 (pc' := 23) (ls' := [.ref 0, .int a1, .int a2]) (st' := [.int a2, .int a1, .ref 1]) (s' := s2) rfl ?_
      refine fu_bind (fu_cVJ rfl rfl rfl rfl rfl (fu_recv fc_1 am_at_X7_numberAt rfl) (e_X7_numberAt d (by omega) s2 a1 a2)) (fun r5 => ?_)
      show fu_J _ _ (fc_X d (some .long) k_X11_read 26 [.ref 0, .int a1, .int a2] [.long r5] s2)
      refine fu_go 1 (pc' := 32) (ls' := [.ref 0, .int a1, .int a2]) (st' := [.long r5]) (s' := s2) rfl ?_
      exact fu_leaf rfl ⟨.inl rfl, .inl rfl, .inl rfl, trivial⟩
    · refine fu_go 1 (pc' := 32) (ls' := [.ref 0, .int a1, .int a2]) (st' := [.long (-1 : Int64)]) (s' := s2) rfl ?_
      exact fu_leaf rfl ⟨.inl rfl, .inl rfl, .inl rfl, trivial⟩
  show fu_J _ _ (fc_X d (some .long) k_X11_read 32 [am_U, am_U, am_U] [.long j3] s2)
  exact fu_lret rfl rfl
/-! X11_pour -/
set_option maxRecDepth 100000 in
theorem e_X11_pour (d : Nat) (hd : 5 ≤ d) (s : fu_S) (a1 : Int32) (a2 : Int32) (a3 : Int32) (a4 : Int32) (a5 : Int32) : fu_J (f_X11_pour s a1 a2 a3 a4 a5) (fun r => some (some (.int (fu_b r.1)), r.2)) (am_D (fu_ho fc_sh) am_m d 186 [.ref 0, .int a1, .int a2, .int a3, .int a4, .int a5] s) := by
  obtain ⟨d, rfl⟩ : ∃ e, d = e + 1 := ⟨d - 1, by omega⟩
  refine fu_enter (ls := [.ref 0, .int a1, .int a2, .int a3, .int a4, .int a5]) am_at_X11_pour rfl rfl ?_
  show fu_J _ _ (fc_X d (some .boolean) k_X11_pour 0 [.ref 0, .int a1, .int a2, .int a3, .int a4, .int a5] [] s)
  unfold f_X11_pour
  refine fu_go 2 (pc' := 2) (ls' := [.ref 0, .int a1, .int a2, .int a3, .int a4, .int a5]) (st' := [.ref 0, .ref 0]) (s' := s) rfl ?_
  refine fu_step (fu_getR rfl fc_0 rfl rfl) ?_
  refine fu_go 1 (pc' := 6) (ls' := [.ref 0, .int a1, .int a2, .int a3, .int a4, .int a5]) (st' := [.int a1, .ref 1, .ref 0]) (s' := s) rfl ?_
  refine fu_step (fu_cV rfl rfl rfl rfl rfl (fu_recv fc_1 am_at_X7_isTray rfl) (fu_eq (e_X7_isTray d (by omega) s a1) rfl)) ?_
  show fu_J _ _ (fc_X d (some .boolean) k_X11_pour 9 [.ref 0, .int a1, .int a2, .int a3, .int a4, .int a5] [.int (fu_b (f_X7_isTray a1)), .ref 0] s)
  refine fu_bind (V := fun j1 : Int32 => fc_X d (some .boolean) k_X11_pour 121 [.ref 0, .int a1, .int a2, .int a3, .int a4, .int a5] [.int j1, .ref 0] s) ?_ (fun j1 => ?_)
  · refine fu_ite (fun h2 => fu_step (fu_ib_eq_t rfl h2) ?_) (fun h2 => fu_step (fu_ib_eq_f rfl h2) ?_)
    · refine fu_go 1 (pc' := 13) (ls' := [.ref 0, .int a1, .int a2, .int a3, .int a4, .int a5]) (st' := [.ref 0, .ref 0]) (s' := s) rfl ?_
      refine fu_step (fu_getR rfl fc_0 rfl rfl) ?_
      refine fu_go 1 (pc' := 17) (ls' := [.ref 0, .int a1, .int a2, .int a3, .int a4, .int a5]) (st' := [.int a3, .ref 1, .ref 0]) (s' := s) rfl ?_
      refine fu_step (fu_cV rfl rfl rfl rfl rfl (fu_recv fc_1 am_at_X7_isTray rfl) (fu_eq (e_X7_isTray d (by omega) s a3) rfl)) ?_
      show fu_J _ _ (fc_X d (some .boolean) k_X11_pour 20 [.ref 0, .int a1, .int a2, .int a3, .int a4, .int a5] [.int (fu_b (f_X7_isTray a3)), .ref 0] s)
      refine fu_ite (fun h3 => fu_step (fu_ib_ne_t rfl h3) ?_) (fun h3 => fu_step (fu_ib_ne_f rfl h3) ?_)
      · refine fu_go 1 (pc' := 28) (ls' := [.ref 0, .int a1, .int a2, .int a3, .int a4, .int a5]) (st' := [.ref 0, .ref 0]) (s' := s) rfl ?_
        refine fu_step (fu_getR rfl fc_0 rfl rfl) ?_
        refine fu_go 1 (pc' := 32) (ls' := [.ref 0, .int a1, .int a2, .int a3, .int a4, .int a5]) (st' := [.int a1, .ref 1, .ref 0]) (s' := s) rfl ?_
        refine fu_bind (fu_cVJ rfl rfl rfl rfl rfl (fu_recv fc_1 am_at_X7_isThere rfl) (e_X7_isThere d (by omega) s a1)) (fun r4 => ?_)
        show fu_J _ _ (fc_X d (some .boolean) k_X11_pour 35 [.ref 0, .int a1, .int a2, .int a3, .int a4, .int a5] [.int (fu_b r4), .ref 0] s)
        refine fu_ite (fun h5 => fu_step (fu_ib_eq_t rfl h5) ?_) (fun h5 => fu_step (fu_ib_eq_f rfl h5) ?_)
        · refine fu_go 1 (pc' := 39) (ls' := [.ref 0, .int a1, .int a2, .int a3, .int a4, .int a5]) (st' := [.ref 0, .ref 0]) (s' := s) rfl ?_
          refine fu_step (fu_getR rfl fc_0 rfl rfl) ?_
          refine fu_go 1 (pc' := 43) (ls' := [.ref 0, .int a1, .int a2, .int a3, .int a4, .int a5]) (st' := [.int a3, .ref 1, .ref 0]) (s' := s) rfl ?_
          refine fu_bind (fu_cVJ rfl rfl rfl rfl rfl (fu_recv fc_1 am_at_X7_isThere rfl) (e_X7_isThere d (by omega) s a3)) (fun r6 => ?_)
          show fu_J _ _ (fc_X d (some .boolean) k_X11_pour 46 [.ref 0, .int a1, .int a2, .int a3, .int a4, .int a5] [.int (fu_b r6), .ref 0] s)
          refine fu_ite (fun h7 => fu_step (fu_ib_ne_t rfl h7) ?_) (fun h7 => fu_step (fu_ib_ne_f rfl h7) ?_)
          · refine fu_go 1 (pc' := 54) (ls' := [.ref 0, .int a1, .int a2, .int a3, .int a4, .int a5]) (st' := [.ref 0, .ref 0]) (s' := s) rfl ?_
            refine fu_step (fu_getR rfl fc_0 rfl rfl) ?_
            refine fu_go 1 (pc' := 58) (ls' := [.ref 0, .int a1, .int a2, .int a3, .int a4, .int a5]) (st' := [.int a1, .ref 1, .ref 0]) (s' := s) rfl ?_
            refine fu_bind (fu_cVJ rfl rfl rfl rfl rfl (fu_recv fc_1 am_at_X7_sortOf rfl) (e_X7_sortOf d (by omega) s a1)) (fun r8 => ?_)
            show fu_J _ _ (fc_X d (some .boolean) k_X11_pour 61 [.ref 0, .int a1, .int a2, .int a3, .int a4, .int a5] [.int r8, .ref 0] s)
            refine fu_go 1 (pc' := 62) (ls' := [.ref 0, .int a1, .int a2, .int a3, .int a4, .int a5]) (st' := [.ref 0, .int r8, .ref 0]) (s' := s) rfl ?_
            refine fu_step (fu_getR rfl fc_0 rfl rfl) ?_
            refine fu_go 1 (pc' := 66) (ls' := [.ref 0, .int a1, .int a2, .int a3, .int a4, .int a5]) (st' := [.int a3, .ref 1, .int r8, .ref 0]) (s' := s) rfl ?_
            refine fu_bind (fu_cVJ rfl rfl rfl rfl rfl (fu_recv fc_1 am_at_X7_sortOf rfl) (e_X7_sortOf d (by omega) s a3)) (fun r9 => ?_)
            show fu_J _ _ (fc_X d (some .boolean) k_X11_pour 69 [.ref 0, .int a1, .int a2, .int a3, .int a4, .int a5] [.int r9, .int r8, .ref 0] s)
            refine fu_ite (fun h10 => fu_step (fu_ic_eq_t rfl h10) ?_) (fun h10 => fu_step (fu_ic_eq_f rfl h10) ?_)
            · refine fu_go 1 (pc' := 79) (ls' := [.ref 0, .int a1, .int a2, .int a3, .int a4, .int a5]) (st' := [.int a5, .ref 0]) (s' := s) rfl ?_
              refine fu_ite (fun h11 => fu_step (fu_if_ge_t rfl h11) ?_) (fun h11 => fu_step (fu_if_ge_f rfl h11) ?_)
              · refine fu_go 2 (pc' := 121) (ls' := [.ref 0, .int a1, .int a2, .int a3, .int a4, .int a5]) (st' := [.int (6 : Int32), .ref 0]) (s' := s) rfl ?_
                exact fu_leaf rfl ⟨.inr rfl, .inr rfl, .inr rfl, .inr rfl, .inr rfl, .inr rfl, trivial⟩
              · refine fu_go 1 (pc' := 88) (ls' := [.ref 0, .int a1, .int a2, .int a3, .int a4, .int a5]) (st' := [.ref 0, .ref 0]) (s' := s) rfl ?_
                refine fu_step (fu_getR rfl fc_0 rfl rfl) ?_
                refine fu_go 3 (pc' := 95) (ls' := [.ref 0, .int a1, .int a2, .int a3, .int a4, .int a5]) (st' := [.int a5, .int a2, .int a1, .ref 1, .ref 0]) (s' := s) rfl ?_
                refine fu_bind (fu_cVJ rfl rfl rfl rfl rfl (fu_recv fc_1 am_at_X7_hasPlaces rfl) (e_X7_hasPlaces d (by omega) s a1 a2 a5)) (fun r12 => ?_)
                show fu_J _ _ (fc_X d (some .boolean) k_X11_pour 98 [.ref 0, .int a1, .int a2, .int a3, .int a4, .int a5] [.int (fu_b r12), .ref 0] s)
                refine fu_ite (fun h13 => fu_step (fu_ib_eq_t rfl h13) ?_) (fun h13 => fu_step (fu_ib_eq_f rfl h13) ?_)
                · refine fu_go 1 (pc' := 102) (ls' := [.ref 0, .int a1, .int a2, .int a3, .int a4, .int a5]) (st' := [.ref 0, .ref 0]) (s' := s) rfl ?_
                  refine fu_step (fu_getR rfl fc_0 rfl rfl) ?_
                  refine fu_go 3 (pc' := 110) (ls' := [.ref 0, .int a1, .int a2, .int a3, .int a4, .int a5]) (st' := [.int a5, .int a4, .int a3, .ref 1, .ref 0]) (s' := s) rfl ?_
                  refine fu_bind (fu_cVJ rfl rfl rfl rfl rfl (fu_recv fc_1 am_at_X7_hasPlaces rfl) (e_X7_hasPlaces d (by omega) s a3 a4 a5)) (fun r14 => ?_)
                  show fu_J _ _ (fc_X d (some .boolean) k_X11_pour 113 [.ref 0, .int a1, .int a2, .int a3, .int a4, .int a5] [.int (fu_b r14), .ref 0] s)
                  refine fu_ite (fun h15 => fu_step (fu_ib_ne_t rfl h15) ?_) (fun h15 => fu_step (fu_ib_ne_f rfl h15) ?_)
                  · refine fu_go 1 (pc' := 121) (ls' := [.ref 0, .int a1, .int a2, .int a3, .int a4, .int a5]) (st' := [.int (0 : Int32), .ref 0]) (s' := s) rfl ?_
                    exact fu_leaf rfl ⟨.inr rfl, .inr rfl, .inr rfl, .inr rfl, .inr rfl, .inr rfl, trivial⟩
                  · refine fu_go 2 (pc' := 121) (ls' := [.ref 0, .int a1, .int a2, .int a3, .int a4, .int a5]) (st' := [.int (4 : Int32), .ref 0]) (s' := s) rfl ?_
                    exact fu_leaf rfl ⟨.inr rfl, .inr rfl, .inr rfl, .inr rfl, .inr rfl, .inr rfl, trivial⟩
                · refine fu_go 2 (pc' := 121) (ls' := [.ref 0, .int a1, .int a2, .int a3, .int a4, .int a5]) (st' := [.int (4 : Int32), .ref 0]) (s' := s) rfl ?_
                  exact fu_leaf rfl ⟨.inr rfl, .inr rfl, .inr rfl, .inr rfl, .inr rfl, .inr rfl, trivial⟩
            · refine fu_go 2 (pc' := 121) (ls' := [.ref 0, .int a1, .int a2, .int a3, .int a4, .int a5]) (st' := [.int (11 : Int32), .ref 0]) (s' := s) rfl ?_
              exact fu_leaf rfl ⟨.inr rfl, .inr rfl, .inr rfl, .inr rfl, .inr rfl, .inr rfl, trivial⟩
          · refine fu_go 2 (pc' := 121) (ls' := [.ref 0, .int a1, .int a2, .int a3, .int a4, .int a5]) (st' := [.int (3 : Int32), .ref 0]) (s' := s) rfl ?_
            exact fu_leaf rfl ⟨.inr rfl, .inr rfl, .inr rfl, .inr rfl, .inr rfl, .inr rfl, trivial⟩
        · refine fu_go 2 (pc' := 121) (ls' := [.ref 0, .int a1, .int a2, .int a3, .int a4, .int a5]) (st' := [.int (3 : Int32), .ref 0]) (s' := s) rfl ?_
          exact fu_leaf rfl ⟨.inr rfl, .inr rfl, .inr rfl, .inr rfl, .inr rfl, .inr rfl, trivial⟩
      · refine fu_go 2 (pc' := 121) (ls' := [.ref 0, .int a1, .int a2, .int a3, .int a4, .int a5]) (st' := [.int (1 : Int32), .ref 0]) (s' := s) rfl ?_
        exact fu_leaf rfl ⟨.inr rfl, .inr rfl, .inr rfl, .inr rfl, .inr rfl, .inr rfl, trivial⟩
    · refine fu_go 2 (pc' := 121) (ls' := [.ref 0, .int a1, .int a2, .int a3, .int a4, .int a5]) (st' := [.int (1 : Int32), .ref 0]) (s' := s) rfl ?_
      exact fu_leaf rfl ⟨.inr rfl, .inr rfl, .inr rfl, .inr rfl, .inr rfl, .inr rfl, trivial⟩
  show fu_J _ _ (fc_X d (some .boolean) k_X11_pour 121 [.ref 0, .int a1, .int a2, .int a3, .int a4, .int a5] [.int j1, .ref 0] s)
  refine fu_lets (b := (fu_pi s 0 15 j1)) (fu_putI rfl fc_0 rfl rfl) (fun s16 => ?_)
  refine fu_go 1 (pc' := 125) (ls' := [.ref 0, .int a1, .int a2, .int a3, .int a4, .int a5]) (st' := [.ref 0]) (s' := s16) rfl ?_
  refine fu_step (fu_getI rfl fc_0 rfl rfl) ?_
  refine fu_bind (V := fun j17 : fu_S => fc_X d (some .boolean) k_X11_pour 145 [.ref 0, am_U, am_U, am_U, am_U, am_U] [] j17) ?_ (fun j17 => ?_)
  · refine fu_ite (fun h18 => fu_step (fu_if_ne_t rfl h18) ?_) (fun h18 => fu_step (fu_if_ne_f rfl h18) ?_)
    · refine fu_go 1 (pc' := 132) (ls' := [.ref 0, .int a1, .int a2, .int a3, .int a4, .int a5]) (st' := [.ref 0]) (s' := s16) rfl ?_
      refine fu_step (fu_getR rfl fc_0 rfl rfl) ?_
      refine fu_go 5 (pc' := 142) (ls' := [.ref 0, .int a1, .int a2, .int a3, .int a4, .int a5]) (st' := [.int a5, .int a4, .int a3, .int a2, .int a1, .ref 1]) (s' := s16) rfl ?_
      refine fu_bind (fu_cVJ rfl rfl rfl rfl rfl (fu_recv fc_1 am_at_X7_transfer rfl) (e_X7_transfer d (by omega) s16 a1 a2 a3 a4 a5)) (fun r19 => ?_)
      show fu_J _ _ (fc_X d (some .boolean) k_X11_pour 145 [.ref 0, .int a1, .int a2, .int a3, .int a4, .int a5] [] r19)
      exact fu_leaf rfl ⟨.inr rfl, .inl rfl, .inl rfl, .inl rfl, .inl rfl, .inl rfl, trivial⟩
    · exact fu_leaf rfl ⟨.inr rfl, .inl rfl, .inl rfl, .inl rfl, .inl rfl, .inl rfl, trivial⟩
  show fu_J _ _ (fc_X d (some .boolean) k_X11_pour 145 [.ref 0, am_U, am_U, am_U, am_U, am_U] [] j17)
  refine fu_go 1 (pc' := 146) (ls' := [.ref 0, am_U, am_U, am_U, am_U, am_U]) (st' := [.ref 0]) (s' := j17) rfl ?_
  refine fu_step (fu_getI rfl fc_0 rfl rfl) ?_
  refine fu_bind (V := fun j20 : Bool => fc_X d (some .boolean) k_X11_pour 157 [am_U, am_U, am_U, am_U, am_U, am_U] [.int (fu_b j20)] j17) ?_ (fun j20 => ?_)
  · refine fu_ite (fun h21 => fu_step (fu_if_ne_t rfl h21) ?_) (fun h21 => fu_step (fu_if_ne_f rfl h21) ?_)
    · refine fu_go 2 (pc' := 157) (ls' := [.ref 0, am_U, am_U, am_U, am_U, am_U]) (st' := [.int (1 : Int32)]) (s' := j17) rfl ?_
      exact fu_leaf rfl ⟨.inl rfl, .inl rfl, .inl rfl, .inl rfl, .inl rfl, .inl rfl, trivial⟩
    · refine fu_go 1 (pc' := 157) (ls' := [.ref 0, am_U, am_U, am_U, am_U, am_U]) (st' := [.int (0 : Int32)]) (s' := j17) rfl ?_
      exact fu_leaf rfl ⟨.inl rfl, .inl rfl, .inl rfl, .inl rfl, .inl rfl, .inl rfl, trivial⟩
  show fu_J _ _ (fc_X d (some .boolean) k_X11_pour 157 [am_U, am_U, am_U, am_U, am_U, am_U] [.int (fu_b j20)] j17)
  exact fu_bret (b := j20) rfl rfl
/-! X11_feed -/
set_option maxRecDepth 100000 in
theorem e_X11_feed (d : Nat) (hd : 2 ≤ d) (s : fu_S) (a1 : Int32) (a2 : Int32) (a3 : Int32) (a4 : Int32) (a5 : Int32) : fu_J (f_X11_feed s a1 a2 a3 a4 a5) (fun r => some (some (.int r.1), r.2)) (am_D (fu_ho fc_sh) am_m d 187 [.ref 0, .int a1, .int a2, .int a3, .int a4, .int a5] s) := by
  obtain ⟨d, rfl⟩ : ∃ e, d = e + 1 := ⟨d - 1, by omega⟩
  refine fu_enter (ls := [.ref 0, .int a1, .int a2, .int a3, .int a4, .int a5]) am_at_X11_feed rfl rfl ?_
  show fu_J _ _ (fc_X d (some .int) k_X11_feed 0 [.ref 0, .int a1, .int a2, .int a3, .int a4, .int a5] [] s)
  unfold f_X11_feed
  refine fu_go 1 (pc' := 1) (ls' := [.ref 0, .int a1, .int a2, .int a3, .int a4, .int a5]) (st' := [.ref 0]) (s' := s) rfl ?_
  refine fu_step (fu_getR rfl fc_0 rfl rfl) ?_
  refine fu_go 1 (pc' := 6) (ls' := [.ref 0, .int a1, .int a2, .int a3, .int a4, .int a5]) (st' := [.int (20 : Int32), .ref 5]) (s' := s) rfl ?_
  refine fu_step (fu_cV rfl rfl rfl rfl rfl (fu_recv fc_5 am_at_X8_hasRoomFor rfl) (fu_eq (e_X8_hasRoomFor d (by omega) s (20 : Int32)) rfl)) ?_
  show fu_J _ _ (fc_X d (some .int) k_X11_feed 9 [.ref 0, .int a1, .int a2, .int a3, .int a4, .int a5] [.int (fu_b (f_X8_hasRoomFor s (20 : Int32)))] s)
  refine fu_ite (fun h1 => fu_step (fu_ib_ne_t rfl h1) ?_) (fun h1 => fu_step (fu_ib_ne_f rfl h1) ?_)
  · refine fu_go 1 (pc' := 15) (ls' := [.ref 0, .int a1, .int a2, .int a3, .int a4, .int a5]) (st' := [.ref 0]) (s' := s) rfl ?_
    refine fu_step (fu_getR rfl fc_0 rfl rfl) ?_
    refine fu_go 1 (pc' := 19) (ls' := [.ref 0, .int a1, .int a2, .int a3, .int a4, .int a5]) (st' := [.int a1, .ref 5]) (s' := s) rfl ?_
    refine fu_bind (fu_cVJ rfl rfl rfl rfl rfl (fu_recv fc_5 am_at_X8_append rfl) (e_X8_append d (by omega) s a1)) (fun r2 => ?_)
    show fu_J _ _ (fc_X d (some .int) k_X11_feed 22 [.ref 0, .int a1, .int a2, .int a3, .int a4, .int a5] [] r2)
    refine fu_go 1 (pc' := 23) (ls' := [.ref 0, .int a1, .int a2, .int a3, .int a4, .int a5]) (st' := [.ref 0]) (s' := r2) rfl ?_
    refine fu_step (fu_getR rfl fc_0 rfl rfl) ?_
    refine fu_go 1 (pc' := 27) (ls' := [.ref 0, .int a1, .int a2, .int a3, .int a4, .int a5]) (st' := [.int a2, .ref 5]) (s' := r2) rfl ?_
    refine fu_bind (fu_cVJ rfl rfl rfl rfl rfl (fu_recv fc_5 am_at_X8_append rfl) (e_X8_append d (by omega) r2 a2)) (fun r3 => ?_)
    show fu_J _ _ (fc_X d (some .int) k_X11_feed 30 [.ref 0, .int a1, .int a2, .int a3, .int a4, .int a5] [] r3)
    refine fu_go 1 (pc' := 31) (ls' := [.ref 0, .int a1, .int a2, .int a3, .int a4, .int a5]) (st' := [.ref 0]) (s' := r3) rfl ?_
    refine fu_step (fu_getR rfl fc_0 rfl rfl) ?_
    refine fu_go 1 (pc' := 35) (ls' := [.ref 0, .int a1, .int a2, .int a3, .int a4, .int a5]) (st' := [.int a3, .ref 5]) (s' := r3) rfl ?_
    refine fu_bind (fu_cVJ rfl rfl rfl rfl rfl (fu_recv fc_5 am_at_X8_append rfl) (e_X8_append d (by omega) r3 a3)) (fun r4 => ?_)
    show fu_J _ _ (fc_X d (some .int) k_X11_feed 38 [.ref 0, .int a1, .int a2, .int a3, .int a4, .int a5] [] r4)
    refine fu_go 1 (pc' := 39) (ls' := [.ref 0, .int a1, .int a2, .int a3, .int a4, .int a5]) (st' := [.ref 0]) (s' := r4) rfl ?_
    refine fu_step (fu_getR rfl fc_0 rfl rfl) ?_
    refine fu_go 1 (pc' := 44) (ls' := [.ref 0, .int a1, .int a2, .int a3, .int a4, .int a5]) (st' := [.int a4, .ref 5]) (s' := r4) rfl ?_
    refine fu_bind (fu_cVJ rfl rfl rfl rfl rfl (fu_recv fc_5 am_at_X8_append rfl) (e_X8_append d (by omega) r4 a4)) (fun r5 => ?_)
    show fu_J _ _ (fc_X d (some .int) k_X11_feed 47 [.ref 0, .int a1, .int a2, .int a3, .int a4, .int a5] [] r5)
    refine fu_go 1 (pc' := 48) (ls' := [.ref 0, .int a1, .int a2, .int a3, .int a4, .int a5]) (st' := [.ref 0]) (s' := r5) rfl ?_
    refine fu_step (fu_getR rfl fc_0 rfl rfl) ?_
    refine fu_go 1 (pc' := 53) (ls' := [.ref 0, .int a1, .int a2, .int a3, .int a4, .int a5]) (st' := [.int a5, .ref 5]) (s' := r5) rfl ?_
    refine fu_bind (fu_cVJ rfl rfl rfl rfl rfl (fu_recv fc_5 am_at_X8_append rfl) (e_X8_append d (by omega) r5 a5)) (fun r6 => ?_)
    show fu_J _ _ (fc_X d (some .int) k_X11_feed 56 [.ref 0, .int a1, .int a2, .int a3, .int a4, .int a5] [] r6)
    refine fu_go 1 (pc' := 57) (ls' := [.ref 0, .int a1, .int a2, .int a3, .int a4, .int a5]) (st' := [.ref 0]) (s' := r6) rfl ?_
    refine fu_step (fu_getR rfl fc_0 rfl rfl) ?_
    refine fu_step (fu_cV rfl rfl rfl rfl rfl (fu_recv fc_5 am_at_X8_size rfl) (fu_eq (e_X8_size d (by omega) r6) rfl)) ?_
    show fu_J _ _ (fc_X d (some .int) k_X11_feed 63 [.ref 0, .int a1, .int a2, .int a3, .int a4, .int a5] [.int (f_X8_size r6)] r6)
    exact fu_iret rfl rfl
  · refine fu_go 1 (pc' := 13) (ls' := [.ref 0, .int a1, .int a2, .int a3, .int a4, .int a5]) (st' := [.int (-1 : Int32)]) (s' := s) rfl ?_
    exact fu_iret rfl rfl
/-! X11_district -/
set_option maxRecDepth 100000 in
theorem e_X11_district (d : Nat) (hd : 8 ≤ d) (s : fu_S) (a1 : Int32) : fu_J (f_X11_district s a1) (fun r => some (some (.int r.1), r.2)) (am_D (fu_ho fc_sh) am_m d 188 [.ref 0, .int a1] s) := by
  obtain ⟨d, rfl⟩ : ∃ e, d = e + 1 := ⟨d - 1, by omega⟩
  refine fu_enter (ls := [.ref 0, .int a1]) am_at_X11_district rfl rfl ?_
  show fu_J _ _ (fc_X d (some .int) k_X11_district 0 [.ref 0, .int a1] [] s)
  unfold f_X11_district
  refine fu_go 2 (pc' := 2) (ls' := [.ref 0, .int a1]) (st' := [.int a1, .ref 0]) (s' := s) rfl ?_
  refine fu_bind (V := fun j1 : Int32 => fc_X d (some .int) k_X11_district 21 [.ref 0, .int a1] [.int j1, .ref 0] s) ?_ (fun j1 => ?_)
  · refine fu_ite (fun h2 => fu_step (fu_if_lt_t rfl h2) ?_) (fun h2 => fu_step (fu_if_lt_f rfl h2) ?_)
    · refine fu_go 2 (pc' := 21) (ls' := [.ref 0, .int a1]) (st' := [.int (5 : Int32), .ref 0]) (s' := s) rfl ?_
      exact fu_leaf rfl ⟨.inr rfl, .inr rfl, trivial⟩
    · refine fu_go 2 (pc' := 7) (ls' := [.ref 0, .int a1]) (st' := [.ref 0, .int a1, .ref 0]) (s' := s) rfl ?_
      refine fu_step (fu_getR rfl fc_0 rfl rfl) ?_
      refine fu_step (fu_cV rfl rfl rfl rfl rfl (fu_recv fc_5 am_at_X8_size rfl) (fu_eq (e_X8_size d (by omega) s) rfl)) ?_
      show fu_J _ _ (fc_X d (some .int) k_X11_district 13 [.ref 0, .int a1] [.int (f_X8_size s), .int a1, .ref 0] s)
      refine fu_ite (fun h3 => fu_step (fu_ic_le_t rfl h3) ?_) (fun h3 => fu_step (fu_ic_le_f rfl h3) ?_)
      · refine fu_go 1 (pc' := 21) (ls' := [.ref 0, .int a1]) (st' := [.int (0 : Int32), .ref 0]) (s' := s) rfl ?_
        exact fu_leaf rfl ⟨.inr rfl, .inr rfl, trivial⟩
      · refine fu_go 2 (pc' := 21) (ls' := [.ref 0, .int a1]) (st' := [.int (5 : Int32), .ref 0]) (s' := s) rfl ?_
        exact fu_leaf rfl ⟨.inr rfl, .inr rfl, trivial⟩
  show fu_J _ _ (fc_X d (some .int) k_X11_district 21 [.ref 0, .int a1] [.int j1, .ref 0] s)
  refine fu_lets (b := (fu_pi s 0 15 j1)) (fu_putI rfl fc_0 rfl rfl) (fun s4 => ?_)
  refine fu_go 1 (pc' := 25) (ls' := [.ref 0, .int a1]) (st' := [.ref 0]) (s' := s4) rfl ?_
  refine fu_step (fu_getI rfl fc_0 rfl rfl) ?_
  refine fu_ite (fun h5 => fu_step (fu_if_eq_t rfl h5) ?_) (fun h5 => fu_step (fu_if_eq_f rfl h5) ?_)
  · refine fu_go 1 (pc' := 34) (ls' := [.ref 0, .int a1]) (st' := [.ref 0]) (s' := s4) rfl ?_
    refine fu_step (fu_getR rfl fc_0 rfl rfl) ?_
    refine fu_go 1 (pc' := 38) (ls' := [.ref 0, .int a1]) (st' := [.int a1, .ref 5]) (s' := s4) rfl ?_
    refine fu_bind (fu_cVJ rfl rfl rfl rfl rfl (fu_recv fc_5 am_at_X8_open rfl) (e_X8_open d (by omega) s4 a1)) (fun r6 => ?_)
    show fu_J _ _ (fc_X d (some .int) k_X11_district 41 [.ref 0, .int a1] [] r6)
    refine fu_go 1 (pc' := 42) (ls' := [.ref 0, .int a1]) (st' := [.ref 0]) (s' := r6) rfl ?_
    refine fu_step (fu_getR rfl fc_0 rfl rfl) ?_
    refine fu_bind (fu_cVJ rfl rfl rfl rfl rfl (fu_recv fc_47 am_at_X2_takeAll rfl) (e_X2_takeAll d (by omega) r6)) (fun r7 => ?_)
    show fu_J _ _ (fc_X d (some .int) k_X11_district 48 [.ref 0, .int a1] [.int (fu_b r7.1)] r7.2)
    refine fu_bind (V := fun j8 : fu_S => fc_X d (some .int) k_X11_district 78 [.ref 0, am_U] [] j8) ?_ (fun j8 => ?_)
    · refine fu_ite (fun h9 => fu_step (fu_ib_eq_t rfl h9) ?_) (fun h9 => fu_step (fu_ib_eq_f rfl h9) ?_)
      · refine fu_go 1 (pc' := 52) (ls' := [.ref 0, .int a1]) (st' := [.ref 0]) (s' := r7.2) rfl ?_
        refine fu_step (fu_getR rfl fc_0 rfl rfl) ?_
        refine fu_go 1 (pc' := 56) (ls' := [.ref 0, .int a1]) (st' := [.ref 0, .ref 11]) (s' := r7.2) rfl ?_
        refine fu_step (fu_getR rfl fc_0 rfl rfl) ?_
        refine fu_let (fu_cVJ rfl rfl rfl rfl rfl (fu_recv fc_11 am_at_X4_copyFrom rfl) (e_X4_copyFrom d (by omega) r7.2 11 fc_is3_11 29 fc_is3_29)) (fun r10 => ?_)
        show fu_J _ _ (fc_X d (some .int) k_X11_district 62 [.ref 0, .int a1] [] r10)
        refine fu_go 1 (pc' := 63) (ls' := [.ref 0, .int a1]) (st' := [.ref 0]) (s' := r10) rfl ?_
        refine fu_step (fu_getR rfl fc_0 rfl rfl) ?_
        refine fu_let (fu_cVJ rfl rfl rfl rfl rfl (fu_recv fc_24 am_at_X5_forget rfl) (e_X5_forget d (by omega) r10 24 fc_is4_24)) (fun r11 => ?_)
        show fu_J _ _ (fc_X d (some .int) k_X11_district 69 [.ref 0, .int a1] [] r11)
        refine fu_go 1 (pc' := 78) (ls' := [.ref 0, .int a1]) (st' := []) (s' := r11) rfl ?_
        exact fu_leaf rfl ⟨.inr rfl, .inl rfl, trivial⟩
      · refine fu_go 2 (pc' := 75) (ls' := [.ref 0, .int a1]) (st' := [.int (10 : Int32), .ref 0]) (s' := r7.2) rfl ?_
        refine fu_lets (b := (fu_pi r7.2 0 15 (10 : Int32))) (fu_putI rfl fc_0 rfl rfl) (fun s12 => ?_)
        exact fu_leaf rfl ⟨.inr rfl, .inl rfl, trivial⟩
    show fu_J _ _ (fc_X d (some .int) k_X11_district 78 [.ref 0, am_U] [] j8)
    refine fu_go 1 (pc' := 79) (ls' := [.ref 0, am_U]) (st' := [.ref 0]) (s' := j8) rfl ?_
    refine fu_step (fu_getR rfl fc_0 rfl rfl) ?_
    refine fu_let (fu_cVJ rfl rfl rfl rfl rfl (fu_recv fc_5 am_at_X8_wipe rfl) (e_X8_wipe d (by omega) j8)) (fun r13 => ?_)
    show fu_J _ _ (fc_X d (some .int) k_X11_district 85 [.ref 0, am_U] [] r13)
    refine fu_go 1 (pc' := 86) (ls' := [.ref 0, am_U]) (st' := [.ref 0]) (s' := r13) rfl ?_
    refine fu_step (fu_getI rfl fc_0 rfl rfl) ?_
    refine fu_bind (V := fun j14 : Int32 => fc_X d (some .int) k_X11_district 103 [am_U, am_U] [.int j14] r13) ?_ (fun j14 => ?_)
    · refine fu_ite (fun h15 => fu_step (fu_if_ne_t rfl h15) ?_) (fun h15 => fu_step (fu_if_ne_f rfl h15) ?_)
      · refine fu_go 1 (pc' := 93) (ls' := [.ref 0, am_U]) (st' := [.ref 0]) (s' := r13) rfl ?_
        refine fu_step (fu_getR rfl fc_0 rfl rfl) ?_
        refine fu_step (fu_cV rfl rfl rfl rfl rfl (fu_recv fc_11 am_at_X4_people rfl) (fu_eq (e_X4_people d (by omega) r13 11 fc_is3_11) rfl)) ?_
        show fu_J _ _ (fc_X d (some .int) k_X11_district 99 [.ref 0, am_U] [.int (f_X4_people r13 11)] r13)
        refine fu_go 1 (pc' := 103) (ls' := [.ref 0, am_U]) (st' := [.int (f_X4_people r13 11)]) (s' := r13) rfl ?_
        exact fu_leaf rfl ⟨.inl rfl, .inl rfl, trivial⟩
      · refine fu_go 1 (pc' := 103) (ls' := [.ref 0, am_U]) (st' := [.int (-1 : Int32)]) (s' := r13) rfl ?_
        exact fu_leaf rfl ⟨.inl rfl, .inl rfl, trivial⟩
    show fu_J _ _ (fc_X d (some .int) k_X11_district 103 [am_U, am_U] [.int j14] r13)
    exact fu_iret rfl rfl
  · refine fu_go 1 (pc' := 32) (ls' := [.ref 0, .int a1]) (st' := [.int (-1 : Int32)]) (s' := s4) rfl ?_
    exact fu_iret rfl rfl
/-! X11_days -/
set_option maxRecDepth 100000 in
theorem e_X11_days (d : Nat) (hd : 8 ≤ d) (s : fu_S) (a1 : Int32) : fu_J (f_X11_days s a1) (fun r => some (some (.int r.1), r.2)) (am_D (fu_ho fc_sh) am_m d 189 [.ref 0, .int a1] s) := by
  obtain ⟨d, rfl⟩ : ∃ e, d = e + 1 := ⟨d - 1, by omega⟩
  refine fu_enter (ls := [.ref 0, .int a1]) am_at_X11_days rfl rfl ?_
  show fu_J _ _ (fc_X d (some .int) k_X11_days 0 [.ref 0, .int a1] [] s)
  unfold f_X11_days
  refine fu_go 2 (pc' := 2) (ls' := [.ref 0, .int a1]) (st' := [.int a1, .ref 0]) (s' := s) rfl ?_
  refine fu_bind (V := fun j1 : Int32 => fc_X d (some .int) k_X11_days 28 [.ref 0, .int a1] [.int j1, .ref 0] s) ?_ (fun j1 => ?_)
  · refine fu_ite (fun h2 => fu_step (fu_if_lt_t rfl h2) ?_) (fun h2 => fu_step (fu_if_lt_f rfl h2) ?_)
    · refine fu_go 2 (pc' := 28) (ls' := [.ref 0, .int a1]) (st' := [.int (5 : Int32), .ref 0]) (s' := s) rfl ?_
      exact fu_leaf rfl ⟨.inr rfl, .inr rfl, trivial⟩
    · refine fu_go 2 (pc' := 7) (ls' := [.ref 0, .int a1]) (st' := [.ref 0, .int a1, .ref 0]) (s' := s) rfl ?_
      refine fu_step (fu_getR rfl fc_0 rfl rfl) ?_
      refine fu_step (fu_cV rfl rfl rfl rfl rfl (fu_recv fc_5 am_at_X8_size rfl) (fu_eq (e_X8_size d (by omega) s) rfl)) ?_
      show fu_J _ _ (fc_X d (some .int) k_X11_days 13 [.ref 0, .int a1] [.int (f_X8_size s), .int a1, .ref 0] s)
      refine fu_ite (fun h3 => fu_step (fu_ic_gt_t rfl h3) ?_) (fun h3 => fu_step (fu_ic_gt_f rfl h3) ?_)
      · refine fu_go 2 (pc' := 20) (ls' := [.ref 0, .int a1]) (st' := [.int (300 : Int32), .int a1, .ref 0]) (s' := s) rfl ?_
        refine fu_ite (fun h4 => fu_step (fu_ic_le_t rfl h4) ?_) (fun h4 => fu_step (fu_ic_le_f rfl h4) ?_)
        · refine fu_go 1 (pc' := 28) (ls' := [.ref 0, .int a1]) (st' := [.int (0 : Int32), .ref 0]) (s' := s) rfl ?_
          exact fu_leaf rfl ⟨.inr rfl, .inr rfl, trivial⟩
        · refine fu_go 2 (pc' := 28) (ls' := [.ref 0, .int a1]) (st' := [.int (5 : Int32), .ref 0]) (s' := s) rfl ?_
          exact fu_leaf rfl ⟨.inr rfl, .inr rfl, trivial⟩
      · refine fu_go 2 (pc' := 28) (ls' := [.ref 0, .int a1]) (st' := [.int (5 : Int32), .ref 0]) (s' := s) rfl ?_
        exact fu_leaf rfl ⟨.inr rfl, .inr rfl, trivial⟩
  show fu_J _ _ (fc_X d (some .int) k_X11_days 28 [.ref 0, .int a1] [.int j1, .ref 0] s)
  refine fu_lets (b := (fu_pi s 0 15 j1)) (fu_putI rfl fc_0 rfl rfl) (fun s5 => ?_)
  refine fu_go 1 (pc' := 32) (ls' := [.ref 0, .int a1]) (st' := [.ref 0]) (s' := s5) rfl ?_
  refine fu_step (fu_getI rfl fc_0 rfl rfl) ?_
  refine fu_ite (fun h6 => fu_step (fu_if_eq_t rfl h6) ?_) (fun h6 => fu_step (fu_if_eq_f rfl h6) ?_)
  · refine fu_go 1 (pc' := 41) (ls' := [.ref 0, .int a1]) (st' := [.ref 0]) (s' := s5) rfl ?_
    refine fu_step (fu_getR rfl fc_0 rfl rfl) ?_
    refine fu_go 1 (pc' := 45) (ls' := [.ref 0, .int a1]) (st' := [.int a1, .ref 5]) (s' := s5) rfl ?_
    refine fu_bind (fu_cVJ rfl rfl rfl rfl rfl (fu_recv fc_5 am_at_X8_open rfl) (e_X8_open d (by omega) s5 a1)) (fun r7 => ?_)
    show fu_J _ _ (fc_X d (some .int) k_X11_days 48 [.ref 0, .int a1] [] r7)
    refine fu_go 1 (pc' := 49) (ls' := [.ref 0, .int a1]) (st' := [.ref 0]) (s' := r7) rfl ?_
    refine fu_step (fu_getR rfl fc_0 rfl rfl) ?_
    refine fu_bind (fu_cVJ rfl rfl rfl rfl rfl (fu_recv fc_48 am_at_X6_takeAll rfl) (e_X6_takeAll d (by omega) r7)) (fun r8 => ?_)
    show fu_J _ _ (fc_X d (some .int) k_X11_days 55 [.ref 0, .int a1] [.int (fu_b r8.1)] r8.2)
    refine fu_bind (V := fun j9 : fu_S => fc_X d (some .int) k_X11_days 78 [.ref 0, am_U] [] j9) ?_ (fun j9 => ?_)
    · refine fu_ite (fun h10 => fu_step (fu_ib_eq_t rfl h10) ?_) (fun h10 => fu_step (fu_ib_eq_f rfl h10) ?_)
      · refine fu_go 1 (pc' := 59) (ls' := [.ref 0, .int a1]) (st' := [.ref 0]) (s' := r8.2) rfl ?_
        refine fu_step (fu_getR rfl fc_0 rfl rfl) ?_
        refine fu_go 1 (pc' := 63) (ls' := [.ref 0, .int a1]) (st' := [.ref 0, .ref 24]) (s' := r8.2) rfl ?_
        refine fu_step (fu_getR rfl fc_0 rfl rfl) ?_
        refine fu_let (fu_cVJ rfl rfl rfl rfl rfl (fu_recv fc_24 am_at_X5_copyFrom rfl) (e_X5_copyFrom d (by omega) r8.2 24 fc_is4_24 42 fc_is4_42)) (fun r11 => ?_)
        show fu_J _ _ (fc_X d (some .int) k_X11_days 69 [.ref 0, .int a1] [] r11)
        refine fu_go 1 (pc' := 78) (ls' := [.ref 0, .int a1]) (st' := []) (s' := r11) rfl ?_
        exact fu_leaf rfl ⟨.inr rfl, .inl rfl, trivial⟩
      · refine fu_go 2 (pc' := 75) (ls' := [.ref 0, .int a1]) (st' := [.int (10 : Int32), .ref 0]) (s' := r8.2) rfl ?_
        refine fu_lets (b := (fu_pi r8.2 0 15 (10 : Int32))) (fu_putI rfl fc_0 rfl rfl) (fun s12 => ?_)
        exact fu_leaf rfl ⟨.inr rfl, .inl rfl, trivial⟩
    show fu_J _ _ (fc_X d (some .int) k_X11_days 78 [.ref 0, am_U] [] j9)
    refine fu_go 1 (pc' := 79) (ls' := [.ref 0, am_U]) (st' := [.ref 0]) (s' := j9) rfl ?_
    refine fu_step (fu_getR rfl fc_0 rfl rfl) ?_
    refine fu_let (fu_cVJ rfl rfl rfl rfl rfl (fu_recv fc_5 am_at_X8_wipe rfl) (e_X8_wipe d (by omega) j9)) (fun r13 => ?_)
    show fu_J _ _ (fc_X d (some .int) k_X11_days 85 [.ref 0, am_U] [] r13)
    refine fu_go 1 (pc' := 86) (ls' := [.ref 0, am_U]) (st' := [.ref 0]) (s' := r13) rfl ?_
    refine fu_step (fu_getI rfl fc_0 rfl rfl) ?_
    refine fu_bind (V := fun j14 : Int32 => fc_X d (some .int) k_X11_days 103 [am_U, am_U] [.int j14] r13) ?_ (fun j14 => ?_)
    · refine fu_ite (fun h15 => fu_step (fu_if_ne_t rfl h15) ?_) (fun h15 => fu_step (fu_if_ne_f rfl h15) ?_)
      · refine fu_go 1 (pc' := 93) (ls' := [.ref 0, am_U]) (st' := [.ref 0]) (s' := r13) rfl ?_
        refine fu_step (fu_getR rfl fc_0 rfl rfl) ?_
        refine fu_step (fu_cV rfl rfl rfl rfl rfl (fu_recv fc_24 am_at_X5_steps rfl) (fu_eq (e_X5_steps d (by omega) r13 24 fc_is4_24) rfl)) ?_
        show fu_J _ _ (fc_X d (some .int) k_X11_days 99 [.ref 0, am_U] [.int (f_X5_steps r13 24)] r13)
        refine fu_go 1 (pc' := 103) (ls' := [.ref 0, am_U]) (st' := [.int (f_X5_steps r13 24)]) (s' := r13) rfl ?_
        exact fu_leaf rfl ⟨.inl rfl, .inl rfl, trivial⟩
      · refine fu_go 1 (pc' := 103) (ls' := [.ref 0, am_U]) (st' := [.int (-1 : Int32)]) (s' := r13) rfl ?_
        exact fu_leaf rfl ⟨.inl rfl, .inl rfl, trivial⟩
    show fu_J _ _ (fc_X d (some .int) k_X11_days 103 [am_U, am_U] [.int j14] r13)
    exact fu_iret rfl rfl
  · refine fu_go 1 (pc' := 39) (ls' := [.ref 0, .int a1]) (st' := [.int (-1 : Int32)]) (s' := s5) rfl ?_
    exact fu_iret rfl rfl
/-! X11_fault -/
set_option maxRecDepth 100000 in
theorem e_X11_fault (d : Nat) (hd : 2 ≤ d) (s : fu_S) (a1 : Int32) : fu_J (some (f_X11_fault s a1)) (fun r => some (some (.int r), s)) (am_D (fu_ho fc_sh) am_m d 190 [.ref 0, .int a1] s) := by
  obtain ⟨d, rfl⟩ : ∃ e, d = e + 1 := ⟨d - 1, by omega⟩
  refine fu_enter (ls := [.ref 0, .int a1]) am_at_X11_fault rfl rfl ?_
  show fu_J _ _ (fc_X d (some .int) k_X11_fault 0 [.ref 0, .int a1] [] s)
  unfold f_X11_fault
  refine fu_go 1 (pc' := 1) (ls' := [.ref 0, .int a1]) (st' := [.int a1]) (s' := s) rfl ?_
  refine fu_letS (V := fun j1 : Int32 => fc_X d (some .int) k_X11_fault 30 [am_U, am_U] [.int j1] s) ?_ (fun j1 => ?_)
  · refine fu_iteS (fun h2 => fu_step (fu_if_ne_t rfl h2) ?_) (fun h2 => fu_step (fu_if_ne_f rfl h2) ?_)
    · refine fu_go 1 (pc' := 5) (ls' := [.ref 0, .int a1]) (st' := [.ref 0]) (s' := s) rfl ?_
      refine fu_step (fu_getR rfl fc_0 rfl rfl) ?_
      refine fu_step (fu_cV rfl rfl rfl rfl rfl (fu_recv fc_5 am_at_X8_faultKind rfl) (fu_eq (e_X8_faultKind d (by omega) s) rfl)) ?_
      show fu_J _ _ (fc_X d (some .int) k_X11_fault 11 [.ref 0, .int a1] [.int (f_X8_faultKind s)] s)
      refine fu_go 1 (pc' := 30) (ls' := [.ref 0, .int a1]) (st' := [.int (f_X8_faultKind s)]) (s' := s) rfl ?_
      exact fu_leaf rfl ⟨.inl rfl, .inl rfl, trivial⟩
    · refine fu_go 2 (pc' := 16) (ls' := [.ref 0, .int a1]) (st' := [.int (1 : Int32), .int a1]) (s' := s) rfl ?_
      refine fu_iteS (fun h3 => fu_step (fu_ic_ne_t rfl h3) ?_) (fun h3 => fu_step (fu_ic_ne_f rfl h3) ?_)
      · refine fu_go 1 (pc' := 20) (ls' := [.ref 0, .int a1]) (st' := [.ref 0]) (s' := s) rfl ?_
        refine fu_step (fu_getR rfl fc_0 rfl rfl) ?_
        refine fu_step (fu_cV rfl rfl rfl rfl rfl (fu_recv fc_5 am_at_X8_faultPlace rfl) (fu_eq (e_X8_faultPlace d (by omega) s) rfl)) ?_
        show fu_J _ _ (fc_X d (some .int) k_X11_fault 26 [.ref 0, .int a1] [.int (f_X8_faultPlace s)] s)
        refine fu_go 1 (pc' := 30) (ls' := [.ref 0, .int a1]) (st' := [.int (f_X8_faultPlace s)]) (s' := s) rfl ?_
        exact fu_leaf rfl ⟨.inl rfl, .inl rfl, trivial⟩
      · refine fu_go 1 (pc' := 30) (ls' := [.ref 0, .int a1]) (st' := [.int (-1 : Int32)]) (s' := s) rfl ?_
        exact fu_leaf rfl ⟨.inl rfl, .inl rfl, trivial⟩
  show fu_J _ _ (fc_X d (some .int) k_X11_fault 30 [am_U, am_U] [.int j1] s)
  exact fu_iret rfl rfl
/-! X11_many -/
set_option maxRecDepth 100000 in
theorem e_X11_many (d : Nat) (hd : 5 ≤ d) (s : fu_S) (a1 : Int32) : fu_J (f_X11_many s a1) (fun r => some (some (.int r.1), r.2)) (am_D (fu_ho fc_sh) am_m d 191 [.ref 0, .int a1] s) := by
  obtain ⟨d, rfl⟩ : ∃ e, d = e + 1 := ⟨d - 1, by omega⟩
  refine fu_enter (ls := [.ref 0, .int a1]) am_at_X11_many rfl rfl ?_
  show fu_J _ _ (fc_X d (some .int) k_X11_many 0 [.ref 0, .int a1] [] s)
  unfold f_X11_many
  refine fu_go 2 (pc' := 2) (ls' := [.ref 0, .int a1]) (st' := [.int a1, .ref 0]) (s' := s) rfl ?_
  refine fu_bind (V := fun j1 : Int32 => fc_X d (some .int) k_X11_many 16 [.ref 0, .int a1] [.int j1, .ref 0] s) ?_ (fun j1 => ?_)
  · refine fu_ite (fun h2 => fu_step (fu_if_lt_t rfl h2) ?_) (fun h2 => fu_step (fu_if_lt_f rfl h2) ?_)
    · refine fu_go 2 (pc' := 16) (ls' := [.ref 0, .int a1]) (st' := [.int (5 : Int32), .ref 0]) (s' := s) rfl ?_
      exact fu_leaf rfl ⟨.inr rfl, .inr rfl, trivial⟩
    · refine fu_go 2 (pc' := 8) (ls' := [.ref 0, .int a1]) (st' := [.int (8 : Int32), .int a1, .ref 0]) (s' := s) rfl ?_
      refine fu_ite (fun h3 => fu_step (fu_ic_le_t rfl h3) ?_) (fun h3 => fu_step (fu_ic_le_f rfl h3) ?_)
      · refine fu_go 1 (pc' := 16) (ls' := [.ref 0, .int a1]) (st' := [.int (0 : Int32), .ref 0]) (s' := s) rfl ?_
        exact fu_leaf rfl ⟨.inr rfl, .inr rfl, trivial⟩
      · refine fu_go 2 (pc' := 16) (ls' := [.ref 0, .int a1]) (st' := [.int (5 : Int32), .ref 0]) (s' := s) rfl ?_
        exact fu_leaf rfl ⟨.inr rfl, .inr rfl, trivial⟩
  show fu_J _ _ (fc_X d (some .int) k_X11_many 16 [.ref 0, .int a1] [.int j1, .ref 0] s)
  refine fu_lets (b := (fu_pi s 0 15 j1)) (fu_putI rfl fc_0 rfl rfl) (fun s4 => ?_)
  refine fu_go 1 (pc' := 20) (ls' := [.ref 0, .int a1]) (st' := [.int a1]) (s' := s4) rfl ?_
  refine fu_ite (fun h5 => fu_step (fu_tsw_at (t := 72) rfl h5 (by decide)) ?_) (fun h5 => ?_)
  · refine fu_go 1 (pc' := 73) (ls' := [.ref 0, .int a1]) (st' := [.ref 0]) (s' := s4) rfl ?_
    refine fu_step (fu_getR rfl fc_0 rfl rfl) ?_
    refine fu_step (fu_cV rfl rfl rfl rfl rfl (fu_recv fc_11 am_at_X4_kinds rfl) (fu_eq (e_X4_kinds d (by omega) s4 11 fc_is3_11) rfl)) ?_
    show fu_J _ _ (fc_X d (some .int) k_X11_many 79 [.ref 0, .int a1] [.int (f_X4_kinds s4 11)] s4)
    exact fu_iret rfl rfl
  refine fu_ite (fun h6 => fu_step (fu_tsw_at (t := 80) rfl h6 (by decide)) ?_) (fun h6 => ?_)
  · refine fu_go 1 (pc' := 81) (ls' := [.ref 0, .int a1]) (st' := [.ref 0]) (s' := s4) rfl ?_
    refine fu_step (fu_getR rfl fc_0 rfl rfl) ?_
    refine fu_step (fu_cV rfl rfl rfl rfl rfl (fu_recv fc_11 am_at_X4_people rfl) (fu_eq (e_X4_people d (by omega) s4 11 fc_is3_11) rfl)) ?_
    show fu_J _ _ (fc_X d (some .int) k_X11_many 87 [.ref 0, .int a1] [.int (f_X4_people s4 11)] s4)
    exact fu_iret rfl rfl
  refine fu_ite (fun h7 => fu_step (fu_tsw_at (t := 88) rfl h7 (by decide)) ?_) (fun h7 => ?_)
  · refine fu_go 1 (pc' := 89) (ls' := [.ref 0, .int a1]) (st' := [.ref 0]) (s' := s4) rfl ?_
    refine fu_step (fu_getR rfl fc_0 rfl rfl) ?_
    refine fu_step (fu_cV rfl rfl rfl rfl rfl (fu_recv fc_11 am_at_X4_things rfl) (fu_eq (e_X4_things d (by omega) s4 11 fc_is3_11) rfl)) ?_
    show fu_J _ _ (fc_X d (some .int) k_X11_many 95 [.ref 0, .int a1] [.int (f_X4_things s4 11)] s4)
    exact fu_iret rfl rfl
  refine fu_ite (fun h8 => fu_step (fu_tsw_at (t := 96) rfl h8 (by decide)) ?_) (fun h8 => ?_)
  · refine fu_go 1 (pc' := 97) (ls' := [.ref 0, .int a1]) (st' := [.ref 0]) (s' := s4) rfl ?_
    refine fu_step (fu_getR rfl fc_0 rfl rfl) ?_
    refine fu_step (fu_cV rfl rfl rfl rfl rfl (fu_recv fc_11 am_at_X4_odds rfl) (fu_eq (e_X4_odds d (by omega) s4 11 fc_is3_11) rfl)) ?_
    show fu_J _ _ (fc_X d (some .int) k_X11_many 103 [.ref 0, .int a1] [.int (f_X4_odds s4 11)] s4)
    exact fu_iret rfl rfl
  refine fu_ite (fun h9 => fu_step (fu_tsw_at (t := 104) rfl h9 (by decide)) ?_) (fun h9 => ?_)
  · refine fu_go 1 (pc' := 105) (ls' := [.ref 0, .int a1]) (st' := [.ref 0]) (s' := s4) rfl ?_
    refine fu_step (fu_getR rfl fc_0 rfl rfl) ?_
    refine fu_step (fu_cV rfl rfl rfl rfl rfl (fu_recv fc_11 am_at_X4_arm rfl) (fu_eq (e_X4_arm d (by omega) s4 11 fc_is3_11) rfl)) ?_
    show fu_J _ _ (fc_X d (some .int) k_X11_many 111 [.ref 0, .int a1] [.int (f_X4_arm s4 11)] s4)
    exact fu_iret rfl rfl
  refine fu_ite (fun h10 => fu_step (fu_tsw_at (t := 112) rfl h10 (by decide)) ?_) (fun h10 => ?_)
  · refine fu_go 1 (pc' := 113) (ls' := [.ref 0, .int a1]) (st' := [.ref 0]) (s' := s4) rfl ?_
    refine fu_step (fu_getR rfl fc_0 rfl rfl) ?_
    refine fu_step (fu_cV rfl rfl rfl rfl rfl (fu_recv fc_11 am_at_X4_minute rfl) (fu_eq (e_X4_minute d (by omega) s4 11 fc_is3_11) rfl)) ?_
    show fu_J _ _ (fc_X d (some .int) k_X11_many 119 [.ref 0, .int a1] [.int (f_X4_minute s4 11)] s4)
    exact fu_iret rfl rfl
  refine fu_ite (fun h11 => fu_step (fu_tsw_at (t := 120) rfl h11 (by decide)) ?_) (fun h11 => ?_)
  · refine fu_go 1 (pc' := 121) (ls' := [.ref 0, .int a1]) (st' := [.ref 0]) (s' := s4) rfl ?_
    refine fu_step (fu_getR rfl fc_0 rfl rfl) ?_
    refine fu_bind (fu_cVJ rfl rfl rfl rfl rfl (fu_recv fc_11 am_at_X4_upSet rfl) (e_X4_upSet d (by omega) s4 11 fc_is3_11)) (fun r12 => ?_)
    show fu_J _ _ (fc_X d (some .int) k_X11_many 127 [.ref 0, .int a1] [.int r12] s4)
    exact fu_iret rfl rfl
  refine fu_ite (fun h13 => fu_step (fu_tsw_at (t := 128) rfl h13 (by decide)) ?_) (fun h13 => ?_)
  · refine fu_go 1 (pc' := 129) (ls' := [.ref 0, .int a1]) (st' := [.ref 0]) (s' := s4) rfl ?_
    refine fu_step (fu_getR rfl fc_0 rfl rfl) ?_
    refine fu_bind (fu_cVJ rfl rfl rfl rfl rfl (fu_recv fc_11 am_at_X4_scratchedSet rfl) (e_X4_scratchedSet d (by omega) s4 11 fc_is3_11)) (fun r14 => ?_)
    show fu_J _ _ (fc_X d (some .int) k_X11_many 135 [.ref 0, .int a1] [.int r14] s4)
    exact fu_iret rfl rfl
  refine fu_ite (fun h15 => fu_step (fu_tsw_at (t := 136) rfl h15 (by decide)) ?_) (fun h15 => ?_)
  · refine fu_go 1 (pc' := 137) (ls' := [.ref 0, .int a1]) (st' := [.ref 0]) (s' := s4) rfl ?_
    refine fu_step (fu_getR rfl fc_0 rfl rfl) ?_
    refine fu_bind (fu_cVJ rfl rfl rfl rfl rfl (fu_recv fc_11 am_at_X4_foundSet rfl) (e_X4_foundSet d (by omega) s4 11 fc_is3_11)) (fun r16 => ?_)
    show fu_J _ _ (fc_X d (some .int) k_X11_many 143 [.ref 0, .int a1] [.int r16] s4)
    exact fu_iret rfl rfl
  refine fu_step (fu_tsw_d (t := 144) [0, 1, 2, 3, 4, 5, 6, 7, 8] rfl (by decide) (fu_allc (fu_ne h5 (by decide)) (fu_allc (fu_ne h6 (by decide)) (fu_allc (fu_ne h7 (by decide)) (fu_allc (fu_ne h8 (by decide)) (fu_allc (fu_ne h9 (by decide)) (fu_allc (fu_ne h10 (by decide)) (fu_allc (fu_ne h11 (by decide)) (fu_allc (fu_ne h13 (by decide)) (fu_allc (fu_ne h15 (by decide)) fu_all))))))))) (by decide)) ?_
  refine fu_go 1 (pc' := 145) (ls' := [.ref 0, .int a1]) (st' := [.int (-1 : Int32)]) (s' := s4) rfl ?_
  exact fu_iret rfl rfl
/-! X11_kind -/
set_option maxRecDepth 100000 in
theorem e_X11_kind (d : Nat) (hd : 3 ≤ d) (s : fu_S) (a1 : Int32) (a2 : Int32) : fu_J (f_X11_kind s a1 a2) (fun r => some (some (.int r.1), r.2)) (am_D (fu_ho fc_sh) am_m d 192 [.ref 0, .int a1, .int a2] s) := by
  obtain ⟨d, rfl⟩ : ∃ e, d = e + 1 := ⟨d - 1, by omega⟩
  refine fu_enter (ls := [.ref 0, .int a1, .int a2]) am_at_X11_kind rfl rfl ?_
  show fu_J _ _ (fc_X d (some .int) k_X11_kind 0 [.ref 0, .int a1, .int a2] [] s)
  unfold f_X11_kind
  refine fu_go 2 (pc' := 2) (ls' := [.ref 0, .int a1, .int a2]) (st' := [.ref 0, .ref 0]) (s' := s) rfl ?_
  refine fu_step (fu_getR rfl fc_0 rfl rfl) ?_
  refine fu_go 1 (pc' := 6) (ls' := [.ref 0, .int a1, .int a2]) (st' := [.int a1, .ref 11, .ref 0]) (s' := s) rfl ?_
  refine fu_step (fu_cV rfl rfl rfl rfl rfl (fu_recv fc_11 am_at_X4_hasKind rfl) (fu_eq (e_X4_hasKind d (by omega) s 11 fc_is3_11 a1) rfl)) ?_
  show fu_J _ _ (fc_X d (some .int) k_X11_kind 9 [.ref 0, .int a1, .int a2] [.int (fu_b (f_X4_hasKind s 11 a1)), .ref 0] s)
  refine fu_bind (V := fun j1 : Int32 => fc_X d (some .int) k_X11_kind 30 [.ref 0, .int a1, .int a2] [.int j1, .ref 0] s) ?_ (fun j1 => ?_)
  · refine fu_ite (fun h2 => fu_step (fu_ib_ne_t rfl h2) ?_) (fun h2 => fu_step (fu_ib_ne_f rfl h2) ?_)
    · refine fu_go 1 (pc' := 17) (ls' := [.ref 0, .int a1, .int a2]) (st' := [.int a2, .ref 0]) (s' := s) rfl ?_
      refine fu_ite (fun h3 => fu_step (fu_if_lt_t rfl h3) ?_) (fun h3 => fu_step (fu_if_lt_f rfl h3) ?_)
      · refine fu_go 2 (pc' := 30) (ls' := [.ref 0, .int a1, .int a2]) (st' := [.int (5 : Int32), .ref 0]) (s' := s) rfl ?_
        exact fu_leaf rfl ⟨.inr rfl, .inr rfl, .inr rfl, trivial⟩
      · refine fu_go 2 (pc' := 22) (ls' := [.ref 0, .int a1, .int a2]) (st' := [.int (2 : Int32), .int a2, .ref 0]) (s' := s) rfl ?_
        refine fu_ite (fun h4 => fu_step (fu_ic_le_t rfl h4) ?_) (fun h4 => fu_step (fu_ic_le_f rfl h4) ?_)
        · refine fu_go 1 (pc' := 30) (ls' := [.ref 0, .int a1, .int a2]) (st' := [.int (0 : Int32), .ref 0]) (s' := s) rfl ?_
          exact fu_leaf rfl ⟨.inr rfl, .inr rfl, .inr rfl, trivial⟩
        · refine fu_go 2 (pc' := 30) (ls' := [.ref 0, .int a1, .int a2]) (st' := [.int (5 : Int32), .ref 0]) (s' := s) rfl ?_
          exact fu_leaf rfl ⟨.inr rfl, .inr rfl, .inr rfl, trivial⟩
    · refine fu_go 2 (pc' := 30) (ls' := [.ref 0, .int a1, .int a2]) (st' := [.int (2 : Int32), .ref 0]) (s' := s) rfl ?_
      exact fu_leaf rfl ⟨.inr rfl, .inr rfl, .inr rfl, trivial⟩
  show fu_J _ _ (fc_X d (some .int) k_X11_kind 30 [.ref 0, .int a1, .int a2] [.int j1, .ref 0] s)
  refine fu_lets (b := (fu_pi s 0 15 j1)) (fu_putI rfl fc_0 rfl rfl) (fun s5 => ?_)
  refine fu_go 1 (pc' := 34) (ls' := [.ref 0, .int a1, .int a2]) (st' := [.ref 0]) (s' := s5) rfl ?_
  refine fu_step (fu_getI rfl fc_0 rfl rfl) ?_
  refine fu_bind (V := fun j6 : Int32 => fc_X d (some .int) k_X11_kind 53 [am_U, am_U, am_U] [.int j6] s5) ?_ (fun j6 => ?_)
  · refine fu_ite (fun h7 => fu_step (fu_if_ne_t rfl h7) ?_) (fun h7 => fu_step (fu_if_ne_f rfl h7) ?_)
    · refine fu_go 1 (pc' := 41) (ls' := [.ref 0, .int a1, .int a2]) (st' := [.ref 0]) (s' := s5) rfl ?_
      refine fu_step (fu_getR rfl fc_0 rfl rfl) ?_
      refine fu_go 2 (pc' := 46) (ls' := [.ref 0, .int a1, .int a2]) (st' := [.int a2, .int a1, .ref 11]) (s' := s5) rfl ?_
      refine fu_bind (fu_cVJ rfl rfl rfl rfl rfl (fu_recv fc_11 am_at_X4_ofKind rfl) (e_X4_ofKind d (by omega) s5 11 fc_is3_11 a1 a2)) (fun r8 => ?_)
      show fu_J _ _ (fc_X d (some .int) k_X11_kind 49 [.ref 0, .int a1, .int a2] [.int r8] s5)
      refine fu_go 1 (pc' := 53) (ls' := [.ref 0, .int a1, .int a2]) (st' := [.int r8]) (s' := s5) rfl ?_
      exact fu_leaf rfl ⟨.inl rfl, .inl rfl, .inl rfl, trivial⟩
    · refine fu_go 1 (pc' := 53) (ls' := [.ref 0, .int a1, .int a2]) (st' := [.int (-1 : Int32)]) (s' := s5) rfl ?_
      exact fu_leaf rfl ⟨.inl rfl, .inl rfl, .inl rfl, trivial⟩
  show fu_J _ _ (fc_X d (some .int) k_X11_kind 53 [am_U, am_U, am_U] [.int j6] s5)
  exact fu_iret rfl rfl
/-! X11_person -/
set_option maxRecDepth 100000 in
theorem e_X11_person (d : Nat) (hd : 4 ≤ d) (s : fu_S) (a1 : Int32) (a2 : Int32) : fu_J (f_X11_person s a1 a2) (fun r => some (some (.int r.1), r.2)) (am_D (fu_ho fc_sh) am_m d 193 [.ref 0, .int a1, .int a2] s) := by
  obtain ⟨d, rfl⟩ : ∃ e, d = e + 1 := ⟨d - 1, by omega⟩
  refine fu_enter (ls := [.ref 0, .int a1, .int a2]) am_at_X11_person rfl rfl ?_
  show fu_J _ _ (fc_X d (some .int) k_X11_person 0 [.ref 0, .int a1, .int a2] [] s)
  unfold f_X11_person
  refine fu_go 2 (pc' := 2) (ls' := [.ref 0, .int a1, .int a2]) (st' := [.ref 0, .ref 0]) (s' := s) rfl ?_
  refine fu_step (fu_getR rfl fc_0 rfl rfl) ?_
  refine fu_go 1 (pc' := 6) (ls' := [.ref 0, .int a1, .int a2]) (st' := [.int a1, .ref 11, .ref 0]) (s' := s) rfl ?_
  refine fu_step (fu_cV rfl rfl rfl rfl rfl (fu_recv fc_11 am_at_X4_hasPerson rfl) (fu_eq (e_X4_hasPerson d (by omega) s 11 fc_is3_11 a1) rfl)) ?_
  show fu_J _ _ (fc_X d (some .int) k_X11_person 9 [.ref 0, .int a1, .int a2] [.int (fu_b (f_X4_hasPerson s 11 a1)), .ref 0] s)
  refine fu_bind (V := fun j1 : Int32 => fc_X d (some .int) k_X11_person 30 [.ref 0, .int a1, .int a2] [.int j1, .ref 0] s) ?_ (fun j1 => ?_)
  · refine fu_ite (fun h2 => fu_step (fu_ib_ne_t rfl h2) ?_) (fun h2 => fu_step (fu_ib_ne_f rfl h2) ?_)
    · refine fu_go 1 (pc' := 17) (ls' := [.ref 0, .int a1, .int a2]) (st' := [.int a2, .ref 0]) (s' := s) rfl ?_
      refine fu_ite (fun h3 => fu_step (fu_if_lt_t rfl h3) ?_) (fun h3 => fu_step (fu_if_lt_f rfl h3) ?_)
      · refine fu_go 2 (pc' := 30) (ls' := [.ref 0, .int a1, .int a2]) (st' := [.int (5 : Int32), .ref 0]) (s' := s) rfl ?_
        exact fu_leaf rfl ⟨.inr rfl, .inr rfl, .inr rfl, trivial⟩
      · refine fu_go 2 (pc' := 22) (ls' := [.ref 0, .int a1, .int a2]) (st' := [.int (3 : Int32), .int a2, .ref 0]) (s' := s) rfl ?_
        refine fu_ite (fun h4 => fu_step (fu_ic_le_t rfl h4) ?_) (fun h4 => fu_step (fu_ic_le_f rfl h4) ?_)
        · refine fu_go 1 (pc' := 30) (ls' := [.ref 0, .int a1, .int a2]) (st' := [.int (0 : Int32), .ref 0]) (s' := s) rfl ?_
          exact fu_leaf rfl ⟨.inr rfl, .inr rfl, .inr rfl, trivial⟩
        · refine fu_go 2 (pc' := 30) (ls' := [.ref 0, .int a1, .int a2]) (st' := [.int (5 : Int32), .ref 0]) (s' := s) rfl ?_
          exact fu_leaf rfl ⟨.inr rfl, .inr rfl, .inr rfl, trivial⟩
    · refine fu_go 2 (pc' := 30) (ls' := [.ref 0, .int a1, .int a2]) (st' := [.int (2 : Int32), .ref 0]) (s' := s) rfl ?_
      exact fu_leaf rfl ⟨.inr rfl, .inr rfl, .inr rfl, trivial⟩
  show fu_J _ _ (fc_X d (some .int) k_X11_person 30 [.ref 0, .int a1, .int a2] [.int j1, .ref 0] s)
  refine fu_lets (b := (fu_pi s 0 15 j1)) (fu_putI rfl fc_0 rfl rfl) (fun s5 => ?_)
  refine fu_go 1 (pc' := 34) (ls' := [.ref 0, .int a1, .int a2]) (st' := [.ref 0]) (s' := s5) rfl ?_
  refine fu_step (fu_getI rfl fc_0 rfl rfl) ?_
  refine fu_ite (fun h6 => fu_step (fu_if_eq_t rfl h6) ?_) (fun h6 => fu_step (fu_if_eq_f rfl h6) ?_)
  · refine fu_go 1 (pc' := 43) (ls' := [.ref 0, .int a1, .int a2]) (st' := [.int a2]) (s' := s5) rfl ?_
    refine fu_ite (fun h7 => fu_step (fu_tsw_at (t := 68) rfl h7 (by decide)) ?_) (fun h7 => ?_)
    · refine fu_go 1 (pc' := 69) (ls' := [.ref 0, .int a1, .int a2]) (st' := [.ref 0]) (s' := s5) rfl ?_
      refine fu_step (fu_getR rfl fc_0 rfl rfl) ?_
      refine fu_go 1 (pc' := 73) (ls' := [.ref 0, .int a1, .int a2]) (st' := [.int a1, .ref 11]) (s' := s5) rfl ?_
      refine fu_bind (fu_cVJ rfl rfl rfl rfl rfl (fu_recv fc_11 am_at_X4_homeOf rfl) (e_X4_homeOf d (by omega) s5 11 fc_is3_11 a1)) (fun r8 => ?_)
      show fu_J _ _ (fc_X d (some .int) k_X11_person 76 [.ref 0, .int a1, .int a2] [.int r8] s5)
      exact fu_iret rfl rfl
    refine fu_ite (fun h9 => fu_step (fu_tsw_at (t := 77) rfl h9 (by decide)) ?_) (fun h9 => ?_)
    · refine fu_go 1 (pc' := 78) (ls' := [.ref 0, .int a1, .int a2]) (st' := [.ref 0]) (s' := s5) rfl ?_
      refine fu_step (fu_getR rfl fc_0 rfl rfl) ?_
      refine fu_go 1 (pc' := 82) (ls' := [.ref 0, .int a1, .int a2]) (st' := [.int a1, .ref 11]) (s' := s5) rfl ?_
      refine fu_bind (fu_cVJ rfl rfl rfl rfl rfl (fu_recv fc_11 am_at_X4_reachOf rfl) (e_X4_reachOf d (by omega) s5 11 fc_is3_11 a1)) (fun r10 => ?_)
      show fu_J _ _ (fc_X d (some .int) k_X11_person 85 [.ref 0, .int a1, .int a2] [.int r10] s5)
      exact fu_iret rfl rfl
    refine fu_ite (fun h11 => fu_step (fu_tsw_at (t := 86) rfl h11 (by decide)) ?_) (fun h11 => ?_)
    · refine fu_go 1 (pc' := 87) (ls' := [.ref 0, .int a1, .int a2]) (st' := [.ref 0]) (s' := s5) rfl ?_
      refine fu_step (fu_getR rfl fc_0 rfl rfl) ?_
      refine fu_go 1 (pc' := 91) (ls' := [.ref 0, .int a1, .int a2]) (st' := [.int a1, .ref 11]) (s' := s5) rfl ?_
      refine fu_bind (fu_cVJ rfl rfl rfl rfl rfl (fu_recv fc_11 am_at_X4_upSetOn rfl) (e_X4_upSetOn d (by omega) s5 11 fc_is3_11 a1)) (fun r12 => ?_)
      show fu_J _ _ (fc_X d (some .int) k_X11_person 94 [.ref 0, .int a1, .int a2] [.int r12] s5)
      exact fu_iret rfl rfl
    refine fu_step (fu_tsw_d (t := 95) [0, 1, 2] rfl (by decide) (fu_allc (fu_ne h7 (by decide)) (fu_allc (fu_ne h9 (by decide)) (fu_allc (fu_ne h11 (by decide)) fu_all))) (by decide)) ?_
    refine fu_go 1 (pc' := 96) (ls' := [.ref 0, .int a1, .int a2]) (st' := [.ref 0]) (s' := s5) rfl ?_
    refine fu_step (fu_getR rfl fc_0 rfl rfl) ?_
    refine fu_go 1 (pc' := 100) (ls' := [.ref 0, .int a1, .int a2]) (st' := [.int a1, .ref 11]) (s' := s5) rfl ?_
    refine fu_bind (fu_cVJ rfl rfl rfl rfl rfl (fu_recv fc_11 am_at_X4_ownSetOf rfl) (e_X4_ownSetOf d (by omega) s5 11 fc_is3_11 a1)) (fun r13 => ?_)
    show fu_J _ _ (fc_X d (some .int) k_X11_person 103 [.ref 0, .int a1, .int a2] [.int r13] s5)
    exact fu_iret rfl rfl
  · refine fu_go 1 (pc' := 41) (ls' := [.ref 0, .int a1, .int a2]) (st' := [.int (-1 : Int32)]) (s' := s5) rfl ?_
    exact fu_iret rfl rfl
/-! X11_thing -/
set_option maxRecDepth 100000 in
theorem e_X11_thing (d : Nat) (hd : 5 ≤ d) (s : fu_S) (a1 : Int32) (a2 : Int32) : fu_J (f_X11_thing s a1 a2) (fun r => some (some (.int r.1), r.2)) (am_D (fu_ho fc_sh) am_m d 194 [.ref 0, .int a1, .int a2] s) := by
  obtain ⟨d, rfl⟩ : ∃ e, d = e + 1 := ⟨d - 1, by omega⟩
  refine fu_enter (ls := [.ref 0, .int a1, .int a2]) am_at_X11_thing rfl rfl ?_
  show fu_J _ _ (fc_X d (some .int) k_X11_thing 0 [.ref 0, .int a1, .int a2] [] s)
  unfold f_X11_thing
  refine fu_go 2 (pc' := 2) (ls' := [.ref 0, .int a1, .int a2]) (st' := [.ref 0, .ref 0]) (s' := s) rfl ?_
  refine fu_step (fu_getR rfl fc_0 rfl rfl) ?_
  refine fu_go 1 (pc' := 6) (ls' := [.ref 0, .int a1, .int a2]) (st' := [.int a1, .ref 11, .ref 0]) (s' := s) rfl ?_
  refine fu_step (fu_cV rfl rfl rfl rfl rfl (fu_recv fc_11 am_at_X4_hasThing rfl) (fu_eq (e_X4_hasThing d (by omega) s 11 fc_is3_11 a1) rfl)) ?_
  show fu_J _ _ (fc_X d (some .int) k_X11_thing 9 [.ref 0, .int a1, .int a2] [.int (fu_b (f_X4_hasThing s 11 a1)), .ref 0] s)
  refine fu_bind (V := fun j1 : Int32 => fc_X d (some .int) k_X11_thing 59 [.ref 0, .int a1, .int a2] [.int j1, .ref 0] s) ?_ (fun j1 => ?_)
  · refine fu_ite (fun h2 => fu_step (fu_ib_ne_t rfl h2) ?_) (fun h2 => fu_step (fu_ib_ne_f rfl h2) ?_)
    · refine fu_go 1 (pc' := 17) (ls' := [.ref 0, .int a1, .int a2]) (st' := [.int a2, .ref 0]) (s' := s) rfl ?_
      refine fu_ite (fun h3 => fu_step (fu_if_lt_t rfl h3) ?_) (fun h3 => fu_step (fu_if_lt_f rfl h3) ?_)
      · refine fu_go 2 (pc' := 59) (ls' := [.ref 0, .int a1, .int a2]) (st' := [.int (5 : Int32), .ref 0]) (s' := s) rfl ?_
        exact fu_leaf rfl ⟨.inr rfl, .inr rfl, .inr rfl, trivial⟩
      · refine fu_go 2 (pc' := 23) (ls' := [.ref 0, .int a1, .int a2]) (st' := [.int (9 : Int32), .int a2, .ref 0]) (s' := s) rfl ?_
        refine fu_ite (fun h4 => fu_step (fu_ic_le_t rfl h4) ?_) (fun h4 => fu_step (fu_ic_le_f rfl h4) ?_)
        · refine fu_go 2 (pc' := 33) (ls' := [.ref 0, .int a1, .int a2]) (st' := [.int (7 : Int32), .int a2, .ref 0]) (s' := s) rfl ?_
          refine fu_ite (fun h5 => fu_step (fu_ic_eq_t rfl h5) ?_) (fun h5 => fu_step (fu_ic_eq_f rfl h5) ?_)
          · refine fu_go 1 (pc' := 43) (ls' := [.ref 0, .int a1, .int a2]) (st' := [.ref 0, .ref 0]) (s' := s) rfl ?_
            refine fu_step (fu_getR rfl fc_0 rfl rfl) ?_
            refine fu_go 1 (pc' := 47) (ls' := [.ref 0, .int a1, .int a2]) (st' := [.int a1, .ref 11, .ref 0]) (s' := s) rfl ?_
            refine fu_bind (fu_cVJ rfl rfl rfl rfl rfl (fu_recv fc_11 am_at_X4_isScratched rfl) (e_X4_isScratched d (by omega) s 11 fc_is3_11 a1)) (fun r6 => ?_)
            show fu_J _ _ (fc_X d (some .int) k_X11_thing 50 [.ref 0, .int a1, .int a2] [.int (fu_b r6), .ref 0] s)
            refine fu_ite (fun h7 => fu_step (fu_ib_ne_t rfl h7) ?_) (fun h7 => fu_step (fu_ib_ne_f rfl h7) ?_)
            · refine fu_go 1 (pc' := 59) (ls' := [.ref 0, .int a1, .int a2]) (st' := [.int (0 : Int32), .ref 0]) (s' := s) rfl ?_
              exact fu_leaf rfl ⟨.inr rfl, .inr rfl, .inr rfl, trivial⟩
            · refine fu_go 2 (pc' := 59) (ls' := [.ref 0, .int a1, .int a2]) (st' := [.int (8 : Int32), .ref 0]) (s' := s) rfl ?_
              exact fu_leaf rfl ⟨.inr rfl, .inr rfl, .inr rfl, trivial⟩
          · refine fu_go 2 (pc' := 39) (ls' := [.ref 0, .int a1, .int a2]) (st' := [.int (8 : Int32), .int a2, .ref 0]) (s' := s) rfl ?_
            refine fu_ite (fun h8 => fu_step (fu_ic_ne_t rfl h8) ?_) (fun h8 => fu_step (fu_ic_ne_f rfl h8) ?_)
            · refine fu_go 1 (pc' := 43) (ls' := [.ref 0, .int a1, .int a2]) (st' := [.ref 0, .ref 0]) (s' := s) rfl ?_
              refine fu_step (fu_getR rfl fc_0 rfl rfl) ?_
              refine fu_go 1 (pc' := 47) (ls' := [.ref 0, .int a1, .int a2]) (st' := [.int a1, .ref 11, .ref 0]) (s' := s) rfl ?_
              refine fu_bind (fu_cVJ rfl rfl rfl rfl rfl (fu_recv fc_11 am_at_X4_isScratched rfl) (e_X4_isScratched d (by omega) s 11 fc_is3_11 a1)) (fun r9 => ?_)
              show fu_J _ _ (fc_X d (some .int) k_X11_thing 50 [.ref 0, .int a1, .int a2] [.int (fu_b r9), .ref 0] s)
              refine fu_ite (fun h10 => fu_step (fu_ib_ne_t rfl h10) ?_) (fun h10 => fu_step (fu_ib_ne_f rfl h10) ?_)
              · refine fu_go 1 (pc' := 59) (ls' := [.ref 0, .int a1, .int a2]) (st' := [.int (0 : Int32), .ref 0]) (s' := s) rfl ?_
                exact fu_leaf rfl ⟨.inr rfl, .inr rfl, .inr rfl, trivial⟩
              · refine fu_go 2 (pc' := 59) (ls' := [.ref 0, .int a1, .int a2]) (st' := [.int (8 : Int32), .ref 0]) (s' := s) rfl ?_
                exact fu_leaf rfl ⟨.inr rfl, .inr rfl, .inr rfl, trivial⟩
            · refine fu_go 1 (pc' := 59) (ls' := [.ref 0, .int a1, .int a2]) (st' := [.int (0 : Int32), .ref 0]) (s' := s) rfl ?_
              exact fu_leaf rfl ⟨.inr rfl, .inr rfl, .inr rfl, trivial⟩
        · refine fu_go 2 (pc' := 59) (ls' := [.ref 0, .int a1, .int a2]) (st' := [.int (5 : Int32), .ref 0]) (s' := s) rfl ?_
          exact fu_leaf rfl ⟨.inr rfl, .inr rfl, .inr rfl, trivial⟩
    · refine fu_go 2 (pc' := 59) (ls' := [.ref 0, .int a1, .int a2]) (st' := [.int (2 : Int32), .ref 0]) (s' := s) rfl ?_
      exact fu_leaf rfl ⟨.inr rfl, .inr rfl, .inr rfl, trivial⟩
  show fu_J _ _ (fc_X d (some .int) k_X11_thing 59 [.ref 0, .int a1, .int a2] [.int j1, .ref 0] s)
  refine fu_lets (b := (fu_pi s 0 15 j1)) (fu_putI rfl fc_0 rfl rfl) (fun s11 => ?_)
  refine fu_go 1 (pc' := 63) (ls' := [.ref 0, .int a1, .int a2]) (st' := [.ref 0]) (s' := s11) rfl ?_
  refine fu_step (fu_getI rfl fc_0 rfl rfl) ?_
  refine fu_ite (fun h12 => fu_step (fu_if_eq_t rfl h12) ?_) (fun h12 => fu_step (fu_if_eq_f rfl h12) ?_)
  · refine fu_go 1 (pc' := 72) (ls' := [.ref 0, .int a1, .int a2]) (st' := [.int a2]) (s' := s11) rfl ?_
    refine fu_ite (fun h13 => fu_step (fu_tsw_at (t := 124) rfl h13 (by decide)) ?_) (fun h13 => ?_)
    · refine fu_go 1 (pc' := 125) (ls' := [.ref 0, .int a1, .int a2]) (st' := [.ref 0]) (s' := s11) rfl ?_
      refine fu_step (fu_getR rfl fc_0 rfl rfl) ?_
      refine fu_go 1 (pc' := 129) (ls' := [.ref 0, .int a1, .int a2]) (st' := [.int a1, .ref 11]) (s' := s11) rfl ?_
      refine fu_bind (fu_cVJ rfl rfl rfl rfl rfl (fu_recv fc_11 am_at_X4_ownerOf rfl) (e_X4_ownerOf d (by omega) s11 11 fc_is3_11 a1)) (fun r14 => ?_)
      show fu_J _ _ (fc_X d (some .int) k_X11_thing 132 [.ref 0, .int a1, .int a2] [.int r14] s11)
      exact fu_iret rfl rfl
    refine fu_ite (fun h15 => fu_step (fu_tsw_at (t := 133) rfl h15 (by decide)) ?_) (fun h15 => ?_)
    · refine fu_go 1 (pc' := 134) (ls' := [.ref 0, .int a1, .int a2]) (st' := [.ref 0]) (s' := s11) rfl ?_
      refine fu_step (fu_getR rfl fc_0 rfl rfl) ?_
      refine fu_go 1 (pc' := 138) (ls' := [.ref 0, .int a1, .int a2]) (st' := [.int a1, .ref 11]) (s' := s11) rfl ?_
      refine fu_bind (fu_cVJ rfl rfl rfl rfl rfl (fu_recv fc_11 am_at_X4_kindOf rfl) (e_X4_kindOf d (by omega) s11 11 fc_is3_11 a1)) (fun r16 => ?_)
      show fu_J _ _ (fc_X d (some .int) k_X11_thing 141 [.ref 0, .int a1, .int a2] [.int r16] s11)
      exact fu_iret rfl rfl
    refine fu_ite (fun h17 => fu_step (fu_tsw_at (t := 142) rfl h17 (by decide)) ?_) (fun h17 => ?_)
    · refine fu_go 1 (pc' := 143) (ls' := [.ref 0, .int a1, .int a2]) (st' := [.ref 0]) (s' := s11) rfl ?_
      refine fu_step (fu_getR rfl fc_0 rfl rfl) ?_
      refine fu_go 1 (pc' := 147) (ls' := [.ref 0, .int a1, .int a2]) (st' := [.int a1, .ref 11]) (s' := s11) rfl ?_
      refine fu_bind (fu_cVJ rfl rfl rfl rfl rfl (fu_recv fc_11 am_at_X4_worthOf rfl) (e_X4_worthOf d (by omega) s11 11 fc_is3_11 a1)) (fun r18 => ?_)
      show fu_J _ _ (fc_X d (some .int) k_X11_thing 150 [.ref 0, .int a1, .int a2] [.int r18] s11)
      exact fu_iret rfl rfl
    refine fu_ite (fun h19 => fu_step (fu_tsw_at (t := 151) rfl h19 (by decide)) ?_) (fun h19 => ?_)
    · refine fu_go 1 (pc' := 152) (ls' := [.ref 0, .int a1, .int a2]) (st' := [.ref 0]) (s' := s11) rfl ?_
      refine fu_step (fu_getR rfl fc_0 rfl rfl) ?_
      refine fu_go 1 (pc' := 156) (ls' := [.ref 0, .int a1, .int a2]) (st' := [.int a1, .ref 11]) (s' := s11) rfl ?_
      refine fu_bind (fu_cVJ rfl rfl rfl rfl rfl (fu_recv fc_11 am_at_X4_lostAtOf rfl) (e_X4_lostAtOf d (by omega) s11 11 fc_is3_11 a1)) (fun r20 => ?_)
      show fu_J _ _ (fc_X d (some .int) k_X11_thing 159 [.ref 0, .int a1, .int a2] [.int r20] s11)
      exact fu_iret rfl rfl
    refine fu_ite (fun h21 => fu_step (fu_tsw_at (t := 160) rfl h21 (by decide)) ?_) (fun h21 => ?_)
    · refine fu_go 1 (pc' := 161) (ls' := [.ref 0, .int a1, .int a2]) (st' := [.ref 0]) (s' := s11) rfl ?_
      refine fu_step (fu_getR rfl fc_0 rfl rfl) ?_
      refine fu_go 1 (pc' := 165) (ls' := [.ref 0, .int a1, .int a2]) (st' := [.int a1, .ref 11]) (s' := s11) rfl ?_
      refine fu_bind (fu_cVJ rfl rfl rfl rfl rfl (fu_recv fc_11 am_at_X4_bearerOf rfl) (e_X4_bearerOf d (by omega) s11 11 fc_is3_11 a1)) (fun r22 => ?_)
      show fu_J _ _ (fc_X d (some .int) k_X11_thing 168 [.ref 0, .int a1, .int a2] [.int r22] s11)
      exact fu_iret rfl rfl
    refine fu_ite (fun h23 => fu_step (fu_tsw_at (t := 169) rfl h23 (by decide)) ?_) (fun h23 => ?_)
    · refine fu_go 1 (pc' := 170) (ls' := [.ref 0, .int a1, .int a2]) (st' := [.ref 0]) (s' := s11) rfl ?_
      refine fu_step (fu_getR rfl fc_0 rfl rfl) ?_
      refine fu_go 1 (pc' := 174) (ls' := [.ref 0, .int a1, .int a2]) (st' := [.int a1, .ref 11]) (s' := s11) rfl ?_
      refine fu_bind (fu_cVJ rfl rfl rfl rfl rfl (fu_recv fc_11 am_at_X4_spotOf rfl) (e_X4_spotOf d (by omega) s11 11 fc_is3_11 a1)) (fun r24 => ?_)
      show fu_J _ _ (fc_X d (some .int) k_X11_thing 177 [.ref 0, .int a1, .int a2] [.int r24] s11)
      exact fu_iret rfl rfl
    refine fu_ite (fun h25 => fu_step (fu_tsw_at (t := 178) rfl h25 (by decide)) ?_) (fun h25 => ?_)
    · refine fu_go 1 (pc' := 179) (ls' := [.ref 0, .int a1, .int a2]) (st' := [.ref 0]) (s' := s11) rfl ?_
      refine fu_step (fu_getR rfl fc_0 rfl rfl) ?_
      refine fu_go 1 (pc' := 183) (ls' := [.ref 0, .int a1, .int a2]) (st' := [.int a1, .ref 11]) (s' := s11) rfl ?_
      refine fu_bind (fu_cVJ rfl rfl rfl rfl rfl (fu_recv fc_11 am_at_X4_upAtOf rfl) (e_X4_upAtOf d (by omega) s11 11 fc_is3_11 a1)) (fun r26 => ?_)
      show fu_J _ _ (fc_X d (some .int) k_X11_thing 186 [.ref 0, .int a1, .int a2] [.int r26] s11)
      exact fu_iret rfl rfl
    refine fu_ite (fun h27 => fu_step (fu_tsw_at (t := 187) rfl h27 (by decide)) ?_) (fun h27 => ?_)
    · refine fu_go 1 (pc' := 188) (ls' := [.ref 0, .int a1, .int a2]) (st' := [.ref 0]) (s' := s11) rfl ?_
      refine fu_step (fu_getR rfl fc_0 rfl rfl) ?_
      refine fu_go 1 (pc' := 192) (ls' := [.ref 0, .int a1, .int a2]) (st' := [.int a1, .ref 11]) (s' := s11) rfl ?_
      refine fu_bind (fu_cVJ rfl rfl rfl rfl rfl (fu_recv fc_11 am_at_X4_scratchedAtOf rfl) (e_X4_scratchedAtOf d (by omega) s11 11 fc_is3_11 a1)) (fun r28 => ?_)
      show fu_J _ _ (fc_X d (some .int) k_X11_thing 195 [.ref 0, .int a1, .int a2] [.int r28] s11)
      exact fu_iret rfl rfl
    refine fu_ite (fun h29 => fu_step (fu_tsw_at (t := 196) rfl h29 (by decide)) ?_) (fun h29 => ?_)
    · refine fu_go 1 (pc' := 197) (ls' := [.ref 0, .int a1, .int a2]) (st' := [.ref 0]) (s' := s11) rfl ?_
      refine fu_step (fu_getR rfl fc_0 rfl rfl) ?_
      refine fu_go 1 (pc' := 201) (ls' := [.ref 0, .int a1, .int a2]) (st' := [.int a1, .ref 11]) (s' := s11) rfl ?_
      refine fu_bind (fu_cVJ rfl rfl rfl rfl rfl (fu_recv fc_11 am_at_X4_foundAtOf rfl) (e_X4_foundAtOf d (by omega) s11 11 fc_is3_11 a1)) (fun r30 => ?_)
      show fu_J _ _ (fc_X d (some .int) k_X11_thing 204 [.ref 0, .int a1, .int a2] [.int r30] s11)
      exact fu_iret rfl rfl
    refine fu_step (fu_tsw_d (t := 205) [0, 1, 2, 3, 4, 5, 6, 7, 8] rfl (by decide) (fu_allc (fu_ne h13 (by decide)) (fu_allc (fu_ne h15 (by decide)) (fu_allc (fu_ne h17 (by decide)) (fu_allc (fu_ne h19 (by decide)) (fu_allc (fu_ne h21 (by decide)) (fu_allc (fu_ne h23 (by decide)) (fu_allc (fu_ne h25 (by decide)) (fu_allc (fu_ne h27 (by decide)) (fu_allc (fu_ne h29 (by decide)) fu_all))))))))) (by decide)) ?_
    refine fu_go 1 (pc' := 206) (ls' := [.ref 0, .int a1, .int a2]) (st' := [.ref 0]) (s' := s11) rfl ?_
    refine fu_step (fu_getR rfl fc_0 rfl rfl) ?_
    refine fu_go 1 (pc' := 210) (ls' := [.ref 0, .int a1, .int a2]) (st' := [.int a1, .ref 11]) (s' := s11) rfl ?_
    refine fu_bind (fu_cVJ rfl rfl rfl rfl rfl (fu_recv fc_11 am_at_X4_ableSetFor rfl) (e_X4_ableSetFor d (by omega) s11 11 fc_is3_11 a1)) (fun r31 => ?_)
    show fu_J _ _ (fc_X d (some .int) k_X11_thing 213 [.ref 0, .int a1, .int a2] [.int r31] s11)
    exact fu_iret rfl rfl
  · refine fu_go 1 (pc' := 70) (ls' := [.ref 0, .int a1, .int a2]) (st' := [.int (-1 : Int32)]) (s' := s11) rfl ?_
    exact fu_iret rfl rfl
