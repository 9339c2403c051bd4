/-! printed by wip/whole/lift/lift.py: the small machine comes to what the functions answer -/
/-! X3_run -/
theorem el_X3_run_46 (d : Nat) (hd : 6 ≤ d) : ∀ (n : Nat) (s : fu_S) (P0 : Nat) (hP0 : fc_is2 P0) (P1 : Nat) (hP1 : fc_is4 P1) (P2 : Nat) (hP2 : fc_is3 P2) (x4 : Int32) (x5 : Int32), fu_J (l_X3_run_46 n s P0 P1 P2 x4 x5) (fun u => Sum.elim (fun r => some (none, r)) (fun r => fc_X d none k_X3_run 144 [am_U, am_U, am_U, am_U, am_U, am_U, am_U] [] r) u) (fc_X d none k_X3_run 46 [.ref P0, .ref P1, .ref P2, am_U, .int x4, .int x5, am_U] [] s) := by
  intro n
  induction n with
  | zero => intros; exact fu_none
  | succ n ih =>
    intro s P0 hP0 P1 hP1 P2 hP2 x4 x5
    rw [l_X3_run_46]
    refine fu_go 2 (pc' := 50) (ls' := [.ref P0, .ref P1, .ref P2, am_U, .int x4, .int x5, am_U]) (st' := [.int (1000000 : Int32), .int x5]) (s' := s) rfl ?_
    refine fu_ite (fun h9 => fu_step (fu_ic_ge_t rfl h9) ?_) (fun h9 => fu_step (fu_ic_ge_f rfl h9) ?_)
    · refine fu_go 1 (pc' := 55) (ls' := [.ref P0, .ref P1, .ref P2, am_U, .int x4, .int x5, am_U]) (st' := [.int x4]) (s' := s) rfl ?_
      refine fu_ite (fun h10 => fu_step (fu_if_lt_t rfl h10) ?_) (fun h10 => fu_step (fu_if_lt_f rfl h10) ?_)
      · exact fu_leaf rfl ⟨.inl rfl, .inl rfl, .inl rfl, .inl rfl, .inl rfl, .inl rfl, .inl rfl, trivial⟩
      · refine fu_go 2 (pc' := 61) (ls' := [.ref P0, .ref P1, .ref P2, am_U, .int x4, .int x5, am_U]) (st' := [.ref P1, .int x4]) (s' := s) rfl ?_
        refine fu_step (fu_cV rfl rfl rfl rfl rfl (fu_recv hP1.1 am_at_X5_lines rfl) (fu_eq (e_X5_lines d (by omega) s P1 hP1) rfl)) ?_
        show fu_J _ _ (fc_X d none k_X3_run 64 [.ref P0, .ref P1, .ref P2, am_U, .int x4, .int x5, am_U] [.int (f_X5_lines s P1), .int x4] s)
        refine fu_ite (fun h11 => fu_step (fu_ic_ge_t rfl h11) ?_) (fun h11 => fu_step (fu_ic_ge_f rfl h11) ?_)
        · refine fu_go 2 (pc' := 70) (ls' := [.ref P0, .ref P1, .ref P2, am_U, .int x4, .int x5, am_U]) (st' := [.int x4, .ref P1]) (s' := s) rfl ?_
          refine fu_bind (fu_cVJ rfl rfl rfl rfl rfl (fu_recv hP1.1 am_at_X5_deedAt rfl) (e_X5_deedAt d (by omega) s P1 hP1 x4)) (fun r12 => ?_)
          show fu_J _ _ (fc_X d none k_X3_run 73 [.ref P0, .ref P1, .ref P2, am_U, .int x4, .int x5, am_U] [.int r12] s)
          refine fu_go 3 (pc' := 79) (ls' := [.ref P0, .ref P1, .ref P2, am_U, .int x4, .int x5, .int r12]) (st' := [.int (120 : Int32), .int r12]) (s' := s) rfl ?_
          refine fu_ite (fun h13 => fu_step (fu_ic_ne_t rfl h13) ?_) (fun h13 => fu_step (fu_ic_ne_f rfl h13) ?_)
          · refine fu_go 3 (pc' := 86) (ls' := [.ref P0, .ref P1, .ref P2, am_U, .int x4, .int x5, .int r12]) (st' := [.int x4, .ref P1, .ref P0]) (s' := s) rfl ?_
            refine fu_bind (fu_cVJ rfl rfl rfl rfl rfl (fu_recv hP0.1 am_at_X3_behindEnd rfl) (e_X3_behindEnd d (by omega) s P0 hP0 P1 hP1 x4)) (fun r14 => ?_)
            show fu_J _ _ (fc_X d none k_X3_run 89 [.ref P0, .ref P1, .ref P2, am_U, .int x4, .int x5, .int r12] [.int r14.1] r14.2)
            refine fu_go 4 (pc' := 46) (ls' := [.ref P0, .ref P1, .ref P2, am_U, .int r14.1, .int (x5 + (1 : Int32)), .int r12]) (st' := []) (s' := r14.2) rfl ?_
            exact fu_drop (ls' := [.ref P0, .ref P1, .ref P2, am_U, .int r14.1, .int (x5 + (1 : Int32)), am_U]) ⟨.inr rfl, .inr rfl, .inr rfl, .inl rfl, .inr rfl, .inr rfl, .inl rfl, trivial⟩ (ih r14.2 P0 hP0 P1 hP1 P2 hP2 r14.1 (x5 + (1 : Int32)))
          · refine fu_go 1 (pc' := 95) (ls' := [.ref P0, .ref P1, .ref P2, am_U, .int x4, .int x5, .int r12]) (st' := [.ref P0]) (s' := s) rfl ?_
            refine fu_step (fu_getI rfl hP0.1 rfl rfl) ?_
            refine fu_go 1 (pc' := 101) (ls' := [.ref P0, .ref P1, .ref P2, am_U, .int x4, .int x5, .int r12]) (st' := [.int (300 : Int32), .int (s.1 P0 2)]) (s' := s) rfl ?_
            refine fu_ite (fun h15 => fu_step (fu_ic_lt_t rfl h15) ?_) (fun h15 => fu_step (fu_ic_lt_f rfl h15) ?_)
            · refine fu_go 2 (pc' := 112) (ls' := [.ref P0, .ref P1, .ref P2, am_U, .int x4, .int x5, .int r12]) (st' := [.ref P0, .ref P0]) (s' := s) rfl ?_
              refine fu_step (fu_getI rfl hP0.1 rfl rfl) ?_
              refine fu_go 2 (pc' := 117) (ls' := [.ref P0, .ref P1, .ref P2, am_U, .int x4, .int x5, .int r12]) (st' := [.int ((s.1 P0 2) + (1 : Int32)), .ref P0]) (s' := s) rfl ?_
              refine fu_lets (b := (fu_pi s P0 2 ((s.1 P0 2) + (1 : Int32)))) (fu_putI rfl hP0.1 rfl rfl) (fun s16 => ?_)
              refine fu_go 2 (pc' := 124) (ls' := [.ref P0, .ref P1, .ref P2, am_U, .int x4, .int x5, .int r12]) (st' := [.int (121 : Int32), .int r12]) (s' := s16) rfl ?_
              refine fu_ite (fun h17 => fu_step (fu_ic_ne_t rfl h17) ?_) (fun h17 => fu_step (fu_ic_ne_f rfl h17) ?_)
              · exact fu_vret rfl rfl
              · refine fu_go 4 (pc' := 133) (ls' := [.ref P0, .ref P1, .ref P2, am_U, .int x4, .int x5, .int r12]) (st' := [.int x4, .ref P2, .ref P1, .ref P0]) (s' := s16) rfl ?_
                refine fu_bind (fu_cVJ rfl rfl rfl rfl rfl (fu_recv hP0.1 am_at_X3_behindStep rfl) (e_X3_behindStep d (by omega) s16 P0 hP0 P1 hP1 P2 hP2 x4)) (fun r18 => ?_)
                show fu_J _ _ (fc_X d none k_X3_run 136 [.ref P0, .ref P1, .ref P2, am_U, .int x4, .int x5, .int r12] [.int r18.1] r18.2)
                refine fu_go 3 (pc' := 46) (ls' := [.ref P0, .ref P1, .ref P2, am_U, .int r18.1, .int (x5 + (1 : Int32)), .int r12]) (st' := []) (s' := r18.2) rfl ?_
                exact fu_drop (ls' := [.ref P0, .ref P1, .ref P2, am_U, .int r18.1, .int (x5 + (1 : Int32)), am_U]) ⟨.inr rfl, .inr rfl, .inr rfl, .inl rfl, .inr rfl, .inr rfl, .inl rfl, trivial⟩ (ih r18.2 P0 hP0 P1 hP1 P2 hP2 r18.1 (x5 + (1 : Int32)))
            · refine fu_go 2 (pc' := 106) (ls' := [.ref P0, .ref P1, .ref P2, am_U, .int x4, .int x5, .int r12]) (st' := [.int (1 : Int32), .ref P0]) (s' := s) rfl ?_
              refine fu_lets (b := (fu_pi s P0 7 (1 : Int32))) (fu_putI rfl hP0.1 rfl rfl) (fun s19 => ?_)
              exact fu_vret rfl rfl
        · exact fu_leaf rfl ⟨.inl rfl, .inl rfl, .inl rfl, .inl rfl, .inl rfl, .inl rfl, .inl rfl, trivial⟩
    · exact fu_leaf rfl ⟨.inl rfl, .inl rfl, .inl rfl, .inl rfl, .inl rfl, .inl rfl, .inl rfl, trivial⟩
set_option maxRecDepth 100000 in
theorem e_X3_run (d : Nat) (hd : 7 ≤ d) (s : fu_S) (P0 : Nat) (hP0 : fc_is2 P0) (P1 : Nat) (hP1 : fc_is4 P1) (P2 : Nat) (hP2 : fc_is3 P2) (a3 : Int32) : fu_J (f_X3_run s P0 P1 P2 a3) (fun r => some (none, r)) (am_D (fu_ho fc_sh) am_m d 34 [.ref P0, .ref P1, .ref P2, .int a3] s) := by
  obtain ⟨d, rfl⟩ : ∃ e, d = e + 1 := ⟨d - 1, by omega⟩
  refine fu_enter (ls := [.ref P0, .ref P1, .ref P2, .int a3, am_U, am_U, am_U]) am_at_X3_run rfl rfl ?_
  show fu_J _ _ (fc_X d none k_X3_run 0 [.ref P0, .ref P1, .ref P2, .int a3, am_U, am_U, am_U] [] s)
  unfold f_X3_run
  refine fu_go 2 (pc' := 2) (ls' := [.ref P0, .ref P1, .ref P2, .int a3, am_U, am_U, am_U]) (st' := [.int a3, .ref P0]) (s' := s) rfl ?_
  refine fu_lets (b := (fu_pi s P0 1 a3)) (fu_putI rfl hP0.1 rfl rfl) (fun s1 => ?_)
  refine fu_go 2 (pc' := 7) (ls' := [.ref P0, .ref P1, .ref P2, .int a3, am_U, am_U, am_U]) (st' := [.int (0 : Int32), .ref P0]) (s' := s1) rfl ?_
  refine fu_lets (b := (fu_pi s1 P0 2 (0 : Int32))) (fu_putI rfl hP0.1 rfl rfl) (fun s2 => ?_)
  refine fu_go 2 (pc' := 12) (ls' := [.ref P0, .ref P1, .ref P2, .int a3, am_U, am_U, am_U]) (st' := [.int (0 : Int32), .ref P0]) (s' := s2) rfl ?_
  refine fu_lets (b := (fu_pi s2 P0 3 (0 : Int32))) (fu_putI rfl hP0.1 rfl rfl) (fun s3 => ?_)
  refine fu_go 2 (pc' := 17) (ls' := [.ref P0, .ref P1, .ref P2, .int a3, am_U, am_U, am_U]) (st' := [.int (0 : Int32), .ref P0]) (s' := s3) rfl ?_
  refine fu_lets (b := (fu_pi s3 P0 4 (0 : Int32))) (fu_putI rfl hP0.1 rfl rfl) (fun s4 => ?_)
  refine fu_go 2 (pc' := 22) (ls' := [.ref P0, .ref P1, .ref P2, .int a3, am_U, am_U, am_U]) (st' := [.int (0 : Int32), .ref P0]) (s' := s4) rfl ?_
  refine fu_lets (b := (fu_pi s4 P0 5 (0 : Int32))) (fu_putI rfl hP0.1 rfl rfl) (fun s5 => ?_)
  refine fu_go 2 (pc' := 27) (ls' := [.ref P0, .ref P1, .ref P2, .int a3, am_U, am_U, am_U]) (st' := [.int (0 : Int32), .ref P0]) (s' := s5) rfl ?_
  refine fu_lets (b := (fu_pi s5 P0 6 (0 : Int32))) (fu_putI rfl hP0.1 rfl rfl) (fun s6 => ?_)
  refine fu_go 2 (pc' := 32) (ls' := [.ref P0, .ref P1, .ref P2, .int a3, am_U, am_U, am_U]) (st' := [.int (0 : Int32), .ref P0]) (s' := s6) rfl ?_
  refine fu_lets (b := (fu_pi s6 P0 7 (0 : Int32))) (fu_putI rfl hP0.1 rfl rfl) (fun s7 => ?_)
  refine fu_go 2 (pc' := 37) (ls' := [.ref P0, .ref P1, .ref P2, .int a3, am_U, am_U, am_U]) (st' := [.int (1 : Int32), .ref P0]) (s' := s7) rfl ?_
  refine fu_lets (b := (fu_pi s7 P0 8 (fu_b true))) (fu_putB rfl true hP0.1 rfl rfl) (fun s8 => ?_)
  refine fu_go 4 (pc' := 46) (ls' := [.ref P0, .ref P1, .ref P2, .int a3, .int (0 : Int32), .int (0 : Int32), am_U]) (st' := []) (s' := s8) rfl ?_
  refine fu_drop (ls' := [.ref P0, .ref P1, .ref P2, am_U, .int (0 : Int32), .int (0 : Int32), am_U]) ⟨.inr rfl, .inr rfl, .inr rfl, .inl rfl, .inr rfl, .inr rfl, .inl rfl, trivial⟩ ?_
  refine fu_bind (el_X3_run_46 d (by omega) fu_N s8 P0 hP0 P1 hP1 P2 hP2 (0 : Int32) (0 : Int32)) (fun u => fu_sum (fun a => ?_) (fun r20 => ?_))
  · exact fu_ret rfl
  show fu_J _ _ (fc_X d none k_X3_run 144 [am_U, am_U, am_U, am_U, am_U, am_U, am_U] [] r20)
  exact fu_vret rfl rfl
/-! X4_copyFrom -/
set_option maxRecDepth 100000 in
theorem e_X4_copyFrom (d : Nat) (hd : 1 ≤ d) (s : fu_S) (P0 : Nat) (hP0 : fc_is3 P0) (P1 : Nat) (hP1 : fc_is3 P1) : fu_J (some (f_X4_copyFrom s P0 P1)) (fun r => some (none, r)) (am_D (fu_ho fc_sh) am_m d 43 [.ref P0, .ref P1] s) := by
  obtain ⟨d, rfl⟩ : ∃ e, d = e + 1 := ⟨d - 1, by omega⟩
  refine fu_enter (ls := [.ref P0, .ref P1]) am_at_X4_copyFrom rfl rfl ?_
  show fu_J _ _ (fc_X d none k_X4_copyFrom 0 [.ref P0, .ref P1] [] s)
  unfold f_X4_copyFrom
  refine fu_go 4 (pc' := 7) (ls' := [.ref P0, .ref P1]) (st' := [.ref P1, .ref P0]) (s' := s) rfl ?_
  refine fu_step (fu_getI rfl hP1.1 rfl rfl) ?_
  refine fu_letsS (b := (fu_pi s P0 0 (s.1 P1 0))) (fu_putI rfl hP0.1 rfl rfl) (fun s1 => ?_)
  refine fu_go 2 (pc' := 15) (ls' := [.ref P0, .ref P1]) (st' := [.ref P1, .ref P0]) (s' := s1) rfl ?_
  refine fu_step (fu_getI rfl hP1.1 rfl rfl) ?_
  refine fu_letsS (b := (fu_pi s1 P0 1 (s1.1 P1 1))) (fu_putI rfl hP0.1 rfl rfl) (fun s2 => ?_)
  refine fu_go 2 (pc' := 23) (ls' := [.ref P0, .ref P1]) (st' := [.ref P1, .ref P0]) (s' := s2) rfl ?_
  refine fu_step (fu_getI rfl hP1.1 rfl rfl) ?_
  refine fu_letsS (b := (fu_pi s2 P0 2 (s2.1 P1 2))) (fu_putI rfl hP0.1 rfl rfl) (fun s3 => ?_)
  refine fu_go 2 (pc' := 31) (ls' := [.ref P0, .ref P1]) (st' := [.ref P1, .ref P0]) (s' := s3) rfl ?_
  refine fu_step (fu_getI rfl hP1.1 rfl rfl) ?_
  refine fu_letsS (b := (fu_pi s3 P0 3 (s3.1 P1 3))) (fu_putI rfl hP0.1 rfl rfl) (fun s4 => ?_)
  refine fu_go 2 (pc' := 39) (ls' := [.ref P0, .ref P1]) (st' := [.ref P1, .ref P0]) (s' := s4) rfl ?_
  refine fu_step (fu_getI rfl hP1.1 rfl rfl) ?_
  refine fu_letsS (b := (fu_pi s4 P0 4 (s4.1 P1 4))) (fu_putI rfl hP0.1 rfl rfl) (fun s5 => ?_)
  refine fu_go 2 (pc' := 47) (ls' := [.ref P0, .ref P1]) (st' := [.ref P1, .ref P0]) (s' := s5) rfl ?_
  refine fu_step (fu_getI rfl hP1.1 rfl rfl) ?_
  refine fu_letsS (b := (fu_pi s5 P0 5 (s5.1 P1 5))) (fu_putI rfl hP0.1 rfl rfl) (fun s6 => ?_)
  refine fu_go 1 (pc' := 54) (ls' := [.ref P0, .ref P1]) (st' := [.ref P1]) (s' := s6) rfl ?_
  refine fu_step (fu_getR rfl hP1.1 rfl rfl) ?_
  refine fu_go 2 (pc' := 59) (ls' := [.ref P0, .ref P1]) (st' := [.ref P0, .int (0 : Int32), .ref (P1 + 1)]) (s' := s6) rfl ?_
  refine fu_step (fu_getR rfl hP0.1 rfl rfl) ?_
  refine fu_go 2 (pc' := 64) (ls' := [.ref P0, .ref P1]) (st' := [.int (5 : Int32), .int (0 : Int32), .ref (P0 + 1), .int (0 : Int32), .ref (P1 + 1)]) (s' := s6) rfl ?_
  refine fu_letsS (b := (fu_ci s6 (P1 + 1) 0 (P0 + 1) 0 5)) (fu_prim rfl rfl rfl (fu_cpIk hP1.2.1 hP0.2.1 (by decide) (by decide) (by decide) (by decide))) (fun s7 => ?_)
  refine fu_go 1 (pc' := 68) (ls' := [.ref P0, .ref P1]) (st' := [.ref P1]) (s' := s7) rfl ?_
  refine fu_step (fu_getR rfl hP1.1 rfl rfl) ?_
  refine fu_go 2 (pc' := 73) (ls' := [.ref P0, .ref P1]) (st' := [.ref P0, .int (0 : Int32), .ref (P1 + 2)]) (s' := s7) rfl ?_
  refine fu_step (fu_getR rfl hP0.1 rfl rfl) ?_
  refine fu_go 2 (pc' := 78) (ls' := [.ref P0, .ref P1]) (st' := [.int (5 : Int32), .int (0 : Int32), .ref (P0 + 2), .int (0 : Int32), .ref (P1 + 2)]) (s' := s7) rfl ?_
  refine fu_letsS (b := (fu_ci s7 (P1 + 2) 0 (P0 + 2) 0 5)) (fu_prim rfl rfl rfl (fu_cpIk hP1.2.2.1 hP0.2.2.1 (by decide) (by decide) (by decide) (by decide))) (fun s8 => ?_)
  refine fu_go 1 (pc' := 82) (ls' := [.ref P0, .ref P1]) (st' := [.ref P1]) (s' := s8) rfl ?_
  refine fu_step (fu_getR rfl hP1.1 rfl rfl) ?_
  refine fu_go 2 (pc' := 87) (ls' := [.ref P0, .ref P1]) (st' := [.ref P0, .int (0 : Int32), .ref (P1 + 3)]) (s' := s8) rfl ?_
  refine fu_step (fu_getR rfl hP0.1 rfl rfl) ?_
  refine fu_go 2 (pc' := 92) (ls' := [.ref P0, .ref P1]) (st' := [.int (5 : Int32), .int (0 : Int32), .ref (P0 + 3), .int (0 : Int32), .ref (P1 + 3)]) (s' := s8) rfl ?_
  refine fu_letsS (b := (fu_ci s8 (P1 + 3) 0 (P0 + 3) 0 5)) (fu_prim rfl rfl rfl (fu_cpIk hP1.2.2.2.1 hP0.2.2.2.1 (by decide) (by decide) (by decide) (by decide))) (fun s9 => ?_)
  refine fu_go 1 (pc' := 96) (ls' := [.ref P0, .ref P1]) (st' := [.ref P1]) (s' := s9) rfl ?_
  refine fu_step (fu_getR rfl hP1.1 rfl rfl) ?_
  refine fu_go 2 (pc' := 101) (ls' := [.ref P0, .ref P1]) (st' := [.ref P0, .int (0 : Int32), .ref (P1 + 4)]) (s' := s9) rfl ?_
  refine fu_step (fu_getR rfl hP0.1 rfl rfl) ?_
  refine fu_go 2 (pc' := 107) (ls' := [.ref P0, .ref P1]) (st' := [.int (7 : Int32), .int (0 : Int32), .ref (P0 + 4), .int (0 : Int32), .ref (P1 + 4)]) (s' := s9) rfl ?_
  refine fu_letsS (b := (fu_cl s9 (P1 + 4) 0 (P0 + 4) 0 7)) (fu_prim rfl rfl rfl (fu_cpLk hP1.2.2.2.2.1 hP0.2.2.2.2.1 (by decide) (by decide) (by decide) (by decide))) (fun s10 => ?_)
  refine fu_go 1 (pc' := 111) (ls' := [.ref P0, .ref P1]) (st' := [.ref P1]) (s' := s10) rfl ?_
  refine fu_step (fu_getR rfl hP1.1 rfl rfl) ?_
  refine fu_go 2 (pc' := 116) (ls' := [.ref P0, .ref P1]) (st' := [.ref P0, .int (0 : Int32), .ref (P1 + 5)]) (s' := s10) rfl ?_
  refine fu_step (fu_getR rfl hP0.1 rfl rfl) ?_
  refine fu_go 2 (pc' := 122) (ls' := [.ref P0, .ref P1]) (st' := [.int (7 : Int32), .int (0 : Int32), .ref (P0 + 5), .int (0 : Int32), .ref (P1 + 5)]) (s' := s10) rfl ?_
  refine fu_letsS (b := (fu_ci s10 (P1 + 5) 0 (P0 + 5) 0 7)) (fu_prim rfl rfl rfl (fu_cpIk hP1.2.2.2.2.2.1 hP0.2.2.2.2.2.1 (by decide) (by decide) (by decide) (by decide))) (fun s11 => ?_)
  refine fu_go 1 (pc' := 126) (ls' := [.ref P0, .ref P1]) (st' := [.ref P1]) (s' := s11) rfl ?_
  refine fu_step (fu_getR rfl hP1.1 rfl rfl) ?_
  refine fu_go 2 (pc' := 131) (ls' := [.ref P0, .ref P1]) (st' := [.ref P0, .int (0 : Int32), .ref (P1 + 6)]) (s' := s11) rfl ?_
  refine fu_step (fu_getR rfl hP0.1 rfl rfl) ?_
  refine fu_go 2 (pc' := 137) (ls' := [.ref P0, .ref P1]) (st' := [.int (7 : Int32), .int (0 : Int32), .ref (P0 + 6), .int (0 : Int32), .ref (P1 + 6)]) (s' := s11) rfl ?_
  refine fu_letsS (b := (fu_ci s11 (P1 + 6) 0 (P0 + 6) 0 7)) (fu_prim rfl rfl rfl (fu_cpIk hP1.2.2.2.2.2.2.1 hP0.2.2.2.2.2.2.1 (by decide) (by decide) (by decide) (by decide))) (fun s12 => ?_)
  refine fu_go 1 (pc' := 141) (ls' := [.ref P0, .ref P1]) (st' := [.ref P1]) (s' := s12) rfl ?_
  refine fu_step (fu_getR rfl hP1.1 rfl rfl) ?_
  refine fu_go 2 (pc' := 146) (ls' := [.ref P0, .ref P1]) (st' := [.ref P0, .int (0 : Int32), .ref (P1 + 7)]) (s' := s12) rfl ?_
  refine fu_step (fu_getR rfl hP0.1 rfl rfl) ?_
  refine fu_go 2 (pc' := 152) (ls' := [.ref P0, .ref P1]) (st' := [.int (8 : Int32), .int (0 : Int32), .ref (P0 + 7), .int (0 : Int32), .ref (P1 + 7)]) (s' := s12) rfl ?_
  refine fu_letsS (b := (fu_ci s12 (P1 + 7) 0 (P0 + 7) 0 8)) (fu_prim rfl rfl rfl (fu_cpIk hP1.2.2.2.2.2.2.2.1 hP0.2.2.2.2.2.2.2.1 (by decide) (by decide) (by decide) (by decide))) (fun s13 => ?_)
  refine fu_go 1 (pc' := 156) (ls' := [.ref P0, .ref P1]) (st' := [.ref P1]) (s' := s13) rfl ?_
  refine fu_step (fu_getR rfl hP1.1 rfl rfl) ?_
  refine fu_go 2 (pc' := 161) (ls' := [.ref P0, .ref P1]) (st' := [.ref P0, .int (0 : Int32), .ref (P1 + 8)]) (s' := s13) rfl ?_
  refine fu_step (fu_getR rfl hP0.1 rfl rfl) ?_
  refine fu_go 2 (pc' := 167) (ls' := [.ref P0, .ref P1]) (st' := [.int (8 : Int32), .int (0 : Int32), .ref (P0 + 8), .int (0 : Int32), .ref (P1 + 8)]) (s' := s13) rfl ?_
  refine fu_letsS (b := (fu_ci s13 (P1 + 8) 0 (P0 + 8) 0 8)) (fu_prim rfl rfl rfl (fu_cpIk hP1.2.2.2.2.2.2.2.2.1 hP0.2.2.2.2.2.2.2.2.1 (by decide) (by decide) (by decide) (by decide))) (fun s14 => ?_)
  refine fu_go 1 (pc' := 171) (ls' := [.ref P0, .ref P1]) (st' := [.ref P1]) (s' := s14) rfl ?_
  refine fu_step (fu_getR rfl hP1.1 rfl rfl) ?_
  refine fu_go 2 (pc' := 176) (ls' := [.ref P0, .ref P1]) (st' := [.ref P0, .int (0 : Int32), .ref (P1 + 9)]) (s' := s14) rfl ?_
  refine fu_step (fu_getR rfl hP0.1 rfl rfl) ?_
  refine fu_go 2 (pc' := 182) (ls' := [.ref P0, .ref P1]) (st' := [.int (8 : Int32), .int (0 : Int32), .ref (P0 + 9), .int (0 : Int32), .ref (P1 + 9)]) (s' := s14) rfl ?_
  refine fu_letsS (b := (fu_ci s14 (P1 + 9) 0 (P0 + 9) 0 8)) (fu_prim rfl rfl rfl (fu_cpIk hP1.2.2.2.2.2.2.2.2.2.1 hP0.2.2.2.2.2.2.2.2.2.1 (by decide) (by decide) (by decide) (by decide))) (fun s15 => ?_)
  refine fu_go 1 (pc' := 186) (ls' := [.ref P0, .ref P1]) (st' := [.ref P1]) (s' := s15) rfl ?_
  refine fu_step (fu_getR rfl hP1.1 rfl rfl) ?_
  refine fu_go 2 (pc' := 191) (ls' := [.ref P0, .ref P1]) (st' := [.ref P0, .int (0 : Int32), .ref (P1 + 10)]) (s' := s15) rfl ?_
  refine fu_step (fu_getR rfl hP0.1 rfl rfl) ?_
  refine fu_go 2 (pc' := 197) (ls' := [.ref P0, .ref P1]) (st' := [.int (8 : Int32), .int (0 : Int32), .ref (P0 + 10), .int (0 : Int32), .ref (P1 + 10)]) (s' := s15) rfl ?_
  refine fu_letsS (b := (fu_ci s15 (P1 + 10) 0 (P0 + 10) 0 8)) (fu_prim rfl rfl rfl (fu_cpIk hP1.2.2.2.2.2.2.2.2.2.2.1 hP0.2.2.2.2.2.2.2.2.2.2.1 (by decide) (by decide) (by decide) (by decide))) (fun s16 => ?_)
  refine fu_go 1 (pc' := 201) (ls' := [.ref P0, .ref P1]) (st' := [.ref P1]) (s' := s16) rfl ?_
  refine fu_step (fu_getR rfl hP1.1 rfl rfl) ?_
  refine fu_go 2 (pc' := 206) (ls' := [.ref P0, .ref P1]) (st' := [.ref P0, .int (0 : Int32), .ref (P1 + 11)]) (s' := s16) rfl ?_
  refine fu_step (fu_getR rfl hP0.1 rfl rfl) ?_
  refine fu_go 2 (pc' := 212) (ls' := [.ref P0, .ref P1]) (st' := [.int (8 : Int32), .int (0 : Int32), .ref (P0 + 11), .int (0 : Int32), .ref (P1 + 11)]) (s' := s16) rfl ?_
  refine fu_letsS (b := (fu_ci s16 (P1 + 11) 0 (P0 + 11) 0 8)) (fu_prim rfl rfl rfl (fu_cpIk hP1.2.2.2.2.2.2.2.2.2.2.2.1 hP0.2.2.2.2.2.2.2.2.2.2.2.1 (by decide) (by decide) (by decide) (by decide))) (fun s17 => ?_)
  refine fu_go 1 (pc' := 216) (ls' := [.ref P0, .ref P1]) (st' := [.ref P1]) (s' := s17) rfl ?_
  refine fu_step (fu_getR rfl hP1.1 rfl rfl) ?_
  refine fu_go 2 (pc' := 221) (ls' := [.ref P0, .ref P1]) (st' := [.ref P0, .int (0 : Int32), .ref (P1 + 12)]) (s' := s17) rfl ?_
  refine fu_step (fu_getR rfl hP0.1 rfl rfl) ?_
  refine fu_go 2 (pc' := 227) (ls' := [.ref P0, .ref P1]) (st' := [.int (8 : Int32), .int (0 : Int32), .ref (P0 + 12), .int (0 : Int32), .ref (P1 + 12)]) (s' := s17) rfl ?_
  refine fu_letsS (b := (fu_ci s17 (P1 + 12) 0 (P0 + 12) 0 8)) (fu_prim rfl rfl rfl (fu_cpIk hP1.2.2.2.2.2.2.2.2.2.2.2.2 hP0.2.2.2.2.2.2.2.2.2.2.2.2 (by decide) (by decide) (by decide) (by decide))) (fun s18 => ?_)
  exact fu_vret rfl rfl
/-! X4_arm -/
set_option maxRecDepth 100000 in
theorem e_X4_arm (d : Nat) (hd : 1 ≤ d) (s : fu_S) (P0 : Nat) (hP0 : fc_is3 P0) : fu_J (some (f_X4_arm s P0)) (fun r => some (some (.int r), s)) (am_D (fu_ho fc_sh) am_m d 45 [.ref P0] s) := by
  obtain ⟨d, rfl⟩ : ∃ e, d = e + 1 := ⟨d - 1, by omega⟩
  refine fu_enter (ls := [.ref P0]) am_at_X4_arm rfl rfl ?_
  show fu_J _ _ (fc_X d (some .int) k_X4_arm 0 [.ref P0] [] s)
  unfold f_X4_arm
  refine fu_go 1 (pc' := 1) (ls' := [.ref P0]) (st' := [.ref P0]) (s' := s) rfl ?_
  refine fu_step (fu_getI rfl hP0.1 rfl rfl) ?_
  exact fu_iret rfl rfl
/-! X4_isHome -/
set_option maxRecDepth 100000 in
theorem e_X4_isHome (d : Nat) (hd : 1 ≤ d) (s : fu_S) (P0 : Nat) (hP0 : fc_is3 P0) (a1 : Int32) : fu_J (some (f_X4_isHome P0 a1)) (fun r => some (some (.int (fu_b r)), s)) (am_D (fu_ho fc_sh) am_m d 56 [.ref P0, .int a1] s) := by
  obtain ⟨d, rfl⟩ : ∃ e, d = e + 1 := ⟨d - 1, by omega⟩
  refine fu_enter (ls := [.ref P0, .int a1]) am_at_X4_isHome rfl rfl ?_
  show fu_J _ _ (fc_X d (some .boolean) k_X4_isHome 0 [.ref P0, .int a1] [] s)
  unfold f_X4_isHome
  refine fu_go 1 (pc' := 1) (ls' := [.ref P0, .int a1]) (st' := [.int a1]) (s' := s) rfl ?_
  refine fu_letS (V := fun j1 : Bool => fc_X d (some .boolean) k_X4_isHome 15 [am_U, am_U] [.int (fu_b j1)] s) ?_ (fun j1 => ?_)
  · refine fu_iteS (fun h2 => fu_step (fu_if_lt_t rfl h2) ?_) (fun h2 => fu_step (fu_if_lt_f rfl h2) ?_)
    · refine fu_go 1 (pc' := 15) (ls' := [.ref P0, .int a1]) (st' := [.int (0 : Int32)]) (s' := s) rfl ?_
      exact fu_leaf rfl ⟨.inl rfl, .inl rfl, trivial⟩
    · refine fu_go 2 (pc' := 7) (ls' := [.ref P0, .int a1]) (st' := [.int (59 : Int32), .int a1]) (s' := s) rfl ?_
      refine fu_iteS (fun h3 => fu_step (fu_ic_gt_t rfl h3) ?_) (fun h3 => fu_step (fu_ic_gt_f rfl h3) ?_)
      · refine fu_go 2 (pc' := 15) (ls' := [.ref P0, .int a1]) (st' := [.int (1 : Int32)]) (s' := s) rfl ?_
        exact fu_leaf rfl ⟨.inl rfl, .inl rfl, trivial⟩
      · refine fu_go 1 (pc' := 15) (ls' := [.ref P0, .int a1]) (st' := [.int (0 : Int32)]) (s' := s) rfl ?_
        exact fu_leaf rfl ⟨.inl rfl, .inl rfl, trivial⟩
  show fu_J _ _ (fc_X d (some .boolean) k_X4_isHome 15 [am_U, am_U] [.int (fu_b j1)] s)
  exact fu_bret (b := j1) rfl rfl
/-! X4_isThingSet -/
set_option maxRecDepth 100000 in
theorem e_X4_isThingSet (d : Nat) (hd : 1 ≤ d) (s : fu_S) (P0 : Nat) (hP0 : fc_is3 P0) (a1 : Int32) : fu_J (some (f_X4_isThingSet s P0 a1)) (fun r => some (some (.int (fu_b r)), s)) (am_D (fu_ho fc_sh) am_m d 57 [.ref P0, .int a1] s) := by
  obtain ⟨d, rfl⟩ : ∃ e, d = e + 1 := ⟨d - 1, by omega⟩
  refine fu_enter (ls := [.ref P0, .int a1]) am_at_X4_isThingSet rfl rfl ?_
  show fu_J _ _ (fc_X d (some .boolean) k_X4_isThingSet 0 [.ref P0, .int a1] [] s)
  unfold f_X4_isThingSet
  refine fu_go 1 (pc' := 1) (ls' := [.ref P0, .int a1]) (st' := [.int a1]) (s' := s) rfl ?_
  refine fu_letS (V := fun j1 : Bool => fc_X d (some .boolean) k_X4_isThingSet 19 [am_U, am_U] [.int (fu_b j1)] s) ?_ (fun j1 => ?_)
  · refine fu_iteS (fun h2 => fu_step (fu_if_lt_t rfl h2) ?_) (fun h2 => fu_step (fu_if_lt_f rfl h2) ?_)
    · refine fu_go 1 (pc' := 19) (ls' := [.ref P0, .int a1]) (st' := [.int (0 : Int32)]) (s' := s) rfl ?_
      exact fu_leaf rfl ⟨.inl rfl, .inl rfl, trivial⟩
    · refine fu_go 3 (pc' := 7) (ls' := [.ref P0, .int a1]) (st' := [.ref P0, .int (1 : Int32), .int a1]) (s' := s) rfl ?_
      refine fu_step (fu_getI rfl hP0.1 rfl rfl) ?_
      refine fu_go 1 (pc' := 11) (ls' := [.ref P0, .int a1]) (st' := [.int ((1 : Int32) <<< ((s.1 P0 5) &&& 31)), .int a1]) (s' := s) rfl ?_
      refine fu_iteS (fun h3 => fu_step (fu_ic_ge_t rfl h3) ?_) (fun h3 => fu_step (fu_ic_ge_f rfl h3) ?_)
      · refine fu_go 2 (pc' := 19) (ls' := [.ref P0, .int a1]) (st' := [.int (1 : Int32)]) (s' := s) rfl ?_
        exact fu_leaf rfl ⟨.inl rfl, .inl rfl, trivial⟩
      · refine fu_go 1 (pc' := 19) (ls' := [.ref P0, .int a1]) (st' := [.int (0 : Int32)]) (s' := s) rfl ?_
        exact fu_leaf rfl ⟨.inl rfl, .inl rfl, trivial⟩
  show fu_J _ _ (fc_X d (some .boolean) k_X4_isThingSet 19 [am_U, am_U] [.int (fu_b j1)] s)
  exact fu_bret (b := j1) rfl rfl
/-! X4_isForKind -/
set_option maxRecDepth 100000 in
theorem e_X4_isForKind (d : Nat) (hd : 2 ≤ d) (s : fu_S) (P0 : Nat) (hP0 : fc_is3 P0) (a1 : Int32) (a2 : Int32) : fu_J (some (f_X4_isForKind P0 a1 a2)) (fun r => some (some (.int (fu_b r)), s)) (am_D (fu_ho fc_sh) am_m d 61 [.ref P0, .int a1, .int a2] s) := by
  obtain ⟨d, rfl⟩ : ∃ e, d = e + 1 := ⟨d - 1, by omega⟩
  refine fu_enter (ls := [.ref P0, .int a1, .int a2]) am_at_X4_isForKind rfl rfl ?_
  show fu_J _ _ (fc_X d (some .boolean) k_X4_isForKind 0 [.ref P0, .int a1, .int a2] [] s)
  unfold f_X4_isForKind
  refine fu_go 1 (pc' := 1) (ls' := [.ref P0, .int a1, .int a2]) (st' := [.int a1]) (s' := s) rfl ?_
  refine fu_letS (V := fun j1 : Bool => fc_X d (some .boolean) k_X4_isForKind 57 [am_U, am_U, am_U] [.int (fu_b j1)] s) ?_ (fun j1 => ?_)
  · refine fu_iteS (fun h2 => fu_step (fu_if_ne_t rfl h2) ?_) (fun h2 => fu_step (fu_if_ne_f rfl h2) ?_)
    · refine fu_go 2 (pc' := 6) (ls' := [.ref P0, .int a1, .int a2]) (st' := [.int (1 : Int32), .int a2]) (s' := s) rfl ?_
      refine fu_iteS (fun h3 => fu_step (fu_ic_lt_t rfl h3) ?_) (fun h3 => fu_step (fu_ic_lt_f rfl h3) ?_)
      · refine fu_go 2 (pc' := 57) (ls' := [.ref P0, .int a1, .int a2]) (st' := [.int (0 : Int32)]) (s' := s) rfl ?_
        exact fu_leaf rfl ⟨.inl rfl, .inl rfl, .inl rfl, trivial⟩
      · refine fu_go 2 (pc' := 12) (ls' := [.ref P0, .int a1, .int a2]) (st' := [.int (9 : Int32), .int a2]) (s' := s) rfl ?_
        refine fu_iteS (fun h4 => fu_step (fu_ic_gt_t rfl h4) ?_) (fun h4 => fu_step (fu_ic_gt_f rfl h4) ?_)
        · refine fu_go 2 (pc' := 57) (ls' := [.ref P0, .int a1, .int a2]) (st' := [.int (1 : Int32)]) (s' := s) rfl ?_
          exact fu_leaf rfl ⟨.inl rfl, .inl rfl, .inl rfl, trivial⟩
        · refine fu_go 2 (pc' := 57) (ls' := [.ref P0, .int a1, .int a2]) (st' := [.int (0 : Int32)]) (s' := s) rfl ?_
          exact fu_leaf rfl ⟨.inl rfl, .inl rfl, .inl rfl, trivial⟩
    · refine fu_go 2 (pc' := 25) (ls' := [.ref P0, .int a1, .int a2]) (st' := [.int (1 : Int32), .int a1]) (s' := s) rfl ?_
      refine fu_iteS (fun h5 => fu_step (fu_ic_ne_t rfl h5) ?_) (fun h5 => fu_step (fu_ic_ne_f rfl h5) ?_)
      · refine fu_go 2 (pc' := 30) (ls' := [.ref P0, .int a1, .int a2]) (st' := [.int a2, .ref P0]) (s' := s) rfl ?_
        refine fu_step (fu_cV rfl rfl rfl rfl rfl (fu_recv hP0.1 am_at_X4_isSpot rfl) (fu_eq (e_X4_isSpot d (by omega) s P0 hP0 a2) rfl)) ?_
        show fu_J _ _ (fc_X d (some .boolean) k_X4_isForKind 33 [.ref P0, .int a1, .int a2] [.int (fu_b (f_X4_isSpot P0 a2))] s)
        refine fu_go 1 (pc' := 57) (ls' := [.ref P0, .int a1, .int a2]) (st' := [.int (fu_b (f_X4_isSpot P0 a2))]) (s' := s) rfl ?_
        exact fu_leaf rfl ⟨.inl rfl, .inl rfl, .inl rfl, trivial⟩
      · refine fu_go 2 (pc' := 38) (ls' := [.ref P0, .int a1, .int a2]) (st' := [.int (2 : Int32), .int a1]) (s' := s) rfl ?_
        refine fu_iteS (fun h6 => fu_step (fu_ic_ne_t rfl h6) ?_) (fun h6 => fu_step (fu_ic_ne_f rfl h6) ?_)
        · refine fu_go 2 (pc' := 43) (ls' := [.ref P0, .int a1, .int a2]) (st' := [.int (1 : Int32), .int a2]) (s' := s) rfl ?_
          refine fu_iteS (fun h7 => fu_step (fu_ic_lt_t rfl h7) ?_) (fun h7 => fu_step (fu_ic_lt_f rfl h7) ?_)
          · refine fu_go 1 (pc' := 57) (ls' := [.ref P0, .int a1, .int a2]) (st' := [.int (0 : Int32)]) (s' := s) rfl ?_
            exact fu_leaf rfl ⟨.inl rfl, .inl rfl, .inl rfl, trivial⟩
          · refine fu_go 2 (pc' := 49) (ls' := [.ref P0, .int a1, .int a2]) (st' := [.int (9 : Int32), .int a2]) (s' := s) rfl ?_
            refine fu_iteS (fun h8 => fu_step (fu_ic_gt_t rfl h8) ?_) (fun h8 => fu_step (fu_ic_gt_f rfl h8) ?_)
            · refine fu_go 2 (pc' := 57) (ls' := [.ref P0, .int a1, .int a2]) (st' := [.int (1 : Int32)]) (s' := s) rfl ?_
              exact fu_leaf rfl ⟨.inl rfl, .inl rfl, .inl rfl, trivial⟩
            · refine fu_go 1 (pc' := 57) (ls' := [.ref P0, .int a1, .int a2]) (st' := [.int (0 : Int32)]) (s' := s) rfl ?_
              exact fu_leaf rfl ⟨.inl rfl, .inl rfl, .inl rfl, trivial⟩
        · refine fu_go 1 (pc' := 57) (ls' := [.ref P0, .int a1, .int a2]) (st' := [.int (0 : Int32)]) (s' := s) rfl ?_
          exact fu_leaf rfl ⟨.inl rfl, .inl rfl, .inl rfl, trivial⟩
  show fu_J _ _ (fc_X d (some .boolean) k_X4_isForKind 57 [am_U, am_U, am_U] [.int (fu_b j1)] s)
  exact fu_bret (b := j1) rfl rfl
/-! X4_changeKind -/
set_option maxRecDepth 100000 in
theorem e_X4_changeKind (d : Nat) (hd : 2 ≤ d) (s : fu_S) (P0 : Nat) (hP0 : fc_is3 P0) (a1 : Int32) (a2 : Int32) (a3 : Int32) : fu_J (f_X4_changeKind s P0 a1 a2 a3) (fun r => some (none, r)) (am_D (fu_ho fc_sh) am_m d 62 [.ref P0, .int a1, .int a2, .int a3] s) := by
  obtain ⟨d, rfl⟩ : ∃ e, d = e + 1 := ⟨d - 1, by omega⟩
  refine fu_enter (ls := [.ref P0, .int a1, .int a2, .int a3]) am_at_X4_changeKind rfl rfl ?_
  show fu_J _ _ (fc_X d none k_X4_changeKind 0 [.ref P0, .int a1, .int a2, .int a3] [] s)
  unfold f_X4_changeKind
  refine fu_go 2 (pc' := 2) (ls' := [.ref P0, .int a1, .int a2, .int a3]) (st' := [.int a1, .ref P0]) (s' := s) rfl ?_
  refine fu_step (fu_cV rfl rfl rfl rfl rfl (fu_recv hP0.1 am_at_X4_hasKind rfl) (fu_eq (e_X4_hasKind d (by omega) s P0 hP0 a1) rfl)) ?_
  show fu_J _ _ (fc_X d none k_X4_changeKind 5 [.ref P0, .int a1, .int a2, .int a3] [.int (fu_b (f_X4_hasKind s P0 a1))] s)
  refine fu_ite (fun h1 => fu_step (fu_ib_ne_t rfl h1) ?_) (fun h1 => fu_step (fu_ib_ne_f rfl h1) ?_)
  · refine fu_go 1 (pc' := 10) (ls' := [.ref P0, .int a1, .int a2, .int a3]) (st' := [.int a2]) (s' := s) rfl ?_
    refine fu_bind (V := fun j2 : fu_S => fc_X d none k_X4_changeKind 45 [am_U, am_U, am_U, am_U] [] j2) ?_ (fun j2 => ?_)
    · refine fu_ite (fun h3 => fu_step (fu_if_ne_t rfl h3) ?_) (fun h3 => fu_step (fu_if_ne_f rfl h3) ?_)
      · refine fu_go 1 (pc' := 14) (ls' := [.ref P0, .int a1, .int a2, .int a3]) (st' := [.ref P0]) (s' := s) rfl ?_
        refine fu_step (fu_getR rfl hP0.1 rfl rfl) ?_
        refine fu_go 2 (pc' := 19) (ls' := [.ref P0, .int a1, .int a2, .int a3]) (st' := [.int a3, .int a1, .ref (P0 + 1)]) (s' := s) rfl ?_
        refine fu_guard (fun h5 => fu_lets (b := (fu_pi s (P0 + 1) (Int32.toNatClampNeg a1) a3)) (fu_stI rfl hP0.2.1 h5) (fun s4 => ?_))
        refine fu_go 1 (pc' := 45) (ls' := [.ref P0, .int a1, .int a2, .int a3]) (st' := []) (s' := s4) rfl ?_
        exact fu_leaf rfl ⟨.inl rfl, .inl rfl, .inl rfl, .inl rfl, trivial⟩
      · refine fu_go 2 (pc' := 25) (ls' := [.ref P0, .int a1, .int a2, .int a3]) (st' := [.int (1 : Int32), .int a2]) (s' := s) rfl ?_
        refine fu_ite (fun h6 => fu_step (fu_ic_ne_t rfl h6) ?_) (fun h6 => fu_step (fu_ic_ne_f rfl h6) ?_)
        · refine fu_go 1 (pc' := 29) (ls' := [.ref P0, .int a1, .int a2, .int a3]) (st' := [.ref P0]) (s' := s) rfl ?_
          refine fu_step (fu_getR rfl hP0.1 rfl rfl) ?_
          refine fu_go 2 (pc' := 34) (ls' := [.ref P0, .int a1, .int a2, .int a3]) (st' := [.int a3, .int a1, .ref (P0 + 2)]) (s' := s) rfl ?_
          refine fu_guard (fun h8 => fu_lets (b := (fu_pi s (P0 + 2) (Int32.toNatClampNeg a1) a3)) (fu_stI rfl hP0.2.2.1 h8) (fun s7 => ?_))
          refine fu_go 1 (pc' := 45) (ls' := [.ref P0, .int a1, .int a2, .int a3]) (st' := []) (s' := s7) rfl ?_
          exact fu_leaf rfl ⟨.inl rfl, .inl rfl, .inl rfl, .inl rfl, trivial⟩
        · refine fu_go 1 (pc' := 39) (ls' := [.ref P0, .int a1, .int a2, .int a3]) (st' := [.ref P0]) (s' := s) rfl ?_
          refine fu_step (fu_getR rfl hP0.1 rfl rfl) ?_
          refine fu_go 2 (pc' := 44) (ls' := [.ref P0, .int a1, .int a2, .int a3]) (st' := [.int a3, .int a1, .ref (P0 + 3)]) (s' := s) rfl ?_
          refine fu_guard (fun h10 => fu_lets (b := (fu_pi s (P0 + 3) (Int32.toNatClampNeg a1) a3)) (fu_stI rfl hP0.2.2.2.1 h10) (fun s9 => ?_))
          exact fu_leaf rfl ⟨.inl rfl, .inl rfl, .inl rfl, .inl rfl, trivial⟩
    show fu_J _ _ (fc_X d none k_X4_changeKind 45 [am_U, am_U, am_U, am_U] [] j2)
    exact fu_vret rfl rfl
  · exact fu_vret rfl rfl
/-! X4_homeOf -/
set_option maxRecDepth 100000 in
theorem e_X4_homeOf (d : Nat) (hd : 2 ≤ d) (s : fu_S) (P0 : Nat) (hP0 : fc_is3 P0) (a1 : Int32) : fu_J (f_X4_homeOf s P0 a1) (fun r => some (some (.int r), s)) (am_D (fu_ho fc_sh) am_m d 69 [.ref P0, .int a1] s) := by
  obtain ⟨d, rfl⟩ : ∃ e, d = e + 1 := ⟨d - 1, by omega⟩
  refine fu_enter (ls := [.ref P0, .int a1]) am_at_X4_homeOf rfl rfl ?_
  show fu_J _ _ (fc_X d (some .int) k_X4_homeOf 0 [.ref P0, .int a1] [] s)
  unfold f_X4_homeOf
  refine fu_go 2 (pc' := 2) (ls' := [.ref P0, .int a1]) (st' := [.int a1, .ref P0]) (s' := s) rfl ?_
  refine fu_step (fu_cV rfl rfl rfl rfl rfl (fu_recv hP0.1 am_at_X4_hasPerson rfl) (fu_eq (e_X4_hasPerson d (by omega) s P0 hP0 a1) rfl)) ?_
  show fu_J _ _ (fc_X d (some .int) k_X4_homeOf 5 [.ref P0, .int a1] [.int (fu_b (f_X4_hasPerson s P0 a1))] s)
  refine fu_bind (V := fun j1 : Int32 => fc_X d (some .int) k_X4_homeOf 18 [am_U, am_U] [.int j1] s) ?_ (fun j1 => ?_)
  · refine fu_ite (fun h2 => fu_step (fu_ib_eq_t rfl h2) ?_) (fun h2 => fu_step (fu_ib_eq_f rfl h2) ?_)
    · refine fu_go 1 (pc' := 9) (ls' := [.ref P0, .int a1]) (st' := [.ref P0]) (s' := s) rfl ?_
      refine fu_step (fu_getR rfl hP0.1 rfl rfl) ?_
      refine fu_go 1 (pc' := 13) (ls' := [.ref P0, .int a1]) (st' := [.int a1, .ref (P0 + 5)]) (s' := s) rfl ?_
      refine fu_guard (fun h3 => fu_step (fu_ldI rfl hP0.2.2.2.2.2.1 h3) ?_)
      refine fu_go 1 (pc' := 18) (ls' := [.ref P0, .int a1]) (st' := [.int (s.1 (P0 + 5) (Int32.toNatClampNeg a1))]) (s' := s) rfl ?_
      exact fu_leaf rfl ⟨.inl rfl, .inl rfl, trivial⟩
    · refine fu_go 1 (pc' := 18) (ls' := [.ref P0, .int a1]) (st' := [.int (0 : Int32)]) (s' := s) rfl ?_
      exact fu_leaf rfl ⟨.inl rfl, .inl rfl, trivial⟩
  show fu_J _ _ (fc_X d (some .int) k_X4_homeOf 18 [am_U, am_U] [.int j1] s)
  exact fu_iret rfl rfl
/-! X4_reachOf -/
set_option maxRecDepth 100000 in
theorem e_X4_reachOf (d : Nat) (hd : 2 ≤ d) (s : fu_S) (P0 : Nat) (hP0 : fc_is3 P0) (a1 : Int32) : fu_J (f_X4_reachOf s P0 a1) (fun r => some (some (.int r), s)) (am_D (fu_ho fc_sh) am_m d 70 [.ref P0, .int a1] s) := by
  obtain ⟨d, rfl⟩ : ∃ e, d = e + 1 := ⟨d - 1, by omega⟩
  refine fu_enter (ls := [.ref P0, .int a1]) am_at_X4_reachOf rfl rfl ?_
  show fu_J _ _ (fc_X d (some .int) k_X4_reachOf 0 [.ref P0, .int a1] [] s)
  unfold f_X4_reachOf
  refine fu_go 2 (pc' := 2) (ls' := [.ref P0, .int a1]) (st' := [.int a1, .ref P0]) (s' := s) rfl ?_
  refine fu_step (fu_cV rfl rfl rfl rfl rfl (fu_recv hP0.1 am_at_X4_hasPerson rfl) (fu_eq (e_X4_hasPerson d (by omega) s P0 hP0 a1) rfl)) ?_
  show fu_J _ _ (fc_X d (some .int) k_X4_reachOf 5 [.ref P0, .int a1] [.int (fu_b (f_X4_hasPerson s P0 a1))] s)
  refine fu_bind (V := fun j1 : Int32 => fc_X d (some .int) k_X4_reachOf 18 [am_U, am_U] [.int j1] s) ?_ (fun j1 => ?_)
  · refine fu_ite (fun h2 => fu_step (fu_ib_eq_t rfl h2) ?_) (fun h2 => fu_step (fu_ib_eq_f rfl h2) ?_)
    · refine fu_go 1 (pc' := 9) (ls' := [.ref P0, .int a1]) (st' := [.ref P0]) (s' := s) rfl ?_
      refine fu_step (fu_getR rfl hP0.1 rfl rfl) ?_
      refine fu_go 1 (pc' := 13) (ls' := [.ref P0, .int a1]) (st' := [.int a1, .ref (P0 + 6)]) (s' := s) rfl ?_
      refine fu_guard (fun h3 => fu_step (fu_ldI rfl hP0.2.2.2.2.2.2.1 h3) ?_)
      refine fu_go 1 (pc' := 18) (ls' := [.ref P0, .int a1]) (st' := [.int (s.1 (P0 + 6) (Int32.toNatClampNeg a1))]) (s' := s) rfl ?_
      exact fu_leaf rfl ⟨.inl rfl, .inl rfl, trivial⟩
    · refine fu_go 1 (pc' := 18) (ls' := [.ref P0, .int a1]) (st' := [.int (0 : Int32)]) (s' := s) rfl ?_
      exact fu_leaf rfl ⟨.inl rfl, .inl rfl, trivial⟩
  show fu_J _ _ (fc_X d (some .int) k_X4_reachOf 18 [am_U, am_U] [.int j1] s)
  exact fu_iret rfl rfl
/-! X4_toggleReach -/
set_option maxRecDepth 100000 in
theorem e_X4_toggleReach (d : Nat) (hd : 2 ≤ d) (s : fu_S) (P0 : Nat) (hP0 : fc_is3 P0) (a1 : Int32) (a2 : Int32) : fu_J (f_X4_toggleReach s P0 a1 a2) (fun r => some (none, r)) (am_D (fu_ho fc_sh) am_m d 72 [.ref P0, .int a1, .int a2] s) := by
  obtain ⟨d, rfl⟩ : ∃ e, d = e + 1 := ⟨d - 1, by omega⟩
  refine fu_enter (ls := [.ref P0, .int a1, .int a2]) am_at_X4_toggleReach rfl rfl ?_
  show fu_J _ _ (fc_X d none k_X4_toggleReach 0 [.ref P0, .int a1, .int a2] [] s)
  unfold f_X4_toggleReach
  refine fu_go 2 (pc' := 2) (ls' := [.ref P0, .int a1, .int a2]) (st' := [.int a1, .ref P0]) (s' := s) rfl ?_
  refine fu_step (fu_cV rfl rfl rfl rfl rfl (fu_recv hP0.1 am_at_X4_hasPerson rfl) (fu_eq (e_X4_hasPerson d (by omega) s P0 hP0 a1) rfl)) ?_
  show fu_J _ _ (fc_X d none k_X4_toggleReach 5 [.ref P0, .int a1, .int a2] [.int (fu_b (f_X4_hasPerson s P0 a1))] s)
  refine fu_bind (V := fun j1 : fu_S => fc_X d none k_X4_toggleReach 28 [am_U, am_U, am_U] [] j1) ?_ (fun j1 => ?_)
  · refine fu_ite (fun h2 => fu_step (fu_ib_eq_t rfl h2) ?_) (fun h2 => fu_step (fu_ib_eq_f rfl h2) ?_)
    · refine fu_go 2 (pc' := 10) (ls' := [.ref P0, .int a1, .int a2]) (st' := [.int a2, .ref P0]) (s' := s) rfl ?_
      refine fu_step (fu_cV rfl rfl rfl rfl rfl (fu_recv hP0.1 am_at_X4_isSpot rfl) (fu_eq (e_X4_isSpot d (by omega) s P0 hP0 a2) rfl)) ?_
      show fu_J _ _ (fc_X d none k_X4_toggleReach 13 [.ref P0, .int a1, .int a2] [.int (fu_b (f_X4_isSpot P0 a2))] s)
      refine fu_ite (fun h3 => fu_step (fu_ib_eq_t rfl h3) ?_) (fun h3 => fu_step (fu_ib_eq_f rfl h3) ?_)
      · refine fu_go 1 (pc' := 17) (ls' := [.ref P0, .int a1, .int a2]) (st' := [.ref P0]) (s' := s) rfl ?_
        refine fu_step (fu_getR rfl hP0.1 rfl rfl) ?_
        refine fu_go 2 (pc' := 22) (ls' := [.ref P0, .int a1, .int a2]) (st' := [.int a1, .ref (P0 + 6), .int a1, .ref (P0 + 6)]) (s' := s) rfl ?_
        refine fu_guard (fun h4 => fu_step (fu_ldI rfl hP0.2.2.2.2.2.2.1 h4) ?_)
        refine fu_go 4 (pc' := 27) (ls' := [.ref P0, .int a1, .int a2]) (st' := [.int ((s.1 (P0 + 6) (Int32.toNatClampNeg a1)) ^^^ ((1 : Int32) <<< (a2 &&& 31))), .int a1, .ref (P0 + 6)]) (s' := s) rfl ?_
        refine fu_guard (fun h6 => fu_lets (b := (fu_pi s (P0 + 6) (Int32.toNatClampNeg a1) ((s.1 (P0 + 6) (Int32.toNatClampNeg a1)) ^^^ ((1 : Int32) <<< (a2 &&& 31))))) (fu_stI rfl hP0.2.2.2.2.2.2.1 h6) (fun s5 => ?_))
        exact fu_leaf rfl ⟨.inl rfl, .inl rfl, .inl rfl, trivial⟩
      · exact fu_leaf rfl ⟨.inl rfl, .inl rfl, .inl rfl, trivial⟩
    · exact fu_leaf rfl ⟨.inl rfl, .inl rfl, .inl rfl, trivial⟩
  show fu_J _ _ (fc_X d none k_X4_toggleReach 28 [am_U, am_U, am_U] [] j1)
  exact fu_vret rfl rfl
/-! X4_settle -/
set_option maxRecDepth 100000 in
theorem e_X4_settle (d : Nat) (hd : 2 ≤ d) (s : fu_S) (P0 : Nat) (hP0 : fc_is3 P0) (a1 : Int32) (a2 : Int32) : fu_J (f_X4_settle s P0 a1 a2) (fun r => some (none, r)) (am_D (fu_ho fc_sh) am_m d 73 [.ref P0, .int a1, .int a2] s) := by
  obtain ⟨d, rfl⟩ : ∃ e, d = e + 1 := ⟨d - 1, by omega⟩
  refine fu_enter (ls := [.ref P0, .int a1, .int a2]) am_at_X4_settle rfl rfl ?_
  show fu_J _ _ (fc_X d none k_X4_settle 0 [.ref P0, .int a1, .int a2] [] s)
  unfold f_X4_settle
  refine fu_go 2 (pc' := 2) (ls' := [.ref P0, .int a1, .int a2]) (st' := [.int a1, .ref P0]) (s' := s) rfl ?_
  refine fu_step (fu_cV rfl rfl rfl rfl rfl (fu_recv hP0.1 am_at_X4_hasPerson rfl) (fu_eq (e_X4_hasPerson d (by omega) s P0 hP0 a1) rfl)) ?_
  show fu_J _ _ (fc_X d none k_X4_settle 5 [.ref P0, .int a1, .int a2] [.int (fu_b (f_X4_hasPerson s P0 a1))] s)
  refine fu_bind (V := fun j1 : fu_S => fc_X d none k_X4_settle 15 [am_U, am_U, am_U] [] j1) ?_ (fun j1 => ?_)
  · refine fu_ite (fun h2 => fu_step (fu_ib_eq_t rfl h2) ?_) (fun h2 => fu_step (fu_ib_eq_f rfl h2) ?_)
    · refine fu_go 1 (pc' := 9) (ls' := [.ref P0, .int a1, .int a2]) (st' := [.ref P0]) (s' := s) rfl ?_
      refine fu_step (fu_getR rfl hP0.1 rfl rfl) ?_
      refine fu_go 2 (pc' := 14) (ls' := [.ref P0, .int a1, .int a2]) (st' := [.int a2, .int a1, .ref (P0 + 5)]) (s' := s) rfl ?_
      refine fu_guard (fun h4 => fu_lets (b := (fu_pi s (P0 + 5) (Int32.toNatClampNeg a1) a2)) (fu_stI rfl hP0.2.2.2.2.2.1 h4) (fun s3 => ?_))
      exact fu_leaf rfl ⟨.inl rfl, .inl rfl, .inl rfl, trivial⟩
    · exact fu_leaf rfl ⟨.inl rfl, .inl rfl, .inl rfl, trivial⟩
  show fu_J _ _ (fc_X d none k_X4_settle 15 [am_U, am_U, am_U] [] j1)
  exact fu_vret rfl rfl
/-! X4_kindOf -/
set_option maxRecDepth 100000 in
theorem e_X4_kindOf (d : Nat) (hd : 2 ≤ d) (s : fu_S) (P0 : Nat) (hP0 : fc_is3 P0) (a1 : Int32) : fu_J (f_X4_kindOf s P0 a1) (fun r => some (some (.int r), s)) (am_D (fu_ho fc_sh) am_m d 77 [.ref P0, .int a1] s) := by
  obtain ⟨d, rfl⟩ : ∃ e, d = e + 1 := ⟨d - 1, by omega⟩
  refine fu_enter (ls := [.ref P0, .int a1]) am_at_X4_kindOf rfl rfl ?_
  show fu_J _ _ (fc_X d (some .int) k_X4_kindOf 0 [.ref P0, .int a1] [] s)
  unfold f_X4_kindOf
  refine fu_go 2 (pc' := 2) (ls' := [.ref P0, .int a1]) (st' := [.int a1, .ref P0]) (s' := s) rfl ?_
  refine fu_step (fu_cV rfl rfl rfl rfl rfl (fu_recv hP0.1 am_at_X4_hasThing rfl) (fu_eq (e_X4_hasThing d (by omega) s P0 hP0 a1) rfl)) ?_
  show fu_J _ _ (fc_X d (some .int) k_X4_kindOf 5 [.ref P0, .int a1] [.int (fu_b (f_X4_hasThing s P0 a1))] s)
  refine fu_bind (V := fun j1 : Int32 => fc_X d (some .int) k_X4_kindOf 18 [am_U, am_U] [.int j1] s) ?_ (fun j1 => ?_)
  · refine fu_ite (fun h2 => fu_step (fu_ib_eq_t rfl h2) ?_) (fun h2 => fu_step (fu_ib_eq_f rfl h2) ?_)
    · refine fu_go 1 (pc' := 9) (ls' := [.ref P0, .int a1]) (st' := [.ref P0]) (s' := s) rfl ?_
      refine fu_step (fu_getR rfl hP0.1 rfl rfl) ?_
      refine fu_go 1 (pc' := 13) (ls' := [.ref P0, .int a1]) (st' := [.int a1, .ref (P0 + 8)]) (s' := s) rfl ?_
      refine fu_guard (fun h3 => fu_step (fu_ldI rfl hP0.2.2.2.2.2.2.2.2.1 h3) ?_)
      refine fu_go 1 (pc' := 18) (ls' := [.ref P0, .int a1]) (st' := [.int (s.1 (P0 + 8) (Int32.toNatClampNeg a1))]) (s' := s) rfl ?_
      exact fu_leaf rfl ⟨.inl rfl, .inl rfl, trivial⟩
    · refine fu_go 1 (pc' := 18) (ls' := [.ref P0, .int a1]) (st' := [.int (-1 : Int32)]) (s' := s) rfl ?_
      exact fu_leaf rfl ⟨.inl rfl, .inl rfl, trivial⟩
  show fu_J _ _ (fc_X d (some .int) k_X4_kindOf 18 [am_U, am_U] [.int j1] s)
  exact fu_iret rfl rfl
/-! X4_worthOf -/
set_option maxRecDepth 100000 in
theorem e_X4_worthOf (d : Nat) (hd : 2 ≤ d) (s : fu_S) (P0 : Nat) (hP0 : fc_is3 P0) (a1 : Int32) : fu_J (f_X4_worthOf s P0 a1) (fun r => some (some (.int r), s)) (am_D (fu_ho fc_sh) am_m d 78 [.ref P0, .int a1] s) := by
  obtain ⟨d, rfl⟩ : ∃ e, d = e + 1 := ⟨d - 1, by omega⟩
  refine fu_enter (ls := [.ref P0, .int a1]) am_at_X4_worthOf rfl rfl ?_
  show fu_J _ _ (fc_X d (some .int) k_X4_worthOf 0 [.ref P0, .int a1] [] s)
  unfold f_X4_worthOf
  refine fu_go 2 (pc' := 2) (ls' := [.ref P0, .int a1]) (st' := [.int a1, .ref P0]) (s' := s) rfl ?_
  refine fu_step (fu_cV rfl rfl rfl rfl rfl (fu_recv hP0.1 am_at_X4_hasThing rfl) (fu_eq (e_X4_hasThing d (by omega) s P0 hP0 a1) rfl)) ?_
  show fu_J _ _ (fc_X d (some .int) k_X4_worthOf 5 [.ref P0, .int a1] [.int (fu_b (f_X4_hasThing s P0 a1))] s)
  refine fu_bind (V := fun j1 : Int32 => fc_X d (some .int) k_X4_worthOf 18 [am_U, am_U] [.int j1] s) ?_ (fun j1 => ?_)
  · refine fu_ite (fun h2 => fu_step (fu_ib_eq_t rfl h2) ?_) (fun h2 => fu_step (fu_ib_eq_f rfl h2) ?_)
    · refine fu_go 1 (pc' := 9) (ls' := [.ref P0, .int a1]) (st' := [.ref P0]) (s' := s) rfl ?_
      refine fu_step (fu_getR rfl hP0.1 rfl rfl) ?_
      refine fu_go 1 (pc' := 13) (ls' := [.ref P0, .int a1]) (st' := [.int a1, .ref (P0 + 9)]) (s' := s) rfl ?_
      refine fu_guard (fun h3 => fu_step (fu_ldI rfl hP0.2.2.2.2.2.2.2.2.2.1 h3) ?_)
      refine fu_go 1 (pc' := 18) (ls' := [.ref P0, .int a1]) (st' := [.int (s.1 (P0 + 9) (Int32.toNatClampNeg a1))]) (s' := s) rfl ?_
      exact fu_leaf rfl ⟨.inl rfl, .inl rfl, trivial⟩
    · refine fu_go 1 (pc' := 18) (ls' := [.ref P0, .int a1]) (st' := [.int (0 : Int32)]) (s' := s) rfl ?_
      exact fu_leaf rfl ⟨.inl rfl, .inl rfl, trivial⟩
  show fu_J _ _ (fc_X d (some .int) k_X4_worthOf 18 [am_U, am_U] [.int j1] s)
  exact fu_iret rfl rfl
/-! X4_lostAtOf -/
set_option maxRecDepth 100000 in
theorem e_X4_lostAtOf (d : Nat) (hd : 2 ≤ d) (s : fu_S) (P0 : Nat) (hP0 : fc_is3 P0) (a1 : Int32) : fu_J (f_X4_lostAtOf s P0 a1) (fun r => some (some (.int r), s)) (am_D (fu_ho fc_sh) am_m d 79 [.ref P0, .int a1] s) := by
  obtain ⟨d, rfl⟩ : ∃ e, d = e + 1 := ⟨d - 1, by omega⟩
  refine fu_enter (ls := [.ref P0, .int a1]) am_at_X4_lostAtOf rfl rfl ?_
  show fu_J _ _ (fc_X d (some .int) k_X4_lostAtOf 0 [.ref P0, .int a1] [] s)
  unfold f_X4_lostAtOf
  refine fu_go 2 (pc' := 2) (ls' := [.ref P0, .int a1]) (st' := [.int a1, .ref P0]) (s' := s) rfl ?_
  refine fu_step (fu_cV rfl rfl rfl rfl rfl (fu_recv hP0.1 am_at_X4_hasThing rfl) (fu_eq (e_X4_hasThing d (by omega) s P0 hP0 a1) rfl)) ?_
  show fu_J _ _ (fc_X d (some .int) k_X4_lostAtOf 5 [.ref P0, .int a1] [.int (fu_b (f_X4_hasThing s P0 a1))] s)
  refine fu_bind (V := fun j1 : Int32 => fc_X d (some .int) k_X4_lostAtOf 18 [am_U, am_U] [.int j1] s) ?_ (fun j1 => ?_)
  · refine fu_ite (fun h2 => fu_step (fu_ib_eq_t rfl h2) ?_) (fun h2 => fu_step (fu_ib_eq_f rfl h2) ?_)
    · refine fu_go 1 (pc' := 9) (ls' := [.ref P0, .int a1]) (st' := [.ref P0]) (s' := s) rfl ?_
      refine fu_step (fu_getR rfl hP0.1 rfl rfl) ?_
      refine fu_go 1 (pc' := 13) (ls' := [.ref P0, .int a1]) (st' := [.int a1, .ref (P0 + 10)]) (s' := s) rfl ?_
      refine fu_guard (fun h3 => fu_step (fu_ldI rfl hP0.2.2.2.2.2.2.2.2.2.2.1 h3) ?_)
      refine fu_go 1 (pc' := 18) (ls' := [.ref P0, .int a1]) (st' := [.int (s.1 (P0 + 10) (Int32.toNatClampNeg a1))]) (s' := s) rfl ?_
      exact fu_leaf rfl ⟨.inl rfl, .inl rfl, trivial⟩
    · refine fu_go 1 (pc' := 18) (ls' := [.ref P0, .int a1]) (st' := [.int (-1 : Int32)]) (s' := s) rfl ?_
      exact fu_leaf rfl ⟨.inl rfl, .inl rfl, trivial⟩
  show fu_J _ _ (fc_X d (some .int) k_X4_lostAtOf 18 [am_U, am_U] [.int j1] s)
  exact fu_iret rfl rfl
/-! X4_upAtOf -/
set_option maxRecDepth 100000 in
theorem e_X4_upAtOf (d : Nat) (hd : 3 ≤ d) (s : fu_S) (P0 : Nat) (hP0 : fc_is3 P0) (a1 : Int32) : fu_J (f_X4_upAtOf s P0 a1) (fun r => some (some (.int r), s)) (am_D (fu_ho fc_sh) am_m d 83 [.ref P0, .int a1] s) := by
  obtain ⟨d, rfl⟩ : ∃ e, d = e + 1 := ⟨d - 1, by omega⟩
  refine fu_enter (ls := [.ref P0, .int a1]) am_at_X4_upAtOf rfl rfl ?_
  show fu_J _ _ (fc_X d (some .int) k_X4_upAtOf 0 [.ref P0, .int a1] [] s)
  unfold f_X4_upAtOf
  refine fu_go 2 (pc' := 2) (ls' := [.ref P0, .int a1]) (st' := [.int a1, .ref P0]) (s' := s) rfl ?_
  refine fu_step (fu_cV rfl rfl rfl rfl rfl (fu_recv hP0.1 am_at_X4_hasThing rfl) (fu_eq (e_X4_hasThing d (by omega) s P0 hP0 a1) rfl)) ?_
  show fu_J _ _ (fc_X d (some .int) k_X4_upAtOf 5 [.ref P0, .int a1] [.int (fu_b (f_X4_hasThing s P0 a1))] s)
  refine fu_bind (V := fun j1 : Int32 => fc_X d (some .int) k_X4_upAtOf 24 [am_U, am_U] [.int j1] s) ?_ (fun j1 => ?_)
  · refine fu_ite (fun h2 => fu_step (fu_ib_eq_t rfl h2) ?_) (fun h2 => fu_step (fu_ib_eq_f rfl h2) ?_)
    · refine fu_go 1 (pc' := 9) (ls' := [.ref P0, .int a1]) (st' := [.ref P0]) (s' := s) rfl ?_
      refine fu_step (fu_getR rfl hP0.1 rfl rfl) ?_
      refine fu_go 1 (pc' := 13) (ls' := [.ref P0, .int a1]) (st' := [.int a1, .ref (P0 + 10)]) (s' := s) rfl ?_
      refine fu_guard (fun h3 => fu_step (fu_ldI rfl hP0.2.2.2.2.2.2.2.2.2.2.1 h3) ?_)
      refine fu_go 2 (pc' := 16) (ls' := [.ref P0, .int a1]) (st' := [.int a1, .ref P0, .int (s.1 (P0 + 10) (Int32.toNatClampNeg a1))]) (s' := s) rfl ?_
      refine fu_bind (fu_cVJ rfl rfl rfl rfl rfl (fu_recv hP0.1 am_at_X4_delayOf rfl) (e_X4_delayOf d (by omega) s P0 hP0 a1)) (fun r4 => ?_)
      show fu_J _ _ (fc_X d (some .int) k_X4_upAtOf 19 [.ref P0, .int a1] [.int r4, .int (s.1 (P0 + 10) (Int32.toNatClampNeg a1))] s)
      refine fu_go 2 (pc' := 24) (ls' := [.ref P0, .int a1]) (st' := [.int ((s.1 (P0 + 10) (Int32.toNatClampNeg a1)) + r4)]) (s' := s) rfl ?_
      exact fu_leaf rfl ⟨.inl rfl, .inl rfl, trivial⟩
    · refine fu_go 1 (pc' := 24) (ls' := [.ref P0, .int a1]) (st' := [.int (-1 : Int32)]) (s' := s) rfl ?_
      exact fu_leaf rfl ⟨.inl rfl, .inl rfl, trivial⟩
  show fu_J _ _ (fc_X d (some .int) k_X4_upAtOf 24 [am_U, am_U] [.int j1] s)
  exact fu_iret rfl rfl
/-! X4_scratchedAtOf -/
set_option maxRecDepth 100000 in
theorem e_X4_scratchedAtOf (d : Nat) (hd : 2 ≤ d) (s : fu_S) (P0 : Nat) (hP0 : fc_is3 P0) (a1 : Int32) : fu_J (f_X4_scratchedAtOf s P0 a1) (fun r => some (some (.int r), s)) (am_D (fu_ho fc_sh) am_m d 84 [.ref P0, .int a1] s) := by
  obtain ⟨d, rfl⟩ : ∃ e, d = e + 1 := ⟨d - 1, by omega⟩
  refine fu_enter (ls := [.ref P0, .int a1]) am_at_X4_scratchedAtOf rfl rfl ?_
  show fu_J _ _ (fc_X d (some .int) k_X4_scratchedAtOf 0 [.ref P0, .int a1] [] s)
  unfold f_X4_scratchedAtOf
  refine fu_go 2 (pc' := 2) (ls' := [.ref P0, .int a1]) (st' := [.int a1, .ref P0]) (s' := s) rfl ?_
  refine fu_step (fu_cV rfl rfl rfl rfl rfl (fu_recv hP0.1 am_at_X4_hasThing rfl) (fu_eq (e_X4_hasThing d (by omega) s P0 hP0 a1) rfl)) ?_
  show fu_J _ _ (fc_X d (some .int) k_X4_scratchedAtOf 5 [.ref P0, .int a1] [.int (fu_b (f_X4_hasThing s P0 a1))] s)
  refine fu_bind (V := fun j1 : Int32 => fc_X d (some .int) k_X4_scratchedAtOf 18 [am_U, am_U] [.int j1] s) ?_ (fun j1 => ?_)
  · refine fu_ite (fun h2 => fu_step (fu_ib_eq_t rfl h2) ?_) (fun h2 => fu_step (fu_ib_eq_f rfl h2) ?_)
    · refine fu_go 1 (pc' := 9) (ls' := [.ref P0, .int a1]) (st' := [.ref P0]) (s' := s) rfl ?_
      refine fu_step (fu_getR rfl hP0.1 rfl rfl) ?_
      refine fu_go 1 (pc' := 13) (ls' := [.ref P0, .int a1]) (st' := [.int a1, .ref (P0 + 11)]) (s' := s) rfl ?_
      refine fu_guard (fun h3 => fu_step (fu_ldI rfl hP0.2.2.2.2.2.2.2.2.2.2.2.1 h3) ?_)
      refine fu_go 1 (pc' := 18) (ls' := [.ref P0, .int a1]) (st' := [.int (s.1 (P0 + 11) (Int32.toNatClampNeg a1))]) (s' := s) rfl ?_
      exact fu_leaf rfl ⟨.inl rfl, .inl rfl, trivial⟩
    · refine fu_go 1 (pc' := 18) (ls' := [.ref P0, .int a1]) (st' := [.int (-1 : Int32)]) (s' := s) rfl ?_
      exact fu_leaf rfl ⟨.inl rfl, .inl rfl, trivial⟩
  show fu_J _ _ (fc_X d (some .int) k_X4_scratchedAtOf 18 [am_U, am_U] [.int j1] s)
  exact fu_iret rfl rfl
/-! X4_foundAtOf -/
set_option maxRecDepth 100000 in
theorem e_X4_foundAtOf (d : Nat) (hd : 2 ≤ d) (s : fu_S) (P0 : Nat) (hP0 : fc_is3 P0) (a1 : Int32) : fu_J (f_X4_foundAtOf s P0 a1) (fun r => some (some (.int r), s)) (am_D (fu_ho fc_sh) am_m d 85 [.ref P0, .int a1] s) := by
  obtain ⟨d, rfl⟩ : ∃ e, d = e + 1 := ⟨d - 1, by omega⟩
  refine fu_enter (ls := [.ref P0, .int a1]) am_at_X4_foundAtOf rfl rfl ?_
  show fu_J _ _ (fc_X d (some .int) k_X4_foundAtOf 0 [.ref P0, .int a1] [] s)
  unfold f_X4_foundAtOf
  refine fu_go 2 (pc' := 2) (ls' := [.ref P0, .int a1]) (st' := [.int a1, .ref P0]) (s' := s) rfl ?_
  refine fu_step (fu_cV rfl rfl rfl rfl rfl (fu_recv hP0.1 am_at_X4_hasThing rfl) (fu_eq (e_X4_hasThing d (by omega) s P0 hP0 a1) rfl)) ?_
  show fu_J _ _ (fc_X d (some .int) k_X4_foundAtOf 5 [.ref P0, .int a1] [.int (fu_b (f_X4_hasThing s P0 a1))] s)
  refine fu_bind (V := fun j1 : Int32 => fc_X d (some .int) k_X4_foundAtOf 18 [am_U, am_U] [.int j1] s) ?_ (fun j1 => ?_)
  · refine fu_ite (fun h2 => fu_step (fu_ib_eq_t rfl h2) ?_) (fun h2 => fu_step (fu_ib_eq_f rfl h2) ?_)
    · refine fu_go 1 (pc' := 9) (ls' := [.ref P0, .int a1]) (st' := [.ref P0]) (s' := s) rfl ?_
      refine fu_step (fu_getR rfl hP0.1 rfl rfl) ?_
      refine fu_go 1 (pc' := 13) (ls' := [.ref P0, .int a1]) (st' := [.int a1, .ref (P0 + 12)]) (s' := s) rfl ?_
      refine fu_guard (fun h3 => fu_step (fu_ldI rfl hP0.2.2.2.2.2.2.2.2.2.2.2.2 h3) ?_)
      refine fu_go 1 (pc' := 18) (ls' := [.ref P0, .int a1]) (st' := [.int (s.1 (P0 + 12) (Int32.toNatClampNeg a1))]) (s' := s) rfl ?_
      exact fu_leaf rfl ⟨.inl rfl, .inl rfl, trivial⟩
    · refine fu_go 1 (pc' := 18) (ls' := [.ref P0, .int a1]) (st' := [.int (-1 : Int32)]) (s' := s) rfl ?_
      exact fu_leaf rfl ⟨.inl rfl, .inl rfl, trivial⟩
  show fu_J _ _ (fc_X d (some .int) k_X4_foundAtOf 18 [am_U, am_U] [.int j1] s)
  exact fu_iret rfl rfl
/-! X4_soonestFound -/
set_option maxRecDepth 100000 in
theorem e_X4_soonestFound (d : Nat) (hd : 4 ≤ d) (s : fu_S) (P0 : Nat) (hP0 : fc_is3 P0) (a1 : Int32) : fu_J (f_X4_soonestFound s P0 a1) (fun r => some (some (.int r), s)) (am_D (fu_ho fc_sh) am_m d 92 [.ref P0, .int a1] s) := by
  obtain ⟨d, rfl⟩ : ∃ e, d = e + 1 := ⟨d - 1, by omega⟩
  refine fu_enter (ls := [.ref P0, .int a1]) am_at_X4_soonestFound rfl rfl ?_
  show fu_J _ _ (fc_X d (some .int) k_X4_soonestFound 0 [.ref P0, .int a1] [] s)
  unfold f_X4_soonestFound
  refine fu_go 2 (pc' := 2) (ls' := [.ref P0, .int a1]) (st' := [.int a1, .ref P0]) (s' := s) rfl ?_
  refine fu_bind (fu_cVJ rfl rfl rfl rfl rfl (fu_recv hP0.1 am_at_X4_isScratched rfl) (e_X4_isScratched d (by omega) s P0 hP0 a1)) (fun r1 => ?_)
  show fu_J _ _ (fc_X d (some .int) k_X4_soonestFound 5 [.ref P0, .int a1] [.int (fu_b r1)] s)
  refine fu_bind (V := fun j2 : Int32 => fc_X d (some .int) k_X4_soonestFound 34 [am_U, am_U] [.int j2] s) ?_ (fun j2 => ?_)
  · refine fu_ite (fun h3 => fu_step (fu_ib_eq_t rfl h3) ?_) (fun h3 => fu_step (fu_ib_eq_f rfl h3) ?_)
    · refine fu_go 2 (pc' := 10) (ls' := [.ref P0, .int a1]) (st' := [.int a1, .ref P0]) (s' := s) rfl ?_
      refine fu_bind (fu_cVJ rfl rfl rfl rfl rfl (fu_recv hP0.1 am_at_X4_foundAtOf rfl) (e_X4_foundAtOf d (by omega) s P0 hP0 a1)) (fun r4 => ?_)
      show fu_J _ _ (fc_X d (some .int) k_X4_soonestFound 13 [.ref P0, .int a1] [.int r4] s)
      refine fu_go 1 (pc' := 34) (ls' := [.ref P0, .int a1]) (st' := [.int r4]) (s' := s) rfl ?_
      exact fu_leaf rfl ⟨.inl rfl, .inl rfl, trivial⟩
    · refine fu_go 1 (pc' := 17) (ls' := [.ref P0, .int a1]) (st' := [.ref P0]) (s' := s) rfl ?_
      refine fu_step (fu_getI rfl hP0.1 rfl rfl) ?_
      refine fu_go 2 (pc' := 22) (ls' := [.ref P0, .int a1]) (st' := [.int a1, .ref P0, .int (s.1 P0 2)]) (s' := s) rfl ?_
      refine fu_bind (fu_cVJ rfl rfl rfl rfl rfl (fu_recv hP0.1 am_at_X4_upAtOf rfl) (e_X4_upAtOf d (by omega) s P0 hP0 a1)) (fun r5 => ?_)
      show fu_J _ _ (fc_X d (some .int) k_X4_soonestFound 25 [.ref P0, .int a1] [.int r5, .int (s.1 P0 2)] s)
      refine fu_step (fu_prim rfl rfl rfl rfl) ?_
      refine fu_go 2 (pc' := 30) (ls' := [.ref P0, .int a1]) (st' := [.int a1, .ref P0, .int (fu_mx (s.1 P0 2) r5)]) (s' := s) rfl ?_
      refine fu_bind (fu_cVJ rfl rfl rfl rfl rfl (fu_recv hP0.1 am_at_X4_delayOf rfl) (e_X4_delayOf d (by omega) s P0 hP0 a1)) (fun r6 => ?_)
      show fu_J _ _ (fc_X d (some .int) k_X4_soonestFound 33 [.ref P0, .int a1] [.int r6, .int (fu_mx (s.1 P0 2) r5)] s)
      refine fu_go 1 (pc' := 34) (ls' := [.ref P0, .int a1]) (st' := [.int ((fu_mx (s.1 P0 2) r5) + r6)]) (s' := s) rfl ?_
      exact fu_leaf rfl ⟨.inl rfl, .inl rfl, trivial⟩
  show fu_J _ _ (fc_X d (some .int) k_X4_soonestFound 34 [am_U, am_U] [.int j2] s)
  exact fu_iret rfl rfl
/-! X4_ableSetFor -/
theorem el_X4_ableSetFor_4 (d : Nat) (hd : 3 ≤ d) : ∀ (n : Nat) (s : fu_S) (P0 : Nat) (hP0 : fc_is3 P0) (x1 : Int32) (x2 : Int32) (x3 : Int32), fu_J (l_X4_ableSetFor_4 n s P0 x1 x2 x3) (fun r => fc_X d (some .int) k_X4_ableSetFor 37 [am_U, am_U, .int r, am_U] [] s) (fc_X d (some .int) k_X4_ableSetFor 4 [.ref P0, .int x1, .int x2, .int x3] [] s) := by
  intro n
  induction n with
  | zero => intros; exact fu_none
  | succ n ih =>
    intro s P0 hP0 x1 x2 x3
    rw [l_X4_ableSetFor_4]
    refine fu_go 2 (pc' := 6) (ls' := [.ref P0, .int x1, .int x2, .int x3]) (st' := [.ref P0, .int x3]) (s' := s) rfl ?_
    refine fu_step (fu_getI rfl hP0.1 rfl rfl) ?_
    refine fu_ite (fun h1 => fu_step (fu_ic_ge_t rfl h1) ?_) (fun h1 => fu_step (fu_ic_ge_f rfl h1) ?_)
    · refine fu_go 4 (pc' := 16) (ls' := [.ref P0, .int x1, .int x2, .int x3]) (st' := [.int x1, .int x3, .ref P0, .int x2]) (s' := s) rfl ?_
      refine fu_bind (fu_cVJ rfl rfl rfl rfl rfl (fu_recv hP0.1 am_at_X4_isAble rfl) (e_X4_isAble d (by omega) s P0 hP0 x3 x1)) (fun r2 => ?_)
      show fu_J _ _ (fc_X d (some .int) k_X4_ableSetFor 19 [.ref P0, .int x1, .int x2, .int x3] [.int (fu_b r2), .int x2] s)
      refine fu_bind (V := fun j3 : Int32 => fc_X d (some .int) k_X4_ableSetFor 29 [.ref P0, .int x1, am_U, .int x3] [.int j3, .int x2] s) ?_ (fun j3 => ?_)
      · refine fu_ite (fun h4 => fu_step (fu_ib_eq_t rfl h4) ?_) (fun h4 => fu_step (fu_ib_eq_f rfl h4) ?_)
        · refine fu_go 4 (pc' := 29) (ls' := [.ref P0, .int x1, .int x2, .int x3]) (st' := [.int ((1 : Int32) <<< (x3 &&& 31)), .int x2]) (s' := s) rfl ?_
          exact fu_leaf rfl ⟨.inr rfl, .inr rfl, .inl rfl, .inr rfl, trivial⟩
        · refine fu_go 1 (pc' := 29) (ls' := [.ref P0, .int x1, .int x2, .int x3]) (st' := [.int (0 : Int32), .int x2]) (s' := s) rfl ?_
          exact fu_leaf rfl ⟨.inr rfl, .inr rfl, .inl rfl, .inr rfl, trivial⟩
      show fu_J _ _ (fc_X d (some .int) k_X4_ableSetFor 29 [.ref P0, .int x1, am_U, .int x3] [.int j3, .int x2] s)
      refine fu_go 4 (pc' := 4) (ls' := [.ref P0, .int x1, .int (x2 ||| j3), .int (x3 + (1 : Int32))]) (st' := []) (s' := s) rfl ?_
      exact fu_drop (ls' := [.ref P0, .int x1, .int (x2 ||| j3), .int (x3 + (1 : Int32))]) ⟨.inr rfl, .inr rfl, .inr rfl, .inr rfl, trivial⟩ (ih s P0 hP0 x1 (x2 ||| j3) (x3 + (1 : Int32)))
    · exact fu_leaf rfl ⟨.inl rfl, .inl rfl, .inr rfl, .inl rfl, trivial⟩
set_option maxRecDepth 100000 in
theorem e_X4_ableSetFor (d : Nat) (hd : 4 ≤ d) (s : fu_S) (P0 : Nat) (hP0 : fc_is3 P0) (a1 : Int32) : fu_J (f_X4_ableSetFor s P0 a1) (fun r => some (some (.int r), s)) (am_D (fu_ho fc_sh) am_m d 95 [.ref P0, .int a1] s) := by
  obtain ⟨d, rfl⟩ : ∃ e, d = e + 1 := ⟨d - 1, by omega⟩
  refine fu_enter (ls := [.ref P0, .int a1, am_U, am_U]) am_at_X4_ableSetFor rfl rfl ?_
  show fu_J _ _ (fc_X d (some .int) k_X4_ableSetFor 0 [.ref P0, .int a1, am_U, am_U] [] s)
  unfold f_X4_ableSetFor
  refine fu_go 4 (pc' := 4) (ls' := [.ref P0, .int a1, .int (0 : Int32), .int (0 : Int32)]) (st' := []) (s' := s) rfl ?_
  refine fu_drop (ls' := [.ref P0, .int a1, .int (0 : Int32), .int (0 : Int32)]) ⟨.inr rfl, .inr rfl, .inr rfl, .inr rfl, trivial⟩ ?_
  refine fu_bind (el_X4_ableSetFor_4 d (by omega) fu_N s P0 hP0 a1 (0 : Int32) (0 : Int32)) (fun r5 => ?_)
  show fu_J _ _ (fc_X d (some .int) k_X4_ableSetFor 37 [am_U, am_U, .int r5, am_U] [] s)
  refine fu_go 1 (pc' := 38) (ls' := [am_U, am_U, .int r5, am_U]) (st' := [.int r5]) (s' := s) rfl ?_
  exact fu_iret rfl rfl
/-! X4_upSet -/
theorem el_X4_upSet_4 (d : Nat) (hd : 2 ≤ d) : ∀ (n : Nat) (s : fu_S) (P0 : Nat) (hP0 : fc_is3 P0) (x1 : Int32) (x2 : Int32), fu_J (l_X4_upSet_4 n s P0 x1 x2) (fun r => fc_X d (some .int) k_X4_upSet 36 [am_U, .int r, am_U] [] s) (fc_X d (some .int) k_X4_upSet 4 [.ref P0, .int x1, .int x2] [] s) := by
  intro n
  induction n with
  | zero => intros; exact fu_none
  | succ n ih =>
    intro s P0 hP0 x1 x2
    rw [l_X4_upSet_4]
    refine fu_go 2 (pc' := 6) (ls' := [.ref P0, .int x1, .int x2]) (st' := [.ref P0, .int x2]) (s' := s) rfl ?_
    refine fu_step (fu_getI rfl hP0.1 rfl rfl) ?_
    refine fu_ite (fun h1 => fu_step (fu_ic_ge_t rfl h1) ?_) (fun h1 => fu_step (fu_ic_ge_f rfl h1) ?_)
    · refine fu_go 3 (pc' := 15) (ls' := [.ref P0, .int x1, .int x2]) (st' := [.int x2, .ref P0, .int x1]) (s' := s) rfl ?_
      refine fu_bind (fu_cVJ rfl rfl rfl rfl rfl (fu_recv hP0.1 am_at_X4_isUp rfl) (e_X4_isUp d (by omega) s P0 hP0 x2)) (fun r2 => ?_)
      show fu_J _ _ (fc_X d (some .int) k_X4_upSet 18 [.ref P0, .int x1, .int x2] [.int (fu_b r2), .int x1] s)
      refine fu_bind (V := fun j3 : Int32 => fc_X d (some .int) k_X4_upSet 28 [.ref P0, am_U, .int x2] [.int j3, .int x1] s) ?_ (fun j3 => ?_)
      · refine fu_ite (fun h4 => fu_step (fu_ib_eq_t rfl h4) ?_) (fun h4 => fu_step (fu_ib_eq_f rfl h4) ?_)
        · refine fu_go 4 (pc' := 28) (ls' := [.ref P0, .int x1, .int x2]) (st' := [.int ((1 : Int32) <<< (x2 &&& 31)), .int x1]) (s' := s) rfl ?_
          exact fu_leaf rfl ⟨.inr rfl, .inl rfl, .inr rfl, trivial⟩
        · refine fu_go 1 (pc' := 28) (ls' := [.ref P0, .int x1, .int x2]) (st' := [.int (0 : Int32), .int x1]) (s' := s) rfl ?_
          exact fu_leaf rfl ⟨.inr rfl, .inl rfl, .inr rfl, trivial⟩
      show fu_J _ _ (fc_X d (some .int) k_X4_upSet 28 [.ref P0, am_U, .int x2] [.int j3, .int x1] s)
      refine fu_go 4 (pc' := 4) (ls' := [.ref P0, .int (x1 ||| j3), .int (x2 + (1 : Int32))]) (st' := []) (s' := s) rfl ?_
      exact fu_drop (ls' := [.ref P0, .int (x1 ||| j3), .int (x2 + (1 : Int32))]) ⟨.inr rfl, .inr rfl, .inr rfl, trivial⟩ (ih s P0 hP0 (x1 ||| j3) (x2 + (1 : Int32)))
    · exact fu_leaf rfl ⟨.inl rfl, .inr rfl, .inl rfl, trivial⟩
set_option maxRecDepth 100000 in
theorem e_X4_upSet (d : Nat) (hd : 3 ≤ d) (s : fu_S) (P0 : Nat) (hP0 : fc_is3 P0) : fu_J (f_X4_upSet s P0) (fun r => some (some (.int r), s)) (am_D (fu_ho fc_sh) am_m d 96 [.ref P0] s) := by
  obtain ⟨d, rfl⟩ : ∃ e, d = e + 1 := ⟨d - 1, by omega⟩
  refine fu_enter (ls := [.ref P0, am_U, am_U]) am_at_X4_upSet rfl rfl ?_
  show fu_J _ _ (fc_X d (some .int) k_X4_upSet 0 [.ref P0, am_U, am_U] [] s)
  unfold f_X4_upSet
  refine fu_go 4 (pc' := 4) (ls' := [.ref P0, .int (0 : Int32), .int (0 : Int32)]) (st' := []) (s' := s) rfl ?_
  refine fu_drop (ls' := [.ref P0, .int (0 : Int32), .int (0 : Int32)]) ⟨.inr rfl, .inr rfl, .inr rfl, trivial⟩ ?_
  refine fu_bind (el_X4_upSet_4 d (by omega) fu_N s P0 hP0 (0 : Int32) (0 : Int32)) (fun r5 => ?_)
  show fu_J _ _ (fc_X d (some .int) k_X4_upSet 36 [am_U, .int r5, am_U] [] s)
  refine fu_go 1 (pc' := 37) (ls' := [am_U, .int r5, am_U]) (st' := [.int r5]) (s' := s) rfl ?_
  exact fu_iret rfl rfl
/-! X4_upSetOn -/
theorem el_X4_upSetOn_4 (d : Nat) (hd : 2 ≤ d) : ∀ (n : Nat) (s : fu_S) (P0 : Nat) (hP0 : fc_is3 P0) (x1 : Int32) (x2 : Int32) (x3 : Int32), fu_J (l_X4_upSetOn_4 n s P0 x1 x2 x3) (fun r => fc_X d (some .int) k_X4_upSetOn 45 [am_U, am_U, .int r, am_U] [] s) (fc_X d (some .int) k_X4_upSetOn 4 [.ref P0, .int x1, .int x2, .int x3] [] s) := by
  intro n
  induction n with
  | zero => intros; exact fu_none
  | succ n ih =>
    intro s P0 hP0 x1 x2 x3
    rw [l_X4_upSetOn_4]
    refine fu_go 2 (pc' := 6) (ls' := [.ref P0, .int x1, .int x2, .int x3]) (st' := [.ref P0, .int x3]) (s' := s) rfl ?_
    refine fu_step (fu_getI rfl hP0.1 rfl rfl) ?_
    refine fu_ite (fun h1 => fu_step (fu_ic_ge_t rfl h1) ?_) (fun h1 => fu_step (fu_ic_ge_f rfl h1) ?_)
    · refine fu_go 3 (pc' := 15) (ls' := [.ref P0, .int x1, .int x2, .int x3]) (st' := [.int x3, .ref P0, .int x2]) (s' := s) rfl ?_
      refine fu_bind (fu_cVJ rfl rfl rfl rfl rfl (fu_recv hP0.1 am_at_X4_bearerOf rfl) (e_X4_bearerOf d (by omega) s P0 hP0 x3)) (fun r2 => ?_)
      show fu_J _ _ (fc_X d (some .int) k_X4_upSetOn 18 [.ref P0, .int x1, .int x2, .int x3] [.int r2, .int x2] s)
      refine fu_go 1 (pc' := 19) (ls' := [.ref P0, .int x1, .int x2, .int x3]) (st' := [.int x1, .int r2, .int x2]) (s' := s) rfl ?_
      refine fu_bind (V := fun j3 : Int32 => fc_X d (some .int) k_X4_upSetOn 37 [.ref P0, .int x1, am_U, .int x3] [.int j3, .int x2] s) ?_ (fun j3 => ?_)
      · refine fu_ite (fun h4 => fu_step (fu_ic_ne_t rfl h4) ?_) (fun h4 => fu_step (fu_ic_ne_f rfl h4) ?_)
        · refine fu_go 2 (pc' := 24) (ls' := [.ref P0, .int x1, .int x2, .int x3]) (st' := [.int x3, .ref P0, .int x2]) (s' := s) rfl ?_
          refine fu_bind (fu_cVJ rfl rfl rfl rfl rfl (fu_recv hP0.1 am_at_X4_isUp rfl) (e_X4_isUp d (by omega) s P0 hP0 x3)) (fun r5 => ?_)
          show fu_J _ _ (fc_X d (some .int) k_X4_upSetOn 27 [.ref P0, .int x1, .int x2, .int x3] [.int (fu_b r5), .int x2] s)
          refine fu_ite (fun h6 => fu_step (fu_ib_eq_t rfl h6) ?_) (fun h6 => fu_step (fu_ib_eq_f rfl h6) ?_)
          · refine fu_go 4 (pc' := 37) (ls' := [.ref P0, .int x1, .int x2, .int x3]) (st' := [.int ((1 : Int32) <<< (x3 &&& 31)), .int x2]) (s' := s) rfl ?_
            exact fu_leaf rfl ⟨.inr rfl, .inr rfl, .inl rfl, .inr rfl, trivial⟩
          · refine fu_go 1 (pc' := 37) (ls' := [.ref P0, .int x1, .int x2, .int x3]) (st' := [.int (0 : Int32), .int x2]) (s' := s) rfl ?_
            exact fu_leaf rfl ⟨.inr rfl, .inr rfl, .inl rfl, .inr rfl, trivial⟩
        · refine fu_go 1 (pc' := 37) (ls' := [.ref P0, .int x1, .int x2, .int x3]) (st' := [.int (0 : Int32), .int x2]) (s' := s) rfl ?_
          exact fu_leaf rfl ⟨.inr rfl, .inr rfl, .inl rfl, .inr rfl, trivial⟩
      show fu_J _ _ (fc_X d (some .int) k_X4_upSetOn 37 [.ref P0, .int x1, am_U, .int x3] [.int j3, .int x2] s)
      refine fu_go 4 (pc' := 4) (ls' := [.ref P0, .int x1, .int (x2 ||| j3), .int (x3 + (1 : Int32))]) (st' := []) (s' := s) rfl ?_
      exact fu_drop (ls' := [.ref P0, .int x1, .int (x2 ||| j3), .int (x3 + (1 : Int32))]) ⟨.inr rfl, .inr rfl, .inr rfl, .inr rfl, trivial⟩ (ih s P0 hP0 x1 (x2 ||| j3) (x3 + (1 : Int32)))
    · exact fu_leaf rfl ⟨.inl rfl, .inl rfl, .inr rfl, .inl rfl, trivial⟩
set_option maxRecDepth 100000 in
theorem e_X4_upSetOn (d : Nat) (hd : 3 ≤ d) (s : fu_S) (P0 : Nat) (hP0 : fc_is3 P0) (a1 : Int32) : fu_J (f_X4_upSetOn s P0 a1) (fun r => some (some (.int r), s)) (am_D (fu_ho fc_sh) am_m d 97 [.ref P0, .int a1] s) := by
  obtain ⟨d, rfl⟩ : ∃ e, d = e + 1 := ⟨d - 1, by omega⟩
  refine fu_enter (ls := [.ref P0, .int a1, am_U, am_U]) am_at_X4_upSetOn rfl rfl ?_
  show fu_J _ _ (fc_X d (some .int) k_X4_upSetOn 0 [.ref P0, .int a1, am_U, am_U] [] s)
  unfold f_X4_upSetOn
  refine fu_go 4 (pc' := 4) (ls' := [.ref P0, .int a1, .int (0 : Int32), .int (0 : Int32)]) (st' := []) (s' := s) rfl ?_
  refine fu_drop (ls' := [.ref P0, .int a1, .int (0 : Int32), .int (0 : Int32)]) ⟨.inr rfl, .inr rfl, .inr rfl, .inr rfl, trivial⟩ ?_
  refine fu_bind (el_X4_upSetOn_4 d (by omega) fu_N s P0 hP0 a1 (0 : Int32) (0 : Int32)) (fun r7 => ?_)
  show fu_J _ _ (fc_X d (some .int) k_X4_upSetOn 45 [am_U, am_U, .int r7, am_U] [] s)
  refine fu_go 1 (pc' := 46) (ls' := [am_U, am_U, .int r7, am_U]) (st' := [.int r7]) (s' := s) rfl ?_
  exact fu_iret rfl rfl
/-! X4_upSetFor -/
theorem el_X4_upSetFor_4 (d : Nat) (hd : 4 ≤ d) : ∀ (n : Nat) (s : fu_S) (P0 : Nat) (hP0 : fc_is3 P0) (x1 : Int32) (x2 : Int32) (x3 : Int32), fu_J (l_X4_upSetFor_4 n s P0 x1 x2 x3) (fun r => fc_X d (some .int) k_X4_upSetFor 37 [am_U, am_U, .int r, am_U] [] s) (fc_X d (some .int) k_X4_upSetFor 4 [.ref P0, .int x1, .int x2, .int x3] [] s) := by
  intro n
  induction n with
  | zero => intros; exact fu_none
  | succ n ih =>
    intro s P0 hP0 x1 x2 x3
    rw [l_X4_upSetFor_4]
    refine fu_go 2 (pc' := 6) (ls' := [.ref P0, .int x1, .int x2, .int x3]) (st' := [.ref P0, .int x3]) (s' := s) rfl ?_
    refine fu_step (fu_getI rfl hP0.1 rfl rfl) ?_
    refine fu_ite (fun h1 => fu_step (fu_ic_ge_t rfl h1) ?_) (fun h1 => fu_step (fu_ic_ge_f rfl h1) ?_)
    · refine fu_go 4 (pc' := 16) (ls' := [.ref P0, .int x1, .int x2, .int x3]) (st' := [.int x3, .int x1, .ref P0, .int x2]) (s' := s) rfl ?_
      refine fu_bind (fu_cVJ rfl rfl rfl rfl rfl (fu_recv hP0.1 am_at_X4_canScratchNow rfl) (e_X4_canScratchNow d (by omega) s P0 hP0 x1 x3)) (fun r2 => ?_)
      show fu_J _ _ (fc_X d (some .int) k_X4_upSetFor 19 [.ref P0, .int x1, .int x2, .int x3] [.int (fu_b r2), .int x2] s)
      refine fu_bind (V := fun j3 : Int32 => fc_X d (some .int) k_X4_upSetFor 29 [.ref P0, .int x1, am_U, .int x3] [.int j3, .int x2] s) ?_ (fun j3 => ?_)
      · refine fu_ite (fun h4 => fu_step (fu_ib_eq_t rfl h4) ?_) (fun h4 => fu_step (fu_ib_eq_f rfl h4) ?_)
        · refine fu_go 4 (pc' := 29) (ls' := [.ref P0, .int x1, .int x2, .int x3]) (st' := [.int ((1 : Int32) <<< (x3 &&& 31)), .int x2]) (s' := s) rfl ?_
          exact fu_leaf rfl ⟨.inr rfl, .inr rfl, .inl rfl, .inr rfl, trivial⟩
        · refine fu_go 1 (pc' := 29) (ls' := [.ref P0, .int x1, .int x2, .int x3]) (st' := [.int (0 : Int32), .int x2]) (s' := s) rfl ?_
          exact fu_leaf rfl ⟨.inr rfl, .inr rfl, .inl rfl, .inr rfl, trivial⟩
      show fu_J _ _ (fc_X d (some .int) k_X4_upSetFor 29 [.ref P0, .int x1, am_U, .int x3] [.int j3, .int x2] s)
      refine fu_go 4 (pc' := 4) (ls' := [.ref P0, .int x1, .int (x2 ||| j3), .int (x3 + (1 : Int32))]) (st' := []) (s' := s) rfl ?_
      exact fu_drop (ls' := [.ref P0, .int x1, .int (x2 ||| j3), .int (x3 + (1 : Int32))]) ⟨.inr rfl, .inr rfl, .inr rfl, .inr rfl, trivial⟩ (ih s P0 hP0 x1 (x2 ||| j3) (x3 + (1 : Int32)))
    · exact fu_leaf rfl ⟨.inl rfl, .inl rfl, .inr rfl, .inl rfl, trivial⟩
set_option maxRecDepth 100000 in
theorem e_X4_upSetFor (d : Nat) (hd : 5 ≤ d) (s : fu_S) (P0 : Nat) (hP0 : fc_is3 P0) (a1 : Int32) : fu_J (f_X4_upSetFor s P0 a1) (fun r => some (some (.int r), s)) (am_D (fu_ho fc_sh) am_m d 98 [.ref P0, .int a1] s) := by
  obtain ⟨d, rfl⟩ : ∃ e, d = e + 1 := ⟨d - 1, by omega⟩
  refine fu_enter (ls := [.ref P0, .int a1, am_U, am_U]) am_at_X4_upSetFor rfl rfl ?_
  show fu_J _ _ (fc_X d (some .int) k_X4_upSetFor 0 [.ref P0, .int a1, am_U, am_U] [] s)
  unfold f_X4_upSetFor
  refine fu_go 4 (pc' := 4) (ls' := [.ref P0, .int a1, .int (0 : Int32), .int (0 : Int32)]) (st' := []) (s' := s) rfl ?_
  refine fu_drop (ls' := [.ref P0, .int a1, .int (0 : Int32), .int (0 : Int32)]) ⟨.inr rfl, .inr rfl, .inr rfl, .inr rfl, trivial⟩ ?_
  refine fu_bind (el_X4_upSetFor_4 d (by omega) fu_N s P0 hP0 a1 (0 : Int32) (0 : Int32)) (fun r5 => ?_)
  show fu_J _ _ (fc_X d (some .int) k_X4_upSetFor 37 [am_U, am_U, .int r5, am_U] [] s)
  refine fu_go 1 (pc' := 38) (ls' := [am_U, am_U, .int r5, am_U]) (st' := [.int r5]) (s' := s) rfl ?_
  exact fu_iret rfl rfl
/-! X4_ownSetOf -/
theorem el_X4_ownSetOf_4 (d : Nat) (hd : 2 ≤ d) : ∀ (n : Nat) (s : fu_S) (P0 : Nat) (hP0 : fc_is3 P0) (x1 : Int32) (x2 : Int32) (x3 : Int32), fu_J (l_X4_ownSetOf_4 n s P0 x1 x2 x3) (fun r => fc_X d (some .int) k_X4_ownSetOf 37 [am_U, am_U, .int r, am_U] [] s) (fc_X d (some .int) k_X4_ownSetOf 4 [.ref P0, .int x1, .int x2, .int x3] [] s) := by
  intro n
  induction n with
  | zero => intros; exact fu_none
  | succ n ih =>
    intro s P0 hP0 x1 x2 x3
    rw [l_X4_ownSetOf_4]
    refine fu_go 2 (pc' := 6) (ls' := [.ref P0, .int x1, .int x2, .int x3]) (st' := [.ref P0, .int x3]) (s' := s) rfl ?_
    refine fu_step (fu_getI rfl hP0.1 rfl rfl) ?_
    refine fu_ite (fun h1 => fu_step (fu_ic_ge_t rfl h1) ?_) (fun h1 => fu_step (fu_ic_ge_f rfl h1) ?_)
    · refine fu_go 3 (pc' := 15) (ls' := [.ref P0, .int x1, .int x2, .int x3]) (st' := [.int x3, .ref P0, .int x2]) (s' := s) rfl ?_
      refine fu_bind (fu_cVJ rfl rfl rfl rfl rfl (fu_recv hP0.1 am_at_X4_ownerOf rfl) (e_X4_ownerOf d (by omega) s P0 hP0 x3)) (fun r2 => ?_)
      show fu_J _ _ (fc_X d (some .int) k_X4_ownSetOf 18 [.ref P0, .int x1, .int x2, .int x3] [.int r2, .int x2] s)
      refine fu_go 1 (pc' := 19) (ls' := [.ref P0, .int x1, .int x2, .int x3]) (st' := [.int x1, .int r2, .int x2]) (s' := s) rfl ?_
      refine fu_bind (V := fun j3 : Int32 => fc_X d (some .int) k_X4_ownSetOf 29 [.ref P0, .int x1, am_U, .int x3] [.int j3, .int x2] s) ?_ (fun j3 => ?_)
      · refine fu_ite (fun h4 => fu_step (fu_ic_ne_t rfl h4) ?_) (fun h4 => fu_step (fu_ic_ne_f rfl h4) ?_)
        · refine fu_go 4 (pc' := 29) (ls' := [.ref P0, .int x1, .int x2, .int x3]) (st' := [.int ((1 : Int32) <<< (x3 &&& 31)), .int x2]) (s' := s) rfl ?_
          exact fu_leaf rfl ⟨.inr rfl, .inr rfl, .inl rfl, .inr rfl, trivial⟩
        · refine fu_go 1 (pc' := 29) (ls' := [.ref P0, .int x1, .int x2, .int x3]) (st' := [.int (0 : Int32), .int x2]) (s' := s) rfl ?_
          exact fu_leaf rfl ⟨.inr rfl, .inr rfl, .inl rfl, .inr rfl, trivial⟩
      show fu_J _ _ (fc_X d (some .int) k_X4_ownSetOf 29 [.ref P0, .int x1, am_U, .int x3] [.int j3, .int x2] s)
      refine fu_go 4 (pc' := 4) (ls' := [.ref P0, .int x1, .int (x2 ||| j3), .int (x3 + (1 : Int32))]) (st' := []) (s' := s) rfl ?_
      exact fu_drop (ls' := [.ref P0, .int x1, .int (x2 ||| j3), .int (x3 + (1 : Int32))]) ⟨.inr rfl, .inr rfl, .inr rfl, .inr rfl, trivial⟩ (ih s P0 hP0 x1 (x2 ||| j3) (x3 + (1 : Int32)))
    · exact fu_leaf rfl ⟨.inl rfl, .inl rfl, .inr rfl, .inl rfl, trivial⟩
set_option maxRecDepth 100000 in
theorem e_X4_ownSetOf (d : Nat) (hd : 3 ≤ d) (s : fu_S) (P0 : Nat) (hP0 : fc_is3 P0) (a1 : Int32) : fu_J (f_X4_ownSetOf s P0 a1) (fun r => some (some (.int r), s)) (am_D (fu_ho fc_sh) am_m d 99 [.ref P0, .int a1] s) := by
  obtain ⟨d, rfl⟩ : ∃ e, d = e + 1 := ⟨d - 1, by omega⟩
  refine fu_enter (ls := [.ref P0, .int a1, am_U, am_U]) am_at_X4_ownSetOf rfl rfl ?_
  show fu_J _ _ (fc_X d (some .int) k_X4_ownSetOf 0 [.ref P0, .int a1, am_U, am_U] [] s)
  unfold f_X4_ownSetOf
  refine fu_go 4 (pc' := 4) (ls' := [.ref P0, .int a1, .int (0 : Int32), .int (0 : Int32)]) (st' := []) (s' := s) rfl ?_
  refine fu_drop (ls' := [.ref P0, .int a1, .int (0 : Int32), .int (0 : Int32)]) ⟨.inr rfl, .inr rfl, .inr rfl, .inr rfl, trivial⟩ ?_
  refine fu_bind (el_X4_ownSetOf_4 d (by omega) fu_N s P0 hP0 a1 (0 : Int32) (0 : Int32)) (fun r5 => ?_)
  show fu_J _ _ (fc_X d (some .int) k_X4_ownSetOf 37 [am_U, am_U, .int r5, am_U] [] s)
  refine fu_go 1 (pc' := 38) (ls' := [am_U, am_U, .int r5, am_U]) (st' := [.int r5]) (s' := s) rfl ?_
  exact fu_iret rfl rfl
/-! X4_foundSet -/
theorem el_X4_foundSet_4 (d : Nat) (hd : 3 ≤ d) : ∀ (n : Nat) (s : fu_S) (P0 : Nat) (hP0 : fc_is3 P0) (x1 : Int32) (x2 : Int32), fu_J (l_X4_foundSet_4 n s P0 x1 x2) (fun r => fc_X d (some .int) k_X4_foundSet 36 [am_U, .int r, am_U] [] s) (fc_X d (some .int) k_X4_foundSet 4 [.ref P0, .int x1, .int x2] [] s) := by
  intro n
  induction n with
  | zero => intros; exact fu_none
  | succ n ih =>
    intro s P0 hP0 x1 x2
    rw [l_X4_foundSet_4]
    refine fu_go 2 (pc' := 6) (ls' := [.ref P0, .int x1, .int x2]) (st' := [.ref P0, .int x2]) (s' := s) rfl ?_
    refine fu_step (fu_getI rfl hP0.1 rfl rfl) ?_
    refine fu_ite (fun h1 => fu_step (fu_ic_ge_t rfl h1) ?_) (fun h1 => fu_step (fu_ic_ge_f rfl h1) ?_)
    · refine fu_go 3 (pc' := 15) (ls' := [.ref P0, .int x1, .int x2]) (st' := [.int x2, .ref P0, .int x1]) (s' := s) rfl ?_
      refine fu_bind (fu_cVJ rfl rfl rfl rfl rfl (fu_recv hP0.1 am_at_X4_isFound rfl) (e_X4_isFound d (by omega) s P0 hP0 x2)) (fun r2 => ?_)
      show fu_J _ _ (fc_X d (some .int) k_X4_foundSet 18 [.ref P0, .int x1, .int x2] [.int (fu_b r2), .int x1] s)
      refine fu_bind (V := fun j3 : Int32 => fc_X d (some .int) k_X4_foundSet 28 [.ref P0, am_U, .int x2] [.int j3, .int x1] s) ?_ (fun j3 => ?_)
      · refine fu_ite (fun h4 => fu_step (fu_ib_eq_t rfl h4) ?_) (fun h4 => fu_step (fu_ib_eq_f rfl h4) ?_)
        · refine fu_go 4 (pc' := 28) (ls' := [.ref P0, .int x1, .int x2]) (st' := [.int ((1 : Int32) <<< (x2 &&& 31)), .int x1]) (s' := s) rfl ?_
          exact fu_leaf rfl ⟨.inr rfl, .inl rfl, .inr rfl, trivial⟩
        · refine fu_go 1 (pc' := 28) (ls' := [.ref P0, .int x1, .int x2]) (st' := [.int (0 : Int32), .int x1]) (s' := s) rfl ?_
          exact fu_leaf rfl ⟨.inr rfl, .inl rfl, .inr rfl, trivial⟩
      show fu_J _ _ (fc_X d (some .int) k_X4_foundSet 28 [.ref P0, am_U, .int x2] [.int j3, .int x1] s)
      refine fu_go 4 (pc' := 4) (ls' := [.ref P0, .int (x1 ||| j3), .int (x2 + (1 : Int32))]) (st' := []) (s' := s) rfl ?_
      exact fu_drop (ls' := [.ref P0, .int (x1 ||| j3), .int (x2 + (1 : Int32))]) ⟨.inr rfl, .inr rfl, .inr rfl, trivial⟩ (ih s P0 hP0 (x1 ||| j3) (x2 + (1 : Int32)))
    · exact fu_leaf rfl ⟨.inl rfl, .inr rfl, .inl rfl, trivial⟩
set_option maxRecDepth 100000 in
theorem e_X4_foundSet (d : Nat) (hd : 4 ≤ d) (s : fu_S) (P0 : Nat) (hP0 : fc_is3 P0) : fu_J (f_X4_foundSet s P0) (fun r => some (some (.int r), s)) (am_D (fu_ho fc_sh) am_m d 101 [.ref P0] s) := by
  obtain ⟨d, rfl⟩ : ∃ e, d = e + 1 := ⟨d - 1, by omega⟩
  refine fu_enter (ls := [.ref P0, am_U, am_U]) am_at_X4_foundSet rfl rfl ?_
  show fu_J _ _ (fc_X d (some .int) k_X4_foundSet 0 [.ref P0, am_U, am_U] [] s)
  unfold f_X4_foundSet
  refine fu_go 4 (pc' := 4) (ls' := [.ref P0, .int (0 : Int32), .int (0 : Int32)]) (st' := []) (s' := s) rfl ?_
  refine fu_drop (ls' := [.ref P0, .int (0 : Int32), .int (0 : Int32)]) ⟨.inr rfl, .inr rfl, .inr rfl, trivial⟩ ?_
  refine fu_bind (el_X4_foundSet_4 d (by omega) fu_N s P0 hP0 (0 : Int32) (0 : Int32)) (fun r5 => ?_)
  show fu_J _ _ (fc_X d (some .int) k_X4_foundSet 36 [am_U, .int r5, am_U] [] s)
  refine fu_go 1 (pc' := 37) (ls' := [am_U, .int r5, am_U]) (st' := [.int r5]) (s' := s) rfl ?_
  exact fu_iret rfl rfl
/-! X5_isThere -/
set_option maxRecDepth 100000 in
theorem e_X5_isThere (d : Nat) (hd : 1 ≤ d) (s : fu_S) (P0 : Nat) (hP0 : fc_is4 P0) : fu_J (some (f_X5_isThere s P0)) (fun r => some (some (.int (fu_b r)), s)) (am_D (fu_ho fc_sh) am_m d 103 [.ref P0] s) := by
  obtain ⟨d, rfl⟩ : ∃ e, d = e + 1 := ⟨d - 1, by omega⟩
  refine fu_enter (ls := [.ref P0]) am_at_X5_isThere rfl rfl ?_
  show fu_J _ _ (fc_X d (some .boolean) k_X5_isThere 0 [.ref P0] [] s)
  unfold f_X5_isThere
  refine fu_go 1 (pc' := 1) (ls' := [.ref P0]) (st' := [.ref P0]) (s' := s) rfl ?_
  refine fu_step (fu_getB rfl hP0.1 rfl rfl) ?_
  exact fu_bret (b := (fu_tb (s.1 P0 6))) rfl rfl
/-! X5_steps -/
set_option maxRecDepth 100000 in
theorem e_X5_steps (d : Nat) (hd : 1 ≤ d) (s : fu_S) (P0 : Nat) (hP0 : fc_is4 P0) : fu_J (some (f_X5_steps s P0)) (fun r => some (some (.int r), s)) (am_D (fu_ho fc_sh) am_m d 105 [.ref P0] s) := by
  obtain ⟨d, rfl⟩ : ∃ e, d = e + 1 := ⟨d - 1, by omega⟩
  refine fu_enter (ls := [.ref P0]) am_at_X5_steps rfl rfl ?_
  show fu_J _ _ (fc_X d (some .int) k_X5_steps 0 [.ref P0] [] s)
  unfold f_X5_steps
  refine fu_go 1 (pc' := 1) (ls' := [.ref P0]) (st' := [.ref P0]) (s' := s) rfl ?_
  refine fu_step (fu_getI rfl hP0.1 rfl rfl) ?_
  exact fu_iret rfl rfl
/-! X5_forget -/
set_option maxRecDepth 100000 in
theorem e_X5_forget (d : Nat) (hd : 1 ≤ d) (s : fu_S) (P0 : Nat) (hP0 : fc_is4 P0) : fu_J (some (f_X5_forget s P0)) (fun r => some (none, r)) (am_D (fu_ho fc_sh) am_m d 106 [.ref P0] s) := by
  obtain ⟨d, rfl⟩ : ∃ e, d = e + 1 := ⟨d - 1, by omega⟩
  refine fu_enter (ls := [.ref P0]) am_at_X5_forget rfl rfl ?_
  show fu_J _ _ (fc_X d none k_X5_forget 0 [.ref P0] [] s)
  unfold f_X5_forget
  refine fu_go 2 (pc' := 2) (ls' := [.ref P0]) (st' := [.int (0 : Int32), .ref P0]) (s' := s) rfl ?_
  refine fu_letsS (b := (fu_pi s P0 4 (0 : Int32))) (fu_putI rfl hP0.1 rfl rfl) (fun s1 => ?_)
  refine fu_go 2 (pc' := 7) (ls' := [.ref P0]) (st' := [.int (0 : Int32), .ref P0]) (s' := s1) rfl ?_
  refine fu_letsS (b := (fu_pi s1 P0 5 (0 : Int32))) (fu_putI rfl hP0.1 rfl rfl) (fun s2 => ?_)
  refine fu_go 2 (pc' := 12) (ls' := [.ref P0]) (st' := [.int (0 : Int32), .ref P0]) (s' := s2) rfl ?_
  refine fu_letsS (b := (fu_pi s2 P0 6 (fu_b false))) (fu_putB rfl false hP0.1 rfl rfl) (fun s3 => ?_)
  exact fu_vret rfl rfl
/-! X5_begin -/
set_option maxRecDepth 100000 in
theorem e_X5_begin (d : Nat) (hd : 2 ≤ d) (s : fu_S) (P0 : Nat) (hP0 : fc_is4 P0) : fu_J (some (f_X5_begin s P0)) (fun r => some (none, r)) (am_D (fu_ho fc_sh) am_m d 107 [.ref P0] s) := by
  obtain ⟨d, rfl⟩ : ∃ e, d = e + 1 := ⟨d - 1, by omega⟩
  refine fu_enter (ls := [.ref P0]) am_at_X5_begin rfl rfl ?_
  show fu_J _ _ (fc_X d none k_X5_begin 0 [.ref P0] [] s)
  unfold f_X5_begin
  refine fu_go 1 (pc' := 1) (ls' := [.ref P0]) (st' := [.ref P0]) (s' := s) rfl ?_
  refine fu_letS (fu_cVJ rfl rfl rfl rfl rfl (fu_recv hP0.1 am_at_X5_forget rfl) (e_X5_forget d (by omega) s P0 hP0)) (fun r1 => ?_)
  show fu_J _ _ (fc_X d none k_X5_begin 4 [.ref P0] [] r1)
  refine fu_go 2 (pc' := 6) (ls' := [.ref P0]) (st' := [.int (1 : Int32), .ref P0]) (s' := r1) rfl ?_
  refine fu_letsS (b := (fu_pi r1 P0 6 (fu_b true))) (fu_putB rfl true hP0.1 rfl rfl) (fun s2 => ?_)
  exact fu_vret rfl rfl
/-! X5_addLine -/
set_option maxRecDepth 100000 in
theorem e_X5_addLine (d : Nat) (hd : 1 ≤ d) (s : fu_S) (P0 : Nat) (hP0 : fc_is4 P0) (a1 : Int32) (a2 : Int32) (a3 : Int32) (a4 : Int32) : fu_J (f_X5_addLine s P0 a1 a2 a3 a4) (fun r => some (some (.int (fu_b r.1)), r.2)) (am_D (fu_ho fc_sh) am_m d 110 [.ref P0, .int a1, .int a2, .int a3, .int a4] s) := by
  obtain ⟨d, rfl⟩ : ∃ e, d = e + 1 := ⟨d - 1, by omega⟩
  refine fu_enter (ls := [.ref P0, .int a1, .int a2, .int a3, .int a4]) am_at_X5_addLine rfl rfl ?_
  show fu_J _ _ (fc_X d (some .boolean) k_X5_addLine 0 [.ref P0, .int a1, .int a2, .int a3, .int a4] [] s)
  unfold f_X5_addLine
  refine fu_go 1 (pc' := 1) (ls' := [.ref P0, .int a1, .int a2, .int a3, .int a4]) (st' := [.ref P0]) (s' := s) rfl ?_
  refine fu_step (fu_getI rfl hP0.1 rfl rfl) ?_
  refine fu_go 1 (pc' := 6) (ls' := [.ref P0, .int a1, .int a2, .int a3, .int a4]) (st' := [.int (60 : Int32), .int (s.1 P0 4)]) (s' := s) rfl ?_
  refine fu_ite (fun h1 => fu_step (fu_ic_lt_t rfl h1) ?_) (fun h1 => fu_step (fu_ic_lt_f rfl h1) ?_)
  · refine fu_go 1 (pc' := 12) (ls' := [.ref P0, .int a1, .int a2, .int a3, .int a4]) (st' := [.ref P0]) (s' := s) rfl ?_
    refine fu_step (fu_getR rfl hP0.1 rfl rfl) ?_
    refine fu_go 1 (pc' := 16) (ls' := [.ref P0, .int a1, .int a2, .int a3, .int a4]) (st' := [.ref P0, .ref (P0 + 1)]) (s' := s) rfl ?_
    refine fu_step (fu_getI rfl hP0.1 rfl rfl) ?_
    refine fu_go 1 (pc' := 20) (ls' := [.ref P0, .int a1, .int a2, .int a3, .int a4]) (st' := [.int a1, .int (s.1 P0 4), .ref (P0 + 1)]) (s' := s) rfl ?_
    refine fu_guard (fun h3 => fu_lets (b := (fu_pi s (P0 + 1) (Int32.toNatClampNeg (s.1 P0 4)) a1)) (fu_stI rfl hP0.2.1 h3) (fun s2 => ?_))
    refine fu_go 1 (pc' := 22) (ls' := [.ref P0, .int a1, .int a2, .int a3, .int a4]) (st' := [.ref P0]) (s' := s2) rfl ?_
    refine fu_step (fu_getR rfl hP0.1 rfl rfl) ?_
    refine fu_go 1 (pc' := 26) (ls' := [.ref P0, .int a1, .int a2, .int a3, .int a4]) (st' := [.ref P0, .ref (P0 + 2)]) (s' := s2) rfl ?_
    refine fu_step (fu_getI rfl hP0.1 rfl rfl) ?_
    refine fu_go 1 (pc' := 30) (ls' := [.ref P0, .int a1, .int a2, .int a3, .int a4]) (st' := [.int a2, .int (s2.1 P0 4), .ref (P0 + 2)]) (s' := s2) rfl ?_
    refine fu_guard (fun h5 => fu_lets (b := (fu_pi s2 (P0 + 2) (Int32.toNatClampNeg (s2.1 P0 4)) a2)) (fu_stI rfl hP0.2.2.1 h5) (fun s4 => ?_))
    refine fu_go 1 (pc' := 32) (ls' := [.ref P0, .int a1, .int a2, .int a3, .int a4]) (st' := [.ref P0]) (s' := s4) rfl ?_
    refine fu_step (fu_getR rfl hP0.1 rfl rfl) ?_
    refine fu_go 1 (pc' := 36) (ls' := [.ref P0, .int a1, .int a2, .int a3, .int a4]) (st' := [.ref P0, .ref (P0 + 3)]) (s' := s4) rfl ?_
    refine fu_step (fu_getI rfl hP0.1 rfl rfl) ?_
    refine fu_go 1 (pc' := 40) (ls' := [.ref P0, .int a1, .int a2, .int a3, .int a4]) (st' := [.int a3, .int (s4.1 P0 4), .ref (P0 + 3)]) (s' := s4) rfl ?_
    refine fu_guard (fun h7 => fu_lets (b := (fu_pi s4 (P0 + 3) (Int32.toNatClampNeg (s4.1 P0 4)) a3)) (fu_stI rfl hP0.2.2.2.1 h7) (fun s6 => ?_))
    refine fu_go 1 (pc' := 42) (ls' := [.ref P0, .int a1, .int a2, .int a3, .int a4]) (st' := [.ref P0]) (s' := s6) rfl ?_
    refine fu_step (fu_getR rfl hP0.1 rfl rfl) ?_
    refine fu_go 1 (pc' := 46) (ls' := [.ref P0, .int a1, .int a2, .int a3, .int a4]) (st' := [.ref P0, .ref (P0 + 4)]) (s' := s6) rfl ?_
    refine fu_step (fu_getI rfl hP0.1 rfl rfl) ?_
    refine fu_go 1 (pc' := 51) (ls' := [.ref P0, .int a1, .int a2, .int a3, .int a4]) (st' := [.int a4, .int (s6.1 P0 4), .ref (P0 + 4)]) (s' := s6) rfl ?_
    refine fu_guard (fun h9 => fu_lets (b := (fu_pi s6 (P0 + 4) (Int32.toNatClampNeg (s6.1 P0 4)) a4)) (fu_stI rfl hP0.2.2.2.2 h9) (fun s8 => ?_))
    refine fu_go 2 (pc' := 54) (ls' := [.ref P0, .int a1, .int a2, .int a3, .int a4]) (st' := [.ref P0, .ref P0]) (s' := s8) rfl ?_
    refine fu_step (fu_getI rfl hP0.1 rfl rfl) ?_
    refine fu_go 2 (pc' := 59) (ls' := [.ref P0, .int a1, .int a2, .int a3, .int a4]) (st' := [.int ((s8.1 P0 4) + (1 : Int32)), .ref P0]) (s' := s8) rfl ?_
    refine fu_lets (b := (fu_pi s8 P0 4 ((s8.1 P0 4) + (1 : Int32)))) (fu_putI rfl hP0.1 rfl rfl) (fun s10 => ?_)
    refine fu_go 1 (pc' := 63) (ls' := [.ref P0, .int a1, .int a2, .int a3, .int a4]) (st' := [.int (1 : Int32)]) (s' := s10) rfl ?_
    exact fu_bret (b := true) rfl rfl
  · refine fu_go 1 (pc' := 10) (ls' := [.ref P0, .int a1, .int a2, .int a3, .int a4]) (st' := [.int (0 : Int32)]) (s' := s) rfl ?_
    exact fu_bret (b := false) rfl rfl
/-! X5_addStep -/
set_option maxRecDepth 100000 in
theorem e_X5_addStep (d : Nat) (hd : 2 ≤ d) (s : fu_S) (P0 : Nat) (hP0 : fc_is4 P0) (a1 : Int32) (a2 : Int32) (a3 : Int32) : fu_J (f_X5_addStep s P0 a1 a2 a3) (fun r => some (none, r)) (am_D (fu_ho fc_sh) am_m d 108 [.ref P0, .int a1, .int a2, .int a3] s) := by
  obtain ⟨d, rfl⟩ : ∃ e, d = e + 1 := ⟨d - 1, by omega⟩
  refine fu_enter (ls := [.ref P0, .int a1, .int a2, .int a3]) am_at_X5_addStep rfl rfl ?_
  show fu_J _ _ (fc_X d none k_X5_addStep 0 [.ref P0, .int a1, .int a2, .int a3] [] s)
  unfold f_X5_addStep
  refine fu_go 5 (pc' := 5) (ls' := [.ref P0, .int a1, .int a2, .int a3]) (st' := [.int (-1 : Int32), .int a3, .int a2, .int a1, .ref P0]) (s' := s) rfl ?_
  refine fu_bind (fu_cVJ rfl rfl rfl rfl rfl (fu_recv hP0.1 am_at_X5_addLine rfl) (e_X5_addLine d (by omega) s P0 hP0 a1 a2 a3 (-1 : Int32))) (fun r1 => ?_)
  show fu_J _ _ (fc_X d none k_X5_addStep 8 [.ref P0, .int a1, .int a2, .int a3] [.int (fu_b r1.1)] r1.2)
  refine fu_bind (V := fun j2 : fu_S => fc_X d none k_X5_addStep 21 [am_U, am_U, am_U, am_U] [] j2) ?_ (fun j2 => ?_)
  · refine fu_ite (fun h3 => fu_step (fu_ib_eq_t rfl h3) ?_) (fun h3 => fu_step (fu_ib_eq_f rfl h3) ?_)
    · refine fu_go 2 (pc' := 13) (ls' := [.ref P0, .int a1, .int a2, .int a3]) (st' := [.ref P0, .ref P0]) (s' := r1.2) rfl ?_
      refine fu_step (fu_getI rfl hP0.1 rfl rfl) ?_
      refine fu_go 2 (pc' := 18) (ls' := [.ref P0, .int a1, .int a2, .int a3]) (st' := [.int ((r1.2.1 P0 5) + (1 : Int32)), .ref P0]) (s' := r1.2) rfl ?_
      refine fu_lets (b := (fu_pi r1.2 P0 5 ((r1.2.1 P0 5) + (1 : Int32)))) (fu_putI rfl hP0.1 rfl rfl) (fun s4 => ?_)
      exact fu_leaf rfl ⟨.inl rfl, .inl rfl, .inl rfl, .inl rfl, trivial⟩
    · exact fu_leaf rfl ⟨.inl rfl, .inl rfl, .inl rfl, .inl rfl, trivial⟩
  show fu_J _ _ (fc_X d none k_X5_addStep 21 [am_U, am_U, am_U, am_U] [] j2)
  exact fu_vret rfl rfl
/-! X5_addEnd -/
set_option maxRecDepth 100000 in
theorem e_X5_addEnd (d : Nat) (hd : 2 ≤ d) (s : fu_S) (P0 : Nat) (hP0 : fc_is4 P0) (a1 : Int32) : fu_J (f_X5_addEnd s P0 a1) (fun r => some (none, r)) (am_D (fu_ho fc_sh) am_m d 109 [.ref P0, .int a1] s) := by
  obtain ⟨d, rfl⟩ : ∃ e, d = e + 1 := ⟨d - 1, by omega⟩
  refine fu_enter (ls := [.ref P0, .int a1, am_U]) am_at_X5_addEnd rfl rfl ?_
  show fu_J _ _ (fc_X d none k_X5_addEnd 0 [.ref P0, .int a1, am_U] [] s)
  unfold f_X5_addEnd
  refine fu_go 1 (pc' := 1) (ls' := [.ref P0, .int a1, am_U]) (st' := [.ref P0]) (s' := s) rfl ?_
  refine fu_step (fu_getI rfl hP0.1 rfl rfl) ?_
  refine fu_go 2 (pc' := 6) (ls' := [.ref P0, .int a1, .int (s.1 P0 4)]) (st' := [.int a1]) (s' := s) rfl ?_
  refine fu_bind (V := fun j1 : fu_S => fc_X d none k_X5_addEnd 33 [am_U, am_U, am_U] [] j1) ?_ (fun j1 => ?_)
  · refine fu_ite (fun h2 => fu_step (fu_if_lt_t rfl h2) ?_) (fun h2 => fu_step (fu_if_lt_f rfl h2) ?_)
    · exact fu_leaf rfl ⟨.inl rfl, .inl rfl, .inl rfl, trivial⟩
    · refine fu_go 2 (pc' := 11) (ls' := [.ref P0, .int a1, .int (s.1 P0 4)]) (st' := [.int (s.1 P0 4), .int a1]) (s' := s) rfl ?_
      refine fu_ite (fun h3 => fu_step (fu_ic_ge_t rfl h3) ?_) (fun h3 => fu_step (fu_ic_ge_f rfl h3) ?_)
      · refine fu_go 5 (pc' := 20) (ls' := [.ref P0, .int a1, .int (s.1 P0 4)]) (st' := [.int a1, .int (0 : Int32), .int (0 : Int32), .int (120 : Int32), .ref P0]) (s' := s) rfl ?_
        refine fu_bind (fu_cVJ rfl rfl rfl rfl rfl (fu_recv hP0.1 am_at_X5_addLine rfl) (e_X5_addLine d (by omega) s P0 hP0 (120 : Int32) (0 : Int32) (0 : Int32) a1)) (fun r4 => ?_)
        show fu_J _ _ (fc_X d none k_X5_addEnd 23 [.ref P0, .int a1, .int (s.1 P0 4)] [.int (fu_b r4.1)] r4.2)
        refine fu_ite (fun h5 => fu_step (fu_ib_eq_t rfl h5) ?_) (fun h5 => fu_step (fu_ib_eq_f rfl h5) ?_)
        · refine fu_go 1 (pc' := 27) (ls' := [.ref P0, .int a1, .int (s.1 P0 4)]) (st' := [.ref P0]) (s' := r4.2) rfl ?_
          refine fu_step (fu_getR rfl hP0.1 rfl rfl) ?_
          refine fu_go 2 (pc' := 32) (ls' := [.ref P0, .int a1, .int (s.1 P0 4)]) (st' := [.int (s.1 P0 4), .int a1, .ref (P0 + 4)]) (s' := r4.2) rfl ?_
          refine fu_guard (fun h7 => fu_lets (b := (fu_pi r4.2 (P0 + 4) (Int32.toNatClampNeg a1) (s.1 P0 4))) (fu_stI rfl hP0.2.2.2.2 h7) (fun s6 => ?_))
          exact fu_leaf rfl ⟨.inl rfl, .inl rfl, .inl rfl, trivial⟩
        · exact fu_leaf rfl ⟨.inl rfl, .inl rfl, .inl rfl, trivial⟩
      · exact fu_leaf rfl ⟨.inl rfl, .inl rfl, .inl rfl, trivial⟩
  show fu_J _ _ (fc_X d none k_X5_addEnd 33 [am_U, am_U, am_U] [] j1)
  exact fu_vret rfl rfl
/-! X5_copyFrom -/
set_option maxRecDepth 100000 in
theorem e_X5_copyFrom (d : Nat) (hd : 1 ≤ d) (s : fu_S) (P0 : Nat) (hP0 : fc_is4 P0) (P1 : Nat) (hP1 : fc_is4 P1) : fu_J (some (f_X5_copyFrom s P0 P1)) (fun r => some (none, r)) (am_D (fu_ho fc_sh) am_m d 116 [.ref P0, .ref P1] s) := by
  obtain ⟨d, rfl⟩ : ∃ e, d = e + 1 := ⟨d - 1, by omega⟩
  refine fu_enter (ls := [.ref P0, .ref P1]) am_at_X5_copyFrom rfl rfl ?_
  show fu_J _ _ (fc_X d none k_X5_copyFrom 0 [.ref P0, .ref P1] [] s)
  unfold f_X5_copyFrom
  refine fu_go 3 (pc' := 6) (ls' := [.ref P0, .ref P1]) (st' := [.ref P1]) (s' := s) rfl ?_
  refine fu_step (fu_getR rfl hP1.1 rfl rfl) ?_
  refine fu_go 2 (pc' := 11) (ls' := [.ref P0, .ref P1]) (st' := [.ref P0, .int (0 : Int32), .ref (P1 + 1)]) (s' := s) rfl ?_
  refine fu_step (fu_getR rfl hP0.1 rfl rfl) ?_
  refine fu_go 2 (pc' := 17) (ls' := [.ref P0, .ref P1]) (st' := [.int (60 : Int32), .int (0 : Int32), .ref (P0 + 1), .int (0 : Int32), .ref (P1 + 1)]) (s' := s) rfl ?_
  refine fu_letsS (b := (fu_ci s (P1 + 1) 0 (P0 + 1) 0 60)) (fu_prim rfl rfl rfl (fu_cpIk hP1.2.1 hP0.2.1 (by decide) (by decide) (by decide) (by decide))) (fun s1 => ?_)
  refine fu_go 1 (pc' := 21) (ls' := [.ref P0, .ref P1]) (st' := [.ref P1]) (s' := s1) rfl ?_
  refine fu_step (fu_getR rfl hP1.1 rfl rfl) ?_
  refine fu_go 2 (pc' := 26) (ls' := [.ref P0, .ref P1]) (st' := [.ref P0, .int (0 : Int32), .ref (P1 + 2)]) (s' := s1) rfl ?_
  refine fu_step (fu_getR rfl hP0.1 rfl rfl) ?_
  refine fu_go 2 (pc' := 32) (ls' := [.ref P0, .ref P1]) (st' := [.int (60 : Int32), .int (0 : Int32), .ref (P0 + 2), .int (0 : Int32), .ref (P1 + 2)]) (s' := s1) rfl ?_
  refine fu_letsS (b := (fu_ci s1 (P1 + 2) 0 (P0 + 2) 0 60)) (fu_prim rfl rfl rfl (fu_cpIk hP1.2.2.1 hP0.2.2.1 (by decide) (by decide) (by decide) (by decide))) (fun s2 => ?_)
  refine fu_go 1 (pc' := 36) (ls' := [.ref P0, .ref P1]) (st' := [.ref P1]) (s' := s2) rfl ?_
  refine fu_step (fu_getR rfl hP1.1 rfl rfl) ?_
  refine fu_go 2 (pc' := 41) (ls' := [.ref P0, .ref P1]) (st' := [.ref P0, .int (0 : Int32), .ref (P1 + 3)]) (s' := s2) rfl ?_
  refine fu_step (fu_getR rfl hP0.1 rfl rfl) ?_
  refine fu_go 2 (pc' := 47) (ls' := [.ref P0, .ref P1]) (st' := [.int (60 : Int32), .int (0 : Int32), .ref (P0 + 3), .int (0 : Int32), .ref (P1 + 3)]) (s' := s2) rfl ?_
  refine fu_letsS (b := (fu_ci s2 (P1 + 3) 0 (P0 + 3) 0 60)) (fu_prim rfl rfl rfl (fu_cpIk hP1.2.2.2.1 hP0.2.2.2.1 (by decide) (by decide) (by decide) (by decide))) (fun s3 => ?_)
  refine fu_go 1 (pc' := 51) (ls' := [.ref P0, .ref P1]) (st' := [.ref P1]) (s' := s3) rfl ?_
  refine fu_step (fu_getR rfl hP1.1 rfl rfl) ?_
  refine fu_go 2 (pc' := 56) (ls' := [.ref P0, .ref P1]) (st' := [.ref P0, .int (0 : Int32), .ref (P1 + 4)]) (s' := s3) rfl ?_
  refine fu_step (fu_getR rfl hP0.1 rfl rfl) ?_
  refine fu_go 2 (pc' := 62) (ls' := [.ref P0, .ref P1]) (st' := [.int (60 : Int32), .int (0 : Int32), .ref (P0 + 4), .int (0 : Int32), .ref (P1 + 4)]) (s' := s3) rfl ?_
  refine fu_letsS (b := (fu_ci s3 (P1 + 4) 0 (P0 + 4) 0 60)) (fu_prim rfl rfl rfl (fu_cpIk hP1.2.2.2.2 hP0.2.2.2.2 (by decide) (by decide) (by decide) (by decide))) (fun s4 => ?_)
  refine fu_go 2 (pc' := 67) (ls' := [.ref P0, .ref P1]) (st' := [.ref P1, .ref P0]) (s' := s4) rfl ?_
  refine fu_step (fu_getI rfl hP1.1 rfl rfl) ?_
  refine fu_letsS (b := (fu_pi s4 P0 4 (s4.1 P1 4))) (fu_putI rfl hP0.1 rfl rfl) (fun s5 => ?_)
  refine fu_go 2 (pc' := 75) (ls' := [.ref P0, .ref P1]) (st' := [.ref P1, .ref P0]) (s' := s5) rfl ?_
  refine fu_step (fu_getI rfl hP1.1 rfl rfl) ?_
  refine fu_letsS (b := (fu_pi s5 P0 5 (s5.1 P1 5))) (fu_putI rfl hP0.1 rfl rfl) (fun s6 => ?_)
  refine fu_go 2 (pc' := 83) (ls' := [.ref P0, .ref P1]) (st' := [.ref P1, .ref P0]) (s' := s6) rfl ?_
  refine fu_step (fu_getB rfl hP1.1 rfl rfl) ?_
  refine fu_letsS (b := (fu_pi s6 P0 6 (fu_b (fu_tb (s6.1 P1 6))))) (fu_putB rfl (fu_tb (s6.1 P1 6)) hP0.1 rfl rfl) (fun s7 => ?_)
  exact fu_vret rfl rfl
/-! X6_takeEnd -/
set_option maxRecDepth 100000 in
theorem e_X6_takeEnd (d : Nat) (hd : 3 ≤ d) (s : fu_S) : fu_J (f_X6_takeEnd s) (fun r => some (some (.int (fu_b r.1)), r.2)) (am_D (fu_ho fc_sh) am_m d 119 [.ref 48] s) := by
  obtain ⟨d, rfl⟩ : ∃ e, d = e + 1 := ⟨d - 1, by omega⟩
  refine fu_enter (ls := [.ref 48]) am_at_X6_takeEnd rfl rfl ?_
  show fu_J _ _ (fc_X d (some .boolean) k_X6_takeEnd 0 [.ref 48] [] s)
  unfold f_X6_takeEnd
  refine fu_go 1 (pc' := 1) (ls' := [.ref 48]) (st' := [.ref 48]) (s' := s) rfl ?_
  refine fu_step (fu_getI rfl fc_48 rfl rfl) ?_
  refine fu_ite (fun h1 => fu_step (fu_if_le_t rfl h1) ?_) (fun h1 => fu_step (fu_if_le_f rfl h1) ?_)
  · refine fu_go 1 (pc' := 16) (ls' := [.ref 48]) (st' := [.ref 48]) (s' := s) rfl ?_
    refine fu_step (fu_getR rfl fc_48 rfl rfl) ?_
    refine fu_go 1 (pc' := 20) (ls' := [.ref 48]) (st' := [.int (2 : Int32), .ref 5]) (s' := s) rfl ?_
    refine fu_bind (fu_cVJ rfl rfl rfl rfl rfl (fu_recv fc_5 am_at_X8_refuse rfl) (e_X8_refuse d (by omega) s (2 : Int32))) (fun r2 => ?_)
    show fu_J _ _ (fc_X d (some .boolean) k_X6_takeEnd 23 [.ref 48] [.int (fu_b r2.1)] r2.2)
    exact fu_bret (b := r2.1) rfl rfl
  · refine fu_go 1 (pc' := 8) (ls' := [.ref 48]) (st' := [.ref 48]) (s' := s) rfl ?_
    refine fu_step (fu_getI rfl fc_48 rfl rfl) ?_
    refine fu_go 1 (pc' := 12) (ls' := [.ref 48]) (st' := [.int (3 : Int32), .int (s.1 48 4)]) (s' := s) rfl ?_
    refine fu_ite (fun h3 => fu_step (fu_ic_le_t rfl h3) ?_) (fun h3 => fu_step (fu_ic_le_f rfl h3) ?_)
    · refine fu_go 1 (pc' := 25) (ls' := [.ref 48]) (st' := [.ref 48]) (s' := s) rfl ?_
      refine fu_step (fu_getR rfl fc_48 rfl rfl) ?_
      refine fu_let (fu_cVJ rfl rfl rfl rfl rfl (fu_recv fc_5 am_at_X8_next rfl) (e_X8_next d (by omega) s)) (fun r4 => ?_)
      show fu_J _ _ (fc_X d (some .boolean) k_X6_takeEnd 31 [.ref 48] [] r4)
      refine fu_go 2 (pc' := 33) (ls' := [.ref 48]) (st' := [.ref 48, .ref 48]) (s' := r4) rfl ?_
      refine fu_step (fu_getI rfl fc_48 rfl rfl) ?_
      refine fu_go 2 (pc' := 38) (ls' := [.ref 48]) (st' := [.int ((r4.1 48 4) - (1 : Int32)), .ref 48]) (s' := r4) rfl ?_
      refine fu_lets (b := (fu_pi r4 48 4 ((r4.1 48 4) - (1 : Int32)))) (fu_putI rfl fc_48 rfl rfl) (fun s5 => ?_)
      refine fu_go 1 (pc' := 42) (ls' := [.ref 48]) (st' := [.ref 48]) (s' := s5) rfl ?_
      refine fu_step (fu_getR rfl fc_48 rfl rfl) ?_
      refine fu_go 1 (pc' := 46) (ls' := [.ref 48]) (st' := [.ref 48, .ref 42]) (s' := s5) rfl ?_
      refine fu_step (fu_getR rfl fc_48 rfl rfl) ?_
      refine fu_go 1 (pc' := 50) (ls' := [.ref 48]) (st' := [.ref 48, .ref 49, .ref 42]) (s' := s5) rfl ?_
      refine fu_step (fu_getI rfl fc_48 rfl rfl) ?_
      refine fu_guard (fun h6 => fu_step (fu_ldI rfl fc_49 h6) ?_)
      refine fu_bind (fu_cVJ rfl rfl rfl rfl rfl (fu_recv fc_42 am_at_X5_addEnd rfl) (e_X5_addEnd d (by omega) s5 42 fc_is4_42 (s5.1 49 (Int32.toNatClampNeg (s5.1 48 4))))) (fun r7 => ?_)
      show fu_J _ _ (fc_X d (some .boolean) k_X6_takeEnd 57 [.ref 48] [] r7)
      refine fu_go 1 (pc' := 58) (ls' := [.ref 48]) (st' := [.int (1 : Int32)]) (s' := r7) rfl ?_
      exact fu_bret (b := true) rfl rfl
    · refine fu_go 1 (pc' := 16) (ls' := [.ref 48]) (st' := [.ref 48]) (s' := s) rfl ?_
      refine fu_step (fu_getR rfl fc_48 rfl rfl) ?_
      refine fu_go 1 (pc' := 20) (ls' := [.ref 48]) (st' := [.int (2 : Int32), .ref 5]) (s' := s) rfl ?_
      refine fu_bind (fu_cVJ rfl rfl rfl rfl rfl (fu_recv fc_5 am_at_X8_refuse rfl) (e_X8_refuse d (by omega) s (2 : Int32))) (fun r8 => ?_)
      show fu_J _ _ (fc_X d (some .boolean) k_X6_takeEnd 23 [.ref 48] [.int (fu_b r8.1)] r8.2)
      exact fu_bret (b := r8.1) rfl rfl
/-! X6_isDeed -/
set_option maxRecDepth 100000 in
theorem e_X6_isDeed (d : Nat) (hd : 1 ≤ d) (s : fu_S) (a0 : Int32) : fu_J (some (f_X6_isDeed a0)) (fun r => some (some (.int (fu_b r)), s)) (am_D (fu_ho fc_sh) am_m d 121 [.int a0] s) := by
  obtain ⟨d, rfl⟩ : ∃ e, d = e + 1 := ⟨d - 1, by omega⟩
  refine fu_enter (ls := [.int a0]) am_at_X6_isDeed rfl rfl ?_
  show fu_J _ _ (fc_X d (some .boolean) k_X6_isDeed 0 [.int a0] [] s)
  unfold f_X6_isDeed
  refine fu_go 2 (pc' := 3) (ls' := [.int a0]) (st' := [.int (112 : Int32), .int a0]) (s' := s) rfl ?_
  refine fu_letS (V := fun j1 : Bool => fc_X d (some .boolean) k_X6_isDeed 47 [am_U] [.int (fu_b j1)] s) ?_ (fun j1 => ?_)
  · refine fu_iteS (fun h2 => fu_step (fu_ic_eq_t rfl h2) ?_) (fun h2 => fu_step (fu_ic_eq_f rfl h2) ?_)
    · refine fu_go 2 (pc' := 47) (ls' := [.int a0]) (st' := [.int (1 : Int32)]) (s' := s) rfl ?_
      exact fu_leaf rfl ⟨.inl rfl, trivial⟩
    · refine fu_go 2 (pc' := 9) (ls' := [.int a0]) (st' := [.int (111 : Int32), .int a0]) (s' := s) rfl ?_
      refine fu_iteS (fun h3 => fu_step (fu_ic_eq_t rfl h3) ?_) (fun h3 => fu_step (fu_ic_eq_f rfl h3) ?_)
      · refine fu_go 2 (pc' := 47) (ls' := [.int a0]) (st' := [.int (1 : Int32)]) (s' := s) rfl ?_
        exact fu_leaf rfl ⟨.inl rfl, trivial⟩
      · refine fu_go 2 (pc' := 15) (ls' := [.int a0]) (st' := [.int (113 : Int32), .int a0]) (s' := s) rfl ?_
        refine fu_iteS (fun h4 => fu_step (fu_ic_eq_t rfl h4) ?_) (fun h4 => fu_step (fu_ic_eq_f rfl h4) ?_)
        · refine fu_go 2 (pc' := 47) (ls' := [.int a0]) (st' := [.int (1 : Int32)]) (s' := s) rfl ?_
          exact fu_leaf rfl ⟨.inl rfl, trivial⟩
        · refine fu_go 2 (pc' := 21) (ls' := [.int a0]) (st' := [.int (114 : Int32), .int a0]) (s' := s) rfl ?_
          refine fu_iteS (fun h5 => fu_step (fu_ic_eq_t rfl h5) ?_) (fun h5 => fu_step (fu_ic_eq_f rfl h5) ?_)
          · refine fu_go 2 (pc' := 47) (ls' := [.int a0]) (st' := [.int (1 : Int32)]) (s' := s) rfl ?_
            exact fu_leaf rfl ⟨.inl rfl, trivial⟩
          · refine fu_go 2 (pc' := 27) (ls' := [.int a0]) (st' := [.int (115 : Int32), .int a0]) (s' := s) rfl ?_
            refine fu_iteS (fun h6 => fu_step (fu_ic_eq_t rfl h6) ?_) (fun h6 => fu_step (fu_ic_eq_f rfl h6) ?_)
            · refine fu_go 2 (pc' := 47) (ls' := [.int a0]) (st' := [.int (1 : Int32)]) (s' := s) rfl ?_
              exact fu_leaf rfl ⟨.inl rfl, trivial⟩
            · refine fu_go 2 (pc' := 33) (ls' := [.int a0]) (st' := [.int (119 : Int32), .int a0]) (s' := s) rfl ?_
              refine fu_iteS (fun h7 => fu_step (fu_ic_eq_t rfl h7) ?_) (fun h7 => fu_step (fu_ic_eq_f rfl h7) ?_)
              · refine fu_go 2 (pc' := 47) (ls' := [.int a0]) (st' := [.int (1 : Int32)]) (s' := s) rfl ?_
                exact fu_leaf rfl ⟨.inl rfl, trivial⟩
              · refine fu_go 2 (pc' := 39) (ls' := [.int a0]) (st' := [.int (121 : Int32), .int a0]) (s' := s) rfl ?_
                refine fu_iteS (fun h8 => fu_step (fu_ic_ne_t rfl h8) ?_) (fun h8 => fu_step (fu_ic_ne_f rfl h8) ?_)
                · refine fu_go 2 (pc' := 47) (ls' := [.int a0]) (st' := [.int (1 : Int32)]) (s' := s) rfl ?_
                  exact fu_leaf rfl ⟨.inl rfl, trivial⟩
                · refine fu_go 1 (pc' := 47) (ls' := [.int a0]) (st' := [.int (0 : Int32)]) (s' := s) rfl ?_
                  exact fu_leaf rfl ⟨.inl rfl, trivial⟩
  show fu_J _ _ (fc_X d (some .boolean) k_X6_isDeed 47 [am_U] [.int (fu_b j1)] s)
  exact fu_bret (b := j1) rfl rfl
/-! X6_takeCount -/
set_option maxRecDepth 100000 in
theorem e_X6_takeCount (d : Nat) (hd : 4 ≤ d) (s : fu_S) (a1 : Int32) : fu_J (f_X6_takeCount s a1) (fun r => some (some (.int (fu_b r.1)), r.2)) (am_D (fu_ho fc_sh) am_m d 123 [.ref 48, .int a1] s) := by
  obtain ⟨d, rfl⟩ : ∃ e, d = e + 1 := ⟨d - 1, by omega⟩
  refine fu_enter (ls := [.ref 48, .int a1, am_U]) am_at_X6_takeCount rfl rfl ?_
  show fu_J _ _ (fc_X d (some .boolean) k_X6_takeCount 0 [.ref 48, .int a1, am_U] [] s)
  unfold f_X6_takeCount
  refine fu_go 1 (pc' := 1) (ls' := [.ref 48, .int a1, am_U]) (st' := [.ref 48]) (s' := s) rfl ?_
  refine fu_step (fu_getR rfl fc_48 rfl rfl) ?_
  refine fu_go 2 (pc' := 7) (ls' := [.ref 48, .int a1, am_U]) (st' := [.int (99 : Int32), .int (1 : Int32), .ref 5]) (s' := s) rfl ?_
  refine fu_bind (fu_cVJ rfl rfl rfl rfl rfl (fu_recv fc_5 am_at_X8_takeNumber rfl) (e_X8_takeNumber d (by omega) s (1 : Int32) (99 : Int32))) (fun r1 => ?_)
  show fu_J _ _ (fc_X d (some .boolean) k_X6_takeCount 10 [.ref 48, .int a1, am_U] [.int r1.1] r1.2)
  refine fu_go 2 (pc' := 12) (ls' := [.ref 48, .int a1, .int r1.1]) (st' := [.ref 48]) (s' := r1.2) rfl ?_
  refine fu_step (fu_getR rfl fc_48 rfl rfl) ?_
  refine fu_go 3 (pc' := 18) (ls' := [.ref 48, .int a1, .int r1.1]) (st' := [.int (0 : Int32), .int r1.1, .int a1, .ref 42]) (s' := r1.2) rfl ?_
  refine fu_bind (fu_cVJ rfl rfl rfl rfl rfl (fu_recv fc_42 am_at_X5_addStep rfl) (e_X5_addStep d (by omega) r1.2 42 fc_is4_42 a1 r1.1 (0 : Int32))) (fun r2 => ?_)
  show fu_J _ _ (fc_X d (some .boolean) k_X6_takeCount 21 [.ref 48, .int a1, .int r1.1] [] r2)
  refine fu_go 2 (pc' := 23) (ls' := [.ref 48, .int a1, .int r1.1]) (st' := [.int (-1 : Int32), .int r1.1]) (s' := r2) rfl ?_
  refine fu_bind (V := fun j3 : Bool => fc_X d (some .boolean) k_X6_takeCount 31 [am_U, am_U, am_U] [.int (fu_b j3)] r2) ?_ (fun j3 => ?_)
  · refine fu_ite (fun h4 => fu_step (fu_ic_eq_t rfl h4) ?_) (fun h4 => fu_step (fu_ic_eq_f rfl h4) ?_)
    · refine fu_go 1 (pc' := 31) (ls' := [.ref 48, .int a1, .int r1.1]) (st' := [.int (0 : Int32)]) (s' := r2) rfl ?_
      exact fu_leaf rfl ⟨.inl rfl, .inl rfl, .inl rfl, trivial⟩
    · refine fu_go 2 (pc' := 31) (ls' := [.ref 48, .int a1, .int r1.1]) (st' := [.int (1 : Int32)]) (s' := r2) rfl ?_
      exact fu_leaf rfl ⟨.inl rfl, .inl rfl, .inl rfl, trivial⟩
  show fu_J _ _ (fc_X d (some .boolean) k_X6_takeCount 31 [am_U, am_U, am_U] [.int (fu_b j3)] r2)
  exact fu_bret (b := j3) rfl rfl
/-! X6_takeDeedOf -/
set_option maxRecDepth 100000 in
theorem e_X6_takeDeedOf (d : Nat) (hd : 4 ≤ d) (s : fu_S) (a1 : Int32) (a2 : Int32) : fu_J (f_X6_takeDeedOf s a1 a2) (fun r => some (some (.int (fu_b r.1)), r.2)) (am_D (fu_ho fc_sh) am_m d 124 [.ref 48, .int a1, .int a2] s) := by
  obtain ⟨d, rfl⟩ : ∃ e, d = e + 1 := ⟨d - 1, by omega⟩
  refine fu_enter (ls := [.ref 48, .int a1, .int a2, am_U, am_U]) am_at_X6_takeDeedOf rfl rfl ?_
  show fu_J _ _ (fc_X d (some .boolean) k_X6_takeDeedOf 0 [.ref 48, .int a1, .int a2, am_U, am_U] [] s)
  unfold f_X6_takeDeedOf
  refine fu_go 1 (pc' := 1) (ls' := [.ref 48, .int a1, .int a2, am_U, am_U]) (st' := [.ref 48]) (s' := s) rfl ?_
  refine fu_step (fu_getR rfl fc_48 rfl rfl) ?_
  refine fu_go 1 (pc' := 5) (ls' := [.ref 48, .int a1, .int a2, am_U, am_U]) (st' := [.ref 48, .ref 5]) (s' := s) rfl ?_
  refine fu_step (fu_getR rfl fc_48 rfl rfl) ?_
  refine fu_bind (fu_cVJ rfl rfl rfl rfl rfl (fu_recv fc_5 am_at_X8_takePersonOf rfl) (e_X8_takePersonOf d (by omega) s 11 fc_is3_11)) (fun r1 => ?_)
  show fu_J _ _ (fc_X d (some .boolean) k_X6_takeDeedOf 11 [.ref 48, .int a1, .int a2, am_U, am_U] [.int r1.1] r1.2)
  refine fu_go 3 (pc' := 14) (ls' := [.ref 48, .int a1, .int a2, .int r1.1, am_U]) (st' := [.int (-1 : Int32), .int r1.1]) (s' := r1.2) rfl ?_
  refine fu_ite (fun h2 => fu_step (fu_ic_ne_t rfl h2) ?_) (fun h2 => fu_step (fu_ic_ne_f rfl h2) ?_)
  · refine fu_go 1 (pc' := 18) (ls' := [.ref 48, .int a1, .int a2, .int r1.1, am_U]) (st' := [.int (0 : Int32)]) (s' := r1.2) rfl ?_
    exact fu_bret (b := false) rfl rfl
  · refine fu_go 1 (pc' := 20) (ls' := [.ref 48, .int a1, .int a2, .int r1.1, am_U]) (st' := [.ref 48]) (s' := r1.2) rfl ?_
    refine fu_step (fu_getR rfl fc_48 rfl rfl) ?_
    refine fu_go 2 (pc' := 25) (ls' := [.ref 48, .int a1, .int a2, .int r1.1, am_U]) (st' := [.int a2, .int (0 : Int32), .ref 5]) (s' := r1.2) rfl ?_
    refine fu_bind (fu_cVJ rfl rfl rfl rfl rfl (fu_recv fc_5 am_at_X8_takeNumber rfl) (e_X8_takeNumber d (by omega) r1.2 (0 : Int32) a2)) (fun r3 => ?_)
    show fu_J _ _ (fc_X d (some .boolean) k_X6_takeDeedOf 28 [.ref 48, .int a1, .int a2, .int r1.1, am_U] [.int r3.1] r3.2)
    refine fu_go 2 (pc' := 31) (ls' := [.ref 48, .int a1, .int a2, .int r1.1, .int r3.1]) (st' := [.ref 48]) (s' := r3.2) rfl ?_
    refine fu_step (fu_getR rfl fc_48 rfl rfl) ?_
    refine fu_go 3 (pc' := 38) (ls' := [.ref 48, .int a1, .int a2, .int r1.1, .int r3.1]) (st' := [.int r3.1, .int r1.1, .int a1, .ref 42]) (s' := r3.2) rfl ?_
    refine fu_bind (fu_cVJ rfl rfl rfl rfl rfl (fu_recv fc_42 am_at_X5_addStep rfl) (e_X5_addStep d (by omega) r3.2 42 fc_is4_42 a1 r1.1 r3.1)) (fun r4 => ?_)
    show fu_J _ _ (fc_X d (some .boolean) k_X6_takeDeedOf 41 [.ref 48, .int a1, .int a2, .int r1.1, .int r3.1] [] r4)
    refine fu_go 2 (pc' := 44) (ls' := [.ref 48, .int a1, .int a2, .int r1.1, .int r3.1]) (st' := [.int (-1 : Int32), .int r3.1]) (s' := r4) rfl ?_
    refine fu_bind (V := fun j5 : Bool => fc_X d (some .boolean) k_X6_takeDeedOf 52 [am_U, am_U, am_U, am_U, am_U] [.int (fu_b j5)] r4) ?_ (fun j5 => ?_)
    · refine fu_ite (fun h6 => fu_step (fu_ic_eq_t rfl h6) ?_) (fun h6 => fu_step (fu_ic_eq_f rfl h6) ?_)
      · refine fu_go 1 (pc' := 52) (ls' := [.ref 48, .int a1, .int a2, .int r1.1, .int r3.1]) (st' := [.int (0 : Int32)]) (s' := r4) rfl ?_
        exact fu_leaf rfl ⟨.inl rfl, .inl rfl, .inl rfl, .inl rfl, .inl rfl, trivial⟩
      · refine fu_go 2 (pc' := 52) (ls' := [.ref 48, .int a1, .int a2, .int r1.1, .int r3.1]) (st' := [.int (1 : Int32)]) (s' := r4) rfl ?_
        exact fu_leaf rfl ⟨.inl rfl, .inl rfl, .inl rfl, .inl rfl, .inl rfl, trivial⟩
    show fu_J _ _ (fc_X d (some .boolean) k_X6_takeDeedOf 52 [am_U, am_U, am_U, am_U, am_U] [.int (fu_b j5)] r4)
    exact fu_bret (b := j5) rfl rfl
/-! X6_takeTest -/
set_option maxRecDepth 100000 in
theorem e_X6_takeTest (d : Nat) (hd : 4 ≤ d) (s : fu_S) (a1 : Int32) : fu_J (f_X6_takeTest s a1) (fun r => some (some (.int (fu_b r.1)), r.2)) (am_D (fu_ho fc_sh) am_m d 125 [.ref 48, .int a1] s) := by
  obtain ⟨d, rfl⟩ : ∃ e, d = e + 1 := ⟨d - 1, by omega⟩
  refine fu_enter (ls := [.ref 48, .int a1, am_U, am_U, am_U]) am_at_X6_takeTest rfl rfl ?_
  show fu_J _ _ (fc_X d (some .boolean) k_X6_takeTest 0 [.ref 48, .int a1, am_U, am_U, am_U] [] s)
  unfold f_X6_takeTest
  refine fu_go 1 (pc' := 1) (ls' := [.ref 48, .int a1, am_U, am_U, am_U]) (st' := [.ref 48]) (s' := s) rfl ?_
  refine fu_step (fu_getR rfl fc_48 rfl rfl) ?_
  refine fu_bind (fu_cVJ rfl rfl rfl rfl rfl (fu_recv fc_5 am_at_X8_sortHere rfl) (e_X8_sortHere d (by omega) s)) (fun r1 => ?_)
  show fu_J _ _ (fc_X d (some .boolean) k_X6_takeTest 7 [.ref 48, .int a1, am_U, am_U, am_U] [.int r1] s)
  refine fu_go 3 (pc' := 11) (ls' := [.ref 48, .int a1, .int r1, am_U, am_U]) (st' := [.int (116 : Int32), .int r1]) (s' := s) rfl ?_
  refine fu_ite (fun h2 => fu_step (fu_ic_eq_t rfl h2) ?_) (fun h2 => fu_step (fu_ic_eq_f rfl h2) ?_)
  · refine fu_go 1 (pc' := 36) (ls' := [.ref 48, .int a1, .int r1, am_U, am_U]) (st' := [.ref 48]) (s' := s) rfl ?_
    refine fu_step (fu_getR rfl fc_48 rfl rfl) ?_
    refine fu_let (fu_cVJ rfl rfl rfl rfl rfl (fu_recv fc_5 am_at_X8_next rfl) (e_X8_next d (by omega) s)) (fun r3 => ?_)
    show fu_J _ _ (fc_X d (some .boolean) k_X6_takeTest 42 [.ref 48, .int a1, .int r1, am_U, am_U] [] r3)
    refine fu_go 4 (pc' := 48) (ls' := [.ref 48, .int a1, .int r1, .int (7 : Int32), am_U]) (st' := [.int (118 : Int32), .int r1]) (s' := r3) rfl ?_
    refine fu_ite (fun h4 => fu_step (fu_ic_ne_t rfl h4) ?_) (fun h4 => fu_step (fu_ic_ne_f rfl h4) ?_)
    · refine fu_go 1 (pc' := 52) (ls' := [.ref 48, .int a1, .int r1, .int (7 : Int32), am_U]) (st' := [.ref 48]) (s' := r3) rfl ?_
      refine fu_step (fu_getR rfl fc_48 rfl rfl) ?_
      refine fu_bind (fu_cVJ rfl rfl rfl rfl rfl (fu_recv fc_5 am_at_X8_sortHere rfl) (e_X8_sortHere d (by omega) r3)) (fun r5 => ?_)
      show fu_J _ _ (fc_X d (some .boolean) k_X6_takeTest 58 [.ref 48, .int a1, .int r1, .int (7 : Int32), am_U] [.int r5] r3)
      refine fu_go 5 (pc' := 66) (ls' := [.ref 48, .int a1, .int r5, .int (9999 : Int32), am_U]) (st' := [.int (60 : Int32), .int r5]) (s' := r3) rfl ?_
      refine fu_ite (fun h6 => fu_step (fu_ic_eq_t rfl h6) ?_) (fun h6 => fu_step (fu_ic_eq_f rfl h6) ?_)
      · refine fu_go 1 (pc' := 91) (ls' := [.ref 48, .int a1, .int r5, .int (9999 : Int32), am_U]) (st' := [.ref 48]) (s' := r3) rfl ?_
        refine fu_step (fu_getR rfl fc_48 rfl rfl) ?_
        refine fu_let (fu_cVJ rfl rfl rfl rfl rfl (fu_recv fc_5 am_at_X8_next rfl) (e_X8_next d (by omega) r3)) (fun r7 => ?_)
        show fu_J _ _ (fc_X d (some .boolean) k_X6_takeTest 97 [.ref 48, .int a1, .int r5, .int (9999 : Int32), am_U] [] r7)
        refine fu_go 1 (pc' := 98) (ls' := [.ref 48, .int a1, .int r5, .int (9999 : Int32), am_U]) (st' := [.ref 48]) (s' := r7) rfl ?_
        refine fu_step (fu_getR rfl fc_48 rfl rfl) ?_
        refine fu_go 2 (pc' := 103) (ls' := [.ref 48, .int a1, .int r5, .int (9999 : Int32), am_U]) (st' := [.int (9999 : Int32), .int (0 : Int32), .ref 5]) (s' := r7) rfl ?_
        refine fu_bind (fu_cVJ rfl rfl rfl rfl rfl (fu_recv fc_5 am_at_X8_takeNumber rfl) (e_X8_takeNumber d (by omega) r7 (0 : Int32) (9999 : Int32))) (fun r8 => ?_)
        show fu_J _ _ (fc_X d (some .boolean) k_X6_takeTest 106 [.ref 48, .int a1, .int r5, .int (9999 : Int32), am_U] [.int r8.1] r8.2)
        refine fu_go 2 (pc' := 109) (ls' := [.ref 48, .int a1, .int r5, .int (9999 : Int32), .int r8.1]) (st' := [.ref 48]) (s' := r8.2) rfl ?_
        refine fu_step (fu_getR rfl fc_48 rfl rfl) ?_
        refine fu_go 3 (pc' := 116) (ls' := [.ref 48, .int a1, .int r5, .int (9999 : Int32), .int r8.1]) (st' := [.int r8.1, .int r5, .int a1, .ref 42]) (s' := r8.2) rfl ?_
        refine fu_bind (fu_cVJ rfl rfl rfl rfl rfl (fu_recv fc_42 am_at_X5_addStep rfl) (e_X5_addStep d (by omega) r8.2 42 fc_is4_42 a1 r5 r8.1)) (fun r9 => ?_)
        show fu_J _ _ (fc_X d (some .boolean) k_X6_takeTest 119 [.ref 48, .int a1, .int r5, .int (9999 : Int32), .int r8.1] [] r9)
        refine fu_go 2 (pc' := 122) (ls' := [.ref 48, .int a1, .int r5, .int (9999 : Int32), .int r8.1]) (st' := [.int (-1 : Int32), .int r8.1]) (s' := r9) rfl ?_
        refine fu_bind (V := fun j10 : Bool => fc_X d (some .boolean) k_X6_takeTest 130 [am_U, am_U, am_U, am_U, am_U] [.int (fu_b j10)] r9) ?_ (fun j10 => ?_)
        · refine fu_ite (fun h11 => fu_step (fu_ic_eq_t rfl h11) ?_) (fun h11 => fu_step (fu_ic_eq_f rfl h11) ?_)
          · refine fu_go 1 (pc' := 130) (ls' := [.ref 48, .int a1, .int r5, .int (9999 : Int32), .int r8.1]) (st' := [.int (0 : Int32)]) (s' := r9) rfl ?_
            exact fu_leaf rfl ⟨.inl rfl, .inl rfl, .inl rfl, .inl rfl, .inl rfl, trivial⟩
          · refine fu_go 2 (pc' := 130) (ls' := [.ref 48, .int a1, .int r5, .int (9999 : Int32), .int r8.1]) (st' := [.int (1 : Int32)]) (s' := r9) rfl ?_
            exact fu_leaf rfl ⟨.inl rfl, .inl rfl, .inl rfl, .inl rfl, .inl rfl, trivial⟩
        show fu_J _ _ (fc_X d (some .boolean) k_X6_takeTest 130 [am_U, am_U, am_U, am_U, am_U] [.int (fu_b j10)] r9)
        exact fu_bret (b := j10) rfl rfl
      · refine fu_go 2 (pc' := 72) (ls' := [.ref 48, .int a1, .int r5, .int (9999 : Int32), am_U]) (st' := [.int (62 : Int32), .int r5]) (s' := r3) rfl ?_
        refine fu_ite (fun h12 => fu_step (fu_ic_eq_t rfl h12) ?_) (fun h12 => fu_step (fu_ic_eq_f rfl h12) ?_)
        · refine fu_go 1 (pc' := 91) (ls' := [.ref 48, .int a1, .int r5, .int (9999 : Int32), am_U]) (st' := [.ref 48]) (s' := r3) rfl ?_
          refine fu_step (fu_getR rfl fc_48 rfl rfl) ?_
          refine fu_let (fu_cVJ rfl rfl rfl rfl rfl (fu_recv fc_5 am_at_X8_next rfl) (e_X8_next d (by omega) r3)) (fun r13 => ?_)
          show fu_J _ _ (fc_X d (some .boolean) k_X6_takeTest 97 [.ref 48, .int a1, .int r5, .int (9999 : Int32), am_U] [] r13)
          refine fu_go 1 (pc' := 98) (ls' := [.ref 48, .int a1, .int r5, .int (9999 : Int32), am_U]) (st' := [.ref 48]) (s' := r13) rfl ?_
          refine fu_step (fu_getR rfl fc_48 rfl rfl) ?_
          refine fu_go 2 (pc' := 103) (ls' := [.ref 48, .int a1, .int r5, .int (9999 : Int32), am_U]) (st' := [.int (9999 : Int32), .int (0 : Int32), .ref 5]) (s' := r13) rfl ?_
          refine fu_bind (fu_cVJ rfl rfl rfl rfl rfl (fu_recv fc_5 am_at_X8_takeNumber rfl) (e_X8_takeNumber d (by omega) r13 (0 : Int32) (9999 : Int32))) (fun r14 => ?_)
          show fu_J _ _ (fc_X d (some .boolean) k_X6_takeTest 106 [.ref 48, .int a1, .int r5, .int (9999 : Int32), am_U] [.int r14.1] r14.2)
          refine fu_go 2 (pc' := 109) (ls' := [.ref 48, .int a1, .int r5, .int (9999 : Int32), .int r14.1]) (st' := [.ref 48]) (s' := r14.2) rfl ?_
          refine fu_step (fu_getR rfl fc_48 rfl rfl) ?_
          refine fu_go 3 (pc' := 116) (ls' := [.ref 48, .int a1, .int r5, .int (9999 : Int32), .int r14.1]) (st' := [.int r14.1, .int r5, .int a1, .ref 42]) (s' := r14.2) rfl ?_
          refine fu_bind (fu_cVJ rfl rfl rfl rfl rfl (fu_recv fc_42 am_at_X5_addStep rfl) (e_X5_addStep d (by omega) r14.2 42 fc_is4_42 a1 r5 r14.1)) (fun r15 => ?_)
          show fu_J _ _ (fc_X d (some .boolean) k_X6_takeTest 119 [.ref 48, .int a1, .int r5, .int (9999 : Int32), .int r14.1] [] r15)
          refine fu_go 2 (pc' := 122) (ls' := [.ref 48, .int a1, .int r5, .int (9999 : Int32), .int r14.1]) (st' := [.int (-1 : Int32), .int r14.1]) (s' := r15) rfl ?_
          refine fu_bind (V := fun j16 : Bool => fc_X d (some .boolean) k_X6_takeTest 130 [am_U, am_U, am_U, am_U, am_U] [.int (fu_b j16)] r15) ?_ (fun j16 => ?_)
          · refine fu_ite (fun h17 => fu_step (fu_ic_eq_t rfl h17) ?_) (fun h17 => fu_step (fu_ic_eq_f rfl h17) ?_)
            · refine fu_go 1 (pc' := 130) (ls' := [.ref 48, .int a1, .int r5, .int (9999 : Int32), .int r14.1]) (st' := [.int (0 : Int32)]) (s' := r15) rfl ?_
              exact fu_leaf rfl ⟨.inl rfl, .inl rfl, .inl rfl, .inl rfl, .inl rfl, trivial⟩
            · refine fu_go 2 (pc' := 130) (ls' := [.ref 48, .int a1, .int r5, .int (9999 : Int32), .int r14.1]) (st' := [.int (1 : Int32)]) (s' := r15) rfl ?_
              exact fu_leaf rfl ⟨.inl rfl, .inl rfl, .inl rfl, .inl rfl, .inl rfl, trivial⟩
          show fu_J _ _ (fc_X d (some .boolean) k_X6_takeTest 130 [am_U, am_U, am_U, am_U, am_U] [.int (fu_b j16)] r15)
          exact fu_bret (b := j16) rfl rfl
        · refine fu_go 2 (pc' := 78) (ls' := [.ref 48, .int a1, .int r5, .int (9999 : Int32), am_U]) (st' := [.int (61 : Int32), .int r5]) (s' := r3) rfl ?_
          refine fu_ite (fun h18 => fu_step (fu_ic_eq_t rfl h18) ?_) (fun h18 => fu_step (fu_ic_eq_f rfl h18) ?_)
          · refine fu_go 1 (pc' := 91) (ls' := [.ref 48, .int a1, .int r5, .int (9999 : Int32), am_U]) (st' := [.ref 48]) (s' := r3) rfl ?_
            refine fu_step (fu_getR rfl fc_48 rfl rfl) ?_
            refine fu_let (fu_cVJ rfl rfl rfl rfl rfl (fu_recv fc_5 am_at_X8_next rfl) (e_X8_next d (by omega) r3)) (fun r19 => ?_)
            show fu_J _ _ (fc_X d (some .boolean) k_X6_takeTest 97 [.ref 48, .int a1, .int r5, .int (9999 : Int32), am_U] [] r19)
            refine fu_go 1 (pc' := 98) (ls' := [.ref 48, .int a1, .int r5, .int (9999 : Int32), am_U]) (st' := [.ref 48]) (s' := r19) rfl ?_
            refine fu_step (fu_getR rfl fc_48 rfl rfl) ?_
            refine fu_go 2 (pc' := 103) (ls' := [.ref 48, .int a1, .int r5, .int (9999 : Int32), am_U]) (st' := [.int (9999 : Int32), .int (0 : Int32), .ref 5]) (s' := r19) rfl ?_
            refine fu_bind (fu_cVJ rfl rfl rfl rfl rfl (fu_recv fc_5 am_at_X8_takeNumber rfl) (e_X8_takeNumber d (by omega) r19 (0 : Int32) (9999 : Int32))) (fun r20 => ?_)
            show fu_J _ _ (fc_X d (some .boolean) k_X6_takeTest 106 [.ref 48, .int a1, .int r5, .int (9999 : Int32), am_U] [.int r20.1] r20.2)
            refine fu_go 2 (pc' := 109) (ls' := [.ref 48, .int a1, .int r5, .int (9999 : Int32), .int r20.1]) (st' := [.ref 48]) (s' := r20.2) rfl ?_
            refine fu_step (fu_getR rfl fc_48 rfl rfl) ?_
            refine fu_go 3 (pc' := 116) (ls' := [.ref 48, .int a1, .int r5, .int (9999 : Int32), .int r20.1]) (st' := [.int r20.1, .int r5, .int a1, .ref 42]) (s' := r20.2) rfl ?_
            refine fu_bind (fu_cVJ rfl rfl rfl rfl rfl (fu_recv fc_42 am_at_X5_addStep rfl) (e_X5_addStep d (by omega) r20.2 42 fc_is4_42 a1 r5 r20.1)) (fun r21 => ?_)
            show fu_J _ _ (fc_X d (some .boolean) k_X6_takeTest 119 [.ref 48, .int a1, .int r5, .int (9999 : Int32), .int r20.1] [] r21)
            refine fu_go 2 (pc' := 122) (ls' := [.ref 48, .int a1, .int r5, .int (9999 : Int32), .int r20.1]) (st' := [.int (-1 : Int32), .int r20.1]) (s' := r21) rfl ?_
            refine fu_bind (V := fun j22 : Bool => fc_X d (some .boolean) k_X6_takeTest 130 [am_U, am_U, am_U, am_U, am_U] [.int (fu_b j22)] r21) ?_ (fun j22 => ?_)
            · refine fu_ite (fun h23 => fu_step (fu_ic_eq_t rfl h23) ?_) (fun h23 => fu_step (fu_ic_eq_f rfl h23) ?_)
              · refine fu_go 1 (pc' := 130) (ls' := [.ref 48, .int a1, .int r5, .int (9999 : Int32), .int r20.1]) (st' := [.int (0 : Int32)]) (s' := r21) rfl ?_
                exact fu_leaf rfl ⟨.inl rfl, .inl rfl, .inl rfl, .inl rfl, .inl rfl, trivial⟩
              · refine fu_go 2 (pc' := 130) (ls' := [.ref 48, .int a1, .int r5, .int (9999 : Int32), .int r20.1]) (st' := [.int (1 : Int32)]) (s' := r21) rfl ?_
                exact fu_leaf rfl ⟨.inl rfl, .inl rfl, .inl rfl, .inl rfl, .inl rfl, trivial⟩
            show fu_J _ _ (fc_X d (some .boolean) k_X6_takeTest 130 [am_U, am_U, am_U, am_U, am_U] [.int (fu_b j22)] r21)
            exact fu_bret (b := j22) rfl rfl
          · refine fu_go 1 (pc' := 82) (ls' := [.ref 48, .int a1, .int r5, .int (9999 : Int32), am_U]) (st' := [.ref 48]) (s' := r3) rfl ?_
            refine fu_step (fu_getR rfl fc_48 rfl rfl) ?_
            refine fu_go 1 (pc' := 86) (ls' := [.ref 48, .int a1, .int r5, .int (9999 : Int32), am_U]) (st' := [.int (2 : Int32), .ref 5]) (s' := r3) rfl ?_
            refine fu_bind (fu_cVJ rfl rfl rfl rfl rfl (fu_recv fc_5 am_at_X8_refuse rfl) (e_X8_refuse d (by omega) r3 (2 : Int32))) (fun r24 => ?_)
            show fu_J _ _ (fc_X d (some .boolean) k_X6_takeTest 89 [.ref 48, .int a1, .int r5, .int (9999 : Int32), am_U] [.int (fu_b r24.1)] r24.2)
            exact fu_bret (b := r24.1) rfl rfl
    · refine fu_go 1 (pc' := 98) (ls' := [.ref 48, .int a1, .int r1, .int (7 : Int32), am_U]) (st' := [.ref 48]) (s' := r3) rfl ?_
      refine fu_step (fu_getR rfl fc_48 rfl rfl) ?_
      refine fu_go 2 (pc' := 103) (ls' := [.ref 48, .int a1, .int r1, .int (7 : Int32), am_U]) (st' := [.int (7 : Int32), .int (0 : Int32), .ref 5]) (s' := r3) rfl ?_
      refine fu_bind (fu_cVJ rfl rfl rfl rfl rfl (fu_recv fc_5 am_at_X8_takeNumber rfl) (e_X8_takeNumber d (by omega) r3 (0 : Int32) (7 : Int32))) (fun r25 => ?_)
      show fu_J _ _ (fc_X d (some .boolean) k_X6_takeTest 106 [.ref 48, .int a1, .int r1, .int (7 : Int32), am_U] [.int r25.1] r25.2)
      refine fu_go 2 (pc' := 109) (ls' := [.ref 48, .int a1, .int r1, .int (7 : Int32), .int r25.1]) (st' := [.ref 48]) (s' := r25.2) rfl ?_
      refine fu_step (fu_getR rfl fc_48 rfl rfl) ?_
      refine fu_go 3 (pc' := 116) (ls' := [.ref 48, .int a1, .int r1, .int (7 : Int32), .int r25.1]) (st' := [.int r25.1, .int r1, .int a1, .ref 42]) (s' := r25.2) rfl ?_
      refine fu_bind (fu_cVJ rfl rfl rfl rfl rfl (fu_recv fc_42 am_at_X5_addStep rfl) (e_X5_addStep d (by omega) r25.2 42 fc_is4_42 a1 r1 r25.1)) (fun r26 => ?_)
      show fu_J _ _ (fc_X d (some .boolean) k_X6_takeTest 119 [.ref 48, .int a1, .int r1, .int (7 : Int32), .int r25.1] [] r26)
      refine fu_go 2 (pc' := 122) (ls' := [.ref 48, .int a1, .int r1, .int (7 : Int32), .int r25.1]) (st' := [.int (-1 : Int32), .int r25.1]) (s' := r26) rfl ?_
      refine fu_bind (V := fun j27 : Bool => fc_X d (some .boolean) k_X6_takeTest 130 [am_U, am_U, am_U, am_U, am_U] [.int (fu_b j27)] r26) ?_ (fun j27 => ?_)
      · refine fu_ite (fun h28 => fu_step (fu_ic_eq_t rfl h28) ?_) (fun h28 => fu_step (fu_ic_eq_f rfl h28) ?_)
        · refine fu_go 1 (pc' := 130) (ls' := [.ref 48, .int a1, .int r1, .int (7 : Int32), .int r25.1]) (st' := [.int (0 : Int32)]) (s' := r26) rfl ?_
          exact fu_leaf rfl ⟨.inl rfl, .inl rfl, .inl rfl, .inl rfl, .inl rfl, trivial⟩
        · refine fu_go 2 (pc' := 130) (ls' := [.ref 48, .int a1, .int r1, .int (7 : Int32), .int r25.1]) (st' := [.int (1 : Int32)]) (s' := r26) rfl ?_
          exact fu_leaf rfl ⟨.inl rfl, .inl rfl, .inl rfl, .inl rfl, .inl rfl, trivial⟩
      show fu_J _ _ (fc_X d (some .boolean) k_X6_takeTest 130 [am_U, am_U, am_U, am_U, am_U] [.int (fu_b j27)] r26)
      exact fu_bret (b := j27) rfl rfl
  · refine fu_go 2 (pc' := 17) (ls' := [.ref 48, .int a1, .int r1, am_U, am_U]) (st' := [.int (117 : Int32), .int r1]) (s' := s) rfl ?_
    refine fu_ite (fun h29 => fu_step (fu_ic_eq_t rfl h29) ?_) (fun h29 => fu_step (fu_ic_eq_f rfl h29) ?_)
    · refine fu_go 1 (pc' := 36) (ls' := [.ref 48, .int a1, .int r1, am_U, am_U]) (st' := [.ref 48]) (s' := s) rfl ?_
      refine fu_step (fu_getR rfl fc_48 rfl rfl) ?_
      refine fu_let (fu_cVJ rfl rfl rfl rfl rfl (fu_recv fc_5 am_at_X8_next rfl) (e_X8_next d (by omega) s)) (fun r30 => ?_)
      show fu_J _ _ (fc_X d (some .boolean) k_X6_takeTest 42 [.ref 48, .int a1, .int r1, am_U, am_U] [] r30)
      refine fu_go 4 (pc' := 48) (ls' := [.ref 48, .int a1, .int r1, .int (7 : Int32), am_U]) (st' := [.int (118 : Int32), .int r1]) (s' := r30) rfl ?_
      refine fu_ite (fun h31 => fu_step (fu_ic_ne_t rfl h31) ?_) (fun h31 => fu_step (fu_ic_ne_f rfl h31) ?_)
      · refine fu_go 1 (pc' := 52) (ls' := [.ref 48, .int a1, .int r1, .int (7 : Int32), am_U]) (st' := [.ref 48]) (s' := r30) rfl ?_
        refine fu_step (fu_getR rfl fc_48 rfl rfl) ?_
        refine fu_bind (fu_cVJ rfl rfl rfl rfl rfl (fu_recv fc_5 am_at_X8_sortHere rfl) (e_X8_sortHere d (by omega) r30)) (fun r32 => ?_)
        show fu_J _ _ (fc_X d (some .boolean) k_X6_takeTest 58 [.ref 48, .int a1, .int r1, .int (7 : Int32), am_U] [.int r32] r30)
        refine fu_go 5 (pc' := 66) (ls' := [.ref 48, .int a1, .int r32, .int (9999 : Int32), am_U]) (st' := [.int (60 : Int32), .int r32]) (s' := r30) rfl ?_
        refine fu_ite (fun h33 => fu_step (fu_ic_eq_t rfl h33) ?_) (fun h33 => fu_step (fu_ic_eq_f rfl h33) ?_)
        · refine fu_go 1 (pc' := 91) (ls' := [.ref 48, .int a1, .int r32, .int (9999 : Int32), am_U]) (st' := [.ref 48]) (s' := r30) rfl ?_
          refine fu_step (fu_getR rfl fc_48 rfl rfl) ?_
          refine fu_let (fu_cVJ rfl rfl rfl rfl rfl (fu_recv fc_5 am_at_X8_next rfl) (e_X8_next d (by omega) r30)) (fun r34 => ?_)
          show fu_J _ _ (fc_X d (some .boolean) k_X6_takeTest 97 [.ref 48, .int a1, .int r32, .int (9999 : Int32), am_U] [] r34)
          refine fu_go 1 (pc' := 98) (ls' := [.ref 48, .int a1, .int r32, .int (9999 : Int32), am_U]) (st' := [.ref 48]) (s' := r34) rfl ?_
          refine fu_step (fu_getR rfl fc_48 rfl rfl) ?_
          refine fu_go 2 (pc' := 103) (ls' := [.ref 48, .int a1, .int r32, .int (9999 : Int32), am_U]) (st' := [.int (9999 : Int32), .int (0 : Int32), .ref 5]) (s' := r34) rfl ?_
          refine fu_bind (fu_cVJ rfl rfl rfl rfl rfl (fu_recv fc_5 am_at_X8_takeNumber rfl) (e_X8_takeNumber d (by omega) r34 (0 : Int32) (9999 : Int32))) (fun r35 => ?_)
          show fu_J _ _ (fc_X d (some .boolean) k_X6_takeTest 106 [.ref 48, .int a1, .int r32, .int (9999 : Int32), am_U] [.int r35.1] r35.2)
          refine fu_go 2 (pc' := 109) (ls' := [.ref 48, .int a1, .int r32, .int (9999 : Int32), .int r35.1]) (st' := [.ref 48]) (s' := r35.2) rfl ?_
          refine fu_step (fu_getR rfl fc_48 rfl rfl) ?_
          refine fu_go 3 (pc' := 116) (ls' := [.ref 48, .int a1, .int r32, .int (9999 : Int32), .int r35.1]) (st' := [.int r35.1, .int r32, .int a1, .ref 42]) (s' := r35.2) rfl ?_
          refine fu_bind (fu_cVJ rfl rfl rfl rfl rfl (fu_recv fc_42 am_at_X5_addStep rfl) (e_X5_addStep d (by omega) r35.2 42 fc_is4_42 a1 r32 r35.1)) (fun r36 => ?_)
          show fu_J _ _ (fc_X d (some .boolean) k_X6_takeTest 119 [.ref 48, .int a1, .int r32, .int (9999 : Int32), .int r35.1] [] r36)
          refine fu_go 2 (pc' := 122) (ls' := [.ref 48, .int a1, .int r32, .int (9999 : Int32), .int r35.1]) (st' := [.int (-1 : Int32), .int r35.1]) (s' := r36) rfl ?_
          refine fu_bind (V := fun j37 : Bool => fc_X d (some .boolean) k_X6_takeTest 130 [am_U, am_U, am_U, am_U, am_U] [.int (fu_b j37)] r36) ?_ (fun j37 => ?_)
          · refine fu_ite (fun h38 => fu_step (fu_ic_eq_t rfl h38) ?_) (fun h38 => fu_step (fu_ic_eq_f rfl h38) ?_)
            · refine fu_go 1 (pc' := 130) (ls' := [.ref 48, .int a1, .int r32, .int (9999 : Int32), .int r35.1]) (st' := [.int (0 : Int32)]) (s' := r36) rfl ?_
              exact fu_leaf rfl ⟨.inl rfl, .inl rfl, .inl rfl, .inl rfl, .inl rfl, trivial⟩
            · refine fu_go 2 (pc' := 130) (ls' := [.ref 48, .int a1, .int r32, .int (9999 : Int32), .int r35.1]) (st' := [.int (1 : Int32)]) (s' := r36) rfl ?_
              exact fu_leaf rfl ⟨.inl rfl, .inl rfl, .inl rfl, .inl rfl, .inl rfl, trivial⟩
          show fu_J _ _ (fc_X d (some .boolean) k_X6_takeTest 130 [am_U, am_U, am_U, am_U, am_U] [.int (fu_b j37)] r36)
          exact fu_bret (b := j37) rfl rfl
        · refine fu_go 2 (pc' := 72) (ls' := [.ref 48, .int a1, .int r32, .int (9999 : Int32), am_U]) (st' := [.int (62 : Int32), .int r32]) (s' := r30) rfl ?_
          refine fu_ite (fun h39 => fu_step (fu_ic_eq_t rfl h39) ?_) (fun h39 => fu_step (fu_ic_eq_f rfl h39) ?_)
          · refine fu_go 1 (pc' := 91) (ls' := [.ref 48, .int a1, .int r32, .int (9999 : Int32), am_U]) (st' := [.ref 48]) (s' := r30) rfl ?_
            refine fu_step (fu_getR rfl fc_48 rfl rfl) ?_
            refine fu_let (fu_cVJ rfl rfl rfl rfl rfl (fu_recv fc_5 am_at_X8_next rfl) (e_X8_next d (by omega) r30)) (fun r40 => ?_)
            show fu_J _ _ (fc_X d (some .boolean) k_X6_takeTest 97 [.ref 48, .int a1, .int r32, .int (9999 : Int32), am_U] [] r40)
            refine fu_go 1 (pc' := 98) (ls' := [.ref 48, .int a1, .int r32, .int (9999 : Int32), am_U]) (st' := [.ref 48]) (s' := r40) rfl ?_
            refine fu_step (fu_getR rfl fc_48 rfl rfl) ?_
            refine fu_go 2 (pc' := 103) (ls' := [.ref 48, .int a1, .int r32, .int (9999 : Int32), am_U]) (st' := [.int (9999 : Int32), .int (0 : Int32), .ref 5]) (s' := r40) rfl ?_
            refine fu_bind (fu_cVJ rfl rfl rfl rfl rfl (fu_recv fc_5 am_at_X8_takeNumber rfl) (e_X8_takeNumber d (by omega) r40 (0 : Int32) (9999 : Int32))) (fun r41 => ?_)
            show fu_J _ _ (fc_X d (some .boolean) k_X6_takeTest 106 [.ref 48, .int a1, .int r32, .int (9999 : Int32), am_U] [.int r41.1] r41.2)
            refine fu_go 2 (pc' := 109) (ls' := [.ref 48, .int a1, .int r32, .int (9999 : Int32), .int r41.1]) (st' := [.ref 48]) (s' := r41.2) rfl ?_
            refine fu_step (fu_getR rfl fc_48 rfl rfl) ?_
            refine fu_go 3 (pc' := 116) (ls' := [.ref 48, .int a1, .int r32, .int (9999 : Int32), .int r41.1]) (st' := [.int r41.1, .int r32, .int a1, .ref 42]) (s' := r41.2) rfl ?_
            refine fu_bind (fu_cVJ rfl rfl rfl rfl rfl (fu_recv fc_42 am_at_X5_addStep rfl) (e_X5_addStep d (by omega) r41.2 42 fc_is4_42 a1 r32 r41.1)) (fun r42 => ?_)
            show fu_J _ _ (fc_X d (some .boolean) k_X6_takeTest 119 [.ref 48, .int a1, .int r32, .int (9999 : Int32), .int r41.1] [] r42)
            refine fu_go 2 (pc' := 122) (ls' := [.ref 48, .int a1, .int r32, .int (9999 : Int32), .int r41.1]) (st' := [.int (-1 : Int32), .int r41.1]) (s' := r42) rfl ?_
            refine fu_bind (V := fun j43 : Bool => fc_X d (some .boolean) k_X6_takeTest 130 [am_U, am_U, am_U, am_U, am_U] [.int (fu_b j43)] r42) ?_ (fun j43 => ?_)
            · refine fu_ite (fun h44 => fu_step (fu_ic_eq_t rfl h44) ?_) (fun h44 => fu_step (fu_ic_eq_f rfl h44) ?_)
              · refine fu_go 1 (pc' := 130) (ls' := [.ref 48, .int a1, .int r32, .int (9999 : Int32), .int r41.1]) (st' := [.int (0 : Int32)]) (s' := r42) rfl ?_
                exact fu_leaf rfl ⟨.inl rfl, .inl rfl, .inl rfl, .inl rfl, .inl rfl, trivial⟩
              · refine fu_go 2 (pc' := 130) (ls' := [.ref 48, .int a1, .int r32, .int (9999 : Int32), .int r41.1]) (st' := [.int (1 : Int32)]) (s' := r42) rfl ?_
                exact fu_leaf rfl ⟨.inl rfl, .inl rfl, .inl rfl, .inl rfl, .inl rfl, trivial⟩
            show fu_J _ _ (fc_X d (some .boolean) k_X6_takeTest 130 [am_U, am_U, am_U, am_U, am_U] [.int (fu_b j43)] r42)
            exact fu_bret (b := j43) rfl rfl
          · refine fu_go 2 (pc' := 78) (ls' := [.ref 48, .int a1, .int r32, .int (9999 : Int32), am_U]) (st' := [.int (61 : Int32), .int r32]) (s' := r30) rfl ?_
            refine fu_ite (fun h45 => fu_step (fu_ic_eq_t rfl h45) ?_) (fun h45 => fu_step (fu_ic_eq_f rfl h45) ?_)
            · refine fu_go 1 (pc' := 91) (ls' := [.ref 48, .int a1, .int r32, .int (9999 : Int32), am_U]) (st' := [.ref 48]) (s' := r30) rfl ?_
              refine fu_step (fu_getR rfl fc_48 rfl rfl) ?_
              refine fu_let (fu_cVJ rfl rfl rfl rfl rfl (fu_recv fc_5 am_at_X8_next rfl) (e_X8_next d (by omega) r30)) (fun r46 => ?_)
              show fu_J _ _ (fc_X d (some .boolean) k_X6_takeTest 97 [.ref 48, .int a1, .int r32, .int (9999 : Int32), am_U] [] r46)
              refine fu_go 1 (pc' := 98) (ls' := [.ref 48, .int a1, .int r32, .int (9999 : Int32), am_U]) (st' := [.ref 48]) (s' := r46) rfl ?_
              refine fu_step (fu_getR rfl fc_48 rfl rfl) ?_
              refine fu_go 2 (pc' := 103) (ls' := [.ref 48, .int a1, .int r32, .int (9999 : Int32), am_U]) (st' := [.int (9999 : Int32), .int (0 : Int32), .ref 5]) (s' := r46) rfl ?_
              refine fu_bind (fu_cVJ rfl rfl rfl rfl rfl (fu_recv fc_5 am_at_X8_takeNumber rfl) (e_X8_takeNumber d (by omega) r46 (0 : Int32) (9999 : Int32))) (fun r47 => ?_)
              show fu_J _ _ (fc_X d (some .boolean) k_X6_takeTest 106 [.ref 48, .int a1, .int r32, .int (9999 : Int32), am_U] [.int r47.1] r47.2)
              refine fu_go 2 (pc' := 109) (ls' := [.ref 48, .int a1, .int r32, .int (9999 : Int32), .int r47.1]) (st' := [.ref 48]) (s' := r47.2) rfl ?_
              refine fu_step (fu_getR rfl fc_48 rfl rfl) ?_
              refine fu_go 3 (pc' := 116) (ls' := [.ref 48, .int a1, .int r32, .int (9999 : Int32), .int r47.1]) (st' := [.int r47.1, .int r32, .int a1, .ref 42]) (s' := r47.2) rfl ?_
              refine fu_bind (fu_cVJ rfl rfl rfl rfl rfl (fu_recv fc_42 am_at_X5_addStep rfl) (e_X5_addStep d (by omega) r47.2 42 fc_is4_42 a1 r32 r47.1)) (fun r48 => ?_)
              show fu_J _ _ (fc_X d (some .boolean) k_X6_takeTest 119 [.ref 48, .int a1, .int r32, .int (9999 : Int32), .int r47.1] [] r48)
              refine fu_go 2 (pc' := 122) (ls' := [.ref 48, .int a1, .int r32, .int (9999 : Int32), .int r47.1]) (st' := [.int (-1 : Int32), .int r47.1]) (s' := r48) rfl ?_
              refine fu_bind (V := fun j49 : Bool => fc_X d (some .boolean) k_X6_takeTest 130 [am_U, am_U, am_U, am_U, am_U] [.int (fu_b j49)] r48) ?_ (fun j49 => ?_)
              · refine fu_ite (fun h50 => fu_step (fu_ic_eq_t rfl h50) ?_) (fun h50 => fu_step (fu_ic_eq_f rfl h50) ?_)
                · refine fu_go 1 (pc' := 130) (ls' := [.ref 48, .int a1, .int r32, .int (9999 : Int32), .int r47.1]) (st' := [.int (0 : Int32)]) (s' := r48) rfl ?_
                  exact fu_leaf rfl ⟨.inl rfl, .inl rfl, .inl rfl, .inl rfl, .inl rfl, trivial⟩
                · refine fu_go 2 (pc' := 130) (ls' := [.ref 48, .int a1, .int r32, .int (9999 : Int32), .int r47.1]) (st' := [.int (1 : Int32)]) (s' := r48) rfl ?_
                  exact fu_leaf rfl ⟨.inl rfl, .inl rfl, .inl rfl, .inl rfl, .inl rfl, trivial⟩
              show fu_J _ _ (fc_X d (some .boolean) k_X6_takeTest 130 [am_U, am_U, am_U, am_U, am_U] [.int (fu_b j49)] r48)
              exact fu_bret (b := j49) rfl rfl
            · refine fu_go 1 (pc' := 82) (ls' := [.ref 48, .int a1, .int r32, .int (9999 : Int32), am_U]) (st' := [.ref 48]) (s' := r30) rfl ?_
              refine fu_step (fu_getR rfl fc_48 rfl rfl) ?_
              refine fu_go 1 (pc' := 86) (ls' := [.ref 48, .int a1, .int r32, .int (9999 : Int32), am_U]) (st' := [.int (2 : Int32), .ref 5]) (s' := r30) rfl ?_
              refine fu_bind (fu_cVJ rfl rfl rfl rfl rfl (fu_recv fc_5 am_at_X8_refuse rfl) (e_X8_refuse d (by omega) r30 (2 : Int32))) (fun r51 => ?_)
              show fu_J _ _ (fc_X d (some .boolean) k_X6_takeTest 89 [.ref 48, .int a1, .int r32, .int (9999 : Int32), am_U] [.int (fu_b r51.1)] r51.2)
              exact fu_bret (b := r51.1) rfl rfl
      · refine fu_go 1 (pc' := 98) (ls' := [.ref 48, .int a1, .int r1, .int (7 : Int32), am_U]) (st' := [.ref 48]) (s' := r30) rfl ?_
        refine fu_step (fu_getR rfl fc_48 rfl rfl) ?_
        refine fu_go 2 (pc' := 103) (ls' := [.ref 48, .int a1, .int r1, .int (7 : Int32), am_U]) (st' := [.int (7 : Int32), .int (0 : Int32), .ref 5]) (s' := r30) rfl ?_
        refine fu_bind (fu_cVJ rfl rfl rfl rfl rfl (fu_recv fc_5 am_at_X8_takeNumber rfl) (e_X8_takeNumber d (by omega) r30 (0 : Int32) (7 : Int32))) (fun r52 => ?_)
        show fu_J _ _ (fc_X d (some .boolean) k_X6_takeTest 106 [.ref 48, .int a1, .int r1, .int (7 : Int32), am_U] [.int r52.1] r52.2)
        refine fu_go 2 (pc' := 109) (ls' := [.ref 48, .int a1, .int r1, .int (7 : Int32), .int r52.1]) (st' := [.ref 48]) (s' := r52.2) rfl ?_
        refine fu_step (fu_getR rfl fc_48 rfl rfl) ?_
        refine fu_go 3 (pc' := 116) (ls' := [.ref 48, .int a1, .int r1, .int (7 : Int32), .int r52.1]) (st' := [.int r52.1, .int r1, .int a1, .ref 42]) (s' := r52.2) rfl ?_
        refine fu_bind (fu_cVJ rfl rfl rfl rfl rfl (fu_recv fc_42 am_at_X5_addStep rfl) (e_X5_addStep d (by omega) r52.2 42 fc_is4_42 a1 r1 r52.1)) (fun r53 => ?_)
        show fu_J _ _ (fc_X d (some .boolean) k_X6_takeTest 119 [.ref 48, .int a1, .int r1, .int (7 : Int32), .int r52.1] [] r53)
        refine fu_go 2 (pc' := 122) (ls' := [.ref 48, .int a1, .int r1, .int (7 : Int32), .int r52.1]) (st' := [.int (-1 : Int32), .int r52.1]) (s' := r53) rfl ?_
        refine fu_bind (V := fun j54 : Bool => fc_X d (some .boolean) k_X6_takeTest 130 [am_U, am_U, am_U, am_U, am_U] [.int (fu_b j54)] r53) ?_ (fun j54 => ?_)
        · refine fu_ite (fun h55 => fu_step (fu_ic_eq_t rfl h55) ?_) (fun h55 => fu_step (fu_ic_eq_f rfl h55) ?_)
          · refine fu_go 1 (pc' := 130) (ls' := [.ref 48, .int a1, .int r1, .int (7 : Int32), .int r52.1]) (st' := [.int (0 : Int32)]) (s' := r53) rfl ?_
            exact fu_leaf rfl ⟨.inl rfl, .inl rfl, .inl rfl, .inl rfl, .inl rfl, trivial⟩
          · refine fu_go 2 (pc' := 130) (ls' := [.ref 48, .int a1, .int r1, .int (7 : Int32), .int r52.1]) (st' := [.int (1 : Int32)]) (s' := r53) rfl ?_
            exact fu_leaf rfl ⟨.inl rfl, .inl rfl, .inl rfl, .inl rfl, .inl rfl, trivial⟩
        show fu_J _ _ (fc_X d (some .boolean) k_X6_takeTest 130 [am_U, am_U, am_U, am_U, am_U] [.int (fu_b j54)] r53)
        exact fu_bret (b := j54) rfl rfl
    · refine fu_go 2 (pc' := 23) (ls' := [.ref 48, .int a1, .int r1, am_U, am_U]) (st' := [.int (118 : Int32), .int r1]) (s' := s) rfl ?_
      refine fu_ite (fun h56 => fu_step (fu_ic_eq_t rfl h56) ?_) (fun h56 => fu_step (fu_ic_eq_f rfl h56) ?_)
      · refine fu_go 1 (pc' := 36) (ls' := [.ref 48, .int a1, .int r1, am_U, am_U]) (st' := [.ref 48]) (s' := s) rfl ?_
        refine fu_step (fu_getR rfl fc_48 rfl rfl) ?_
        refine fu_let (fu_cVJ rfl rfl rfl rfl rfl (fu_recv fc_5 am_at_X8_next rfl) (e_X8_next d (by omega) s)) (fun r57 => ?_)
        show fu_J _ _ (fc_X d (some .boolean) k_X6_takeTest 42 [.ref 48, .int a1, .int r1, am_U, am_U] [] r57)
        refine fu_go 4 (pc' := 48) (ls' := [.ref 48, .int a1, .int r1, .int (7 : Int32), am_U]) (st' := [.int (118 : Int32), .int r1]) (s' := r57) rfl ?_
        refine fu_ite (fun h58 => fu_step (fu_ic_ne_t rfl h58) ?_) (fun h58 => fu_step (fu_ic_ne_f rfl h58) ?_)
        · refine fu_go 1 (pc' := 52) (ls' := [.ref 48, .int a1, .int r1, .int (7 : Int32), am_U]) (st' := [.ref 48]) (s' := r57) rfl ?_
          refine fu_step (fu_getR rfl fc_48 rfl rfl) ?_
          refine fu_bind (fu_cVJ rfl rfl rfl rfl rfl (fu_recv fc_5 am_at_X8_sortHere rfl) (e_X8_sortHere d (by omega) r57)) (fun r59 => ?_)
          show fu_J _ _ (fc_X d (some .boolean) k_X6_takeTest 58 [.ref 48, .int a1, .int r1, .int (7 : Int32), am_U] [.int r59] r57)
          refine fu_go 5 (pc' := 66) (ls' := [.ref 48, .int a1, .int r59, .int (9999 : Int32), am_U]) (st' := [.int (60 : Int32), .int r59]) (s' := r57) rfl ?_
          refine fu_ite (fun h60 => fu_step (fu_ic_eq_t rfl h60) ?_) (fun h60 => fu_step (fu_ic_eq_f rfl h60) ?_)
          · refine fu_go 1 (pc' := 91) (ls' := [.ref 48, .int a1, .int r59, .int (9999 : Int32), am_U]) (st' := [.ref 48]) (s' := r57) rfl ?_
            refine fu_step (fu_getR rfl fc_48 rfl rfl) ?_
            refine fu_let (fu_cVJ rfl rfl rfl rfl rfl (fu_recv fc_5 am_at_X8_next rfl) (e_X8_next d (by omega) r57)) (fun r61 => ?_)
            show fu_J _ _ (fc_X d (some .boolean) k_X6_takeTest 97 [.ref 48, .int a1, .int r59, .int (9999 : Int32), am_U] [] r61)
            refine fu_go 1 (pc' := 98) (ls' := [.ref 48, .int a1, .int r59, .int (9999 : Int32), am_U]) (st' := [.ref 48]) (s' := r61) rfl ?_
            refine fu_step (fu_getR rfl fc_48 rfl rfl) ?_
            refine fu_go 2 (pc' := 103) (ls' := [.ref 48, .int a1, .int r59, .int (9999 : Int32), am_U]) (st' := [.int (9999 : Int32), .int (0 : Int32), .ref 5]) (s' := r61) rfl ?_
            refine fu_bind (fu_cVJ rfl rfl rfl rfl rfl (fu_recv fc_5 am_at_X8_takeNumber rfl) (e_X8_takeNumber d (by omega) r61 (0 : Int32) (9999 : Int32))) (fun r62 => ?_)
            show fu_J _ _ (fc_X d (some .boolean) k_X6_takeTest 106 [.ref 48, .int a1, .int r59, .int (9999 : Int32), am_U] [.int r62.1] r62.2)
            refine fu_go 2 (pc' := 109) (ls' := [.ref 48, .int a1, .int r59, .int (9999 : Int32), .int r62.1]) (st' := [.ref 48]) (s' := r62.2) rfl ?_
            refine fu_step (fu_getR rfl fc_48 rfl rfl) ?_
            refine fu_go 3 (pc' := 116) (ls' := [.ref 48, .int a1, .int r59, .int (9999 : Int32), .int r62.1]) (st' := [.int r62.1, .int r59, .int a1, .ref 42]) (s' := r62.2) rfl ?_
            refine fu_bind (fu_cVJ rfl rfl rfl rfl rfl (fu_recv fc_42 am_at_X5_addStep rfl) (e_X5_addStep d (by omega) r62.2 42 fc_is4_42 a1 r59 r62.1)) (fun r63 => ?_)
            show fu_J _ _ (fc_X d (some .boolean) k_X6_takeTest 119 [.ref 48, .int a1, .int r59, .int (9999 : Int32), .int r62.1] [] r63)
            refine fu_go 2 (pc' := 122) (ls' := [.ref 48, .int a1, .int r59, .int (9999 : Int32), .int r62.1]) (st' := [.int (-1 : Int32), .int r62.1]) (s' := r63) rfl ?_
            refine fu_bind (V := fun j64 : Bool => fc_X d (some .boolean) k_X6_takeTest 130 [am_U, am_U, am_U, am_U, am_U] [.int (fu_b j64)] r63) ?_ (fun j64 => ?_)
            · refine fu_ite (fun h65 => fu_step (fu_ic_eq_t rfl h65) ?_) (fun h65 => fu_step (fu_ic_eq_f rfl h65) ?_)
              · refine fu_go 1 (pc' := 130) (ls' := [.ref 48, .int a1, .int r59, .int (9999 : Int32), .int r62.1]) (st' := [.int (0 : Int32)]) (s' := r63) rfl ?_
                exact fu_leaf rfl ⟨.inl rfl, .inl rfl, .inl rfl, .inl rfl, .inl rfl, trivial⟩
              · refine fu_go 2 (pc' := 130) (ls' := [.ref 48, .int a1, .int r59, .int (9999 : Int32), .int r62.1]) (st' := [.int (1 : Int32)]) (s' := r63) rfl ?_
                exact fu_leaf rfl ⟨.inl rfl, .inl rfl, .inl rfl, .inl rfl, .inl rfl, trivial⟩
            show fu_J _ _ (fc_X d (some .boolean) k_X6_takeTest 130 [am_U, am_U, am_U, am_U, am_U] [.int (fu_b j64)] r63)
            exact fu_bret (b := j64) rfl rfl
          · refine fu_go 2 (pc' := 72) (ls' := [.ref 48, .int a1, .int r59, .int (9999 : Int32), am_U]) (st' := [.int (62 : Int32), .int r59]) (s' := r57) rfl ?_
            refine fu_ite (fun h66 => fu_step (fu_ic_eq_t rfl h66) ?_) (fun h66 => fu_step (fu_ic_eq_f rfl h66) ?_)
            · refine fu_go 1 (pc' := 91) (ls' := [.ref 48, .int a1, .int r59, .int (9999 : Int32), am_U]) (st' := [.ref 48]) (s' := r57) rfl ?_
              refine fu_step (fu_getR rfl fc_48 rfl rfl) ?_
              refine fu_let (fu_cVJ rfl rfl rfl rfl rfl (fu_recv fc_5 am_at_X8_next rfl) (e_X8_next d (by omega) r57)) (fun r67 => ?_)
              show fu_J _ _ (fc_X d (some .boolean) k_X6_takeTest 97 [.ref 48, .int a1, .int r59, .int (9999 : Int32), am_U] [] r67)
              refine fu_go 1 (pc' := 98) (ls' := [.ref 48, .int a1, .int r59, .int (9999 : Int32), am_U]) (st' := [.ref 48]) (s' := r67) rfl ?_
              refine fu_step (fu_getR rfl fc_48 rfl rfl) ?_
              refine fu_go 2 (pc' := 103) (ls' := [.ref 48, .int a1, .int r59, .int (9999 : Int32), am_U]) (st' := [.int (9999 : Int32), .int (0 : Int32), .ref 5]) (s' := r67) rfl ?_
              refine fu_bind (fu_cVJ rfl rfl rfl rfl rfl (fu_recv fc_5 am_at_X8_takeNumber rfl) (e_X8_takeNumber d (by omega) r67 (0 : Int32) (9999 : Int32))) (fun r68 => ?_)
              show fu_J _ _ (fc_X d (some .boolean) k_X6_takeTest 106 [.ref 48, .int a1, .int r59, .int (9999 : Int32), am_U] [.int r68.1] r68.2)
              refine fu_go 2 (pc' := 109) (ls' := [.ref 48, .int a1, .int r59, .int (9999 : Int32), .int r68.1]) (st' := [.ref 48]) (s' := r68.2) rfl ?_
              refine fu_step (fu_getR rfl fc_48 rfl rfl) ?_
              refine fu_go 3 (pc' := 116) (ls' := [.ref 48, .int a1, .int r59, .int (9999 : Int32), .int r68.1]) (st' := [.int r68.1, .int r59, .int a1, .ref 42]) (s' := r68.2) rfl ?_
              refine fu_bind (fu_cVJ rfl rfl rfl rfl rfl (fu_recv fc_42 am_at_X5_addStep rfl) (e_X5_addStep d (by omega) r68.2 42 fc_is4_42 a1 r59 r68.1)) (fun r69 => ?_)
              show fu_J _ _ (fc_X d (some .boolean) k_X6_takeTest 119 [.ref 48, .int a1, .int r59, .int (9999 : Int32), .int r68.1] [] r69)
              refine fu_go 2 (pc' := 122) (ls' := [.ref 48, .int a1, .int r59, .int (9999 : Int32), .int r68.1]) (st' := [.int (-1 : Int32), .int r68.1]) (s' := r69) rfl ?_
              refine fu_bind (V := fun j70 : Bool => fc_X d (some .boolean) k_X6_takeTest 130 [am_U, am_U, am_U, am_U, am_U] [.int (fu_b j70)] r69) ?_ (fun j70 => ?_)
              · refine fu_ite (fun h71 => fu_step (fu_ic_eq_t rfl h71) ?_) (fun h71 => fu_step (fu_ic_eq_f rfl h71) ?_)
                · refine fu_go 1 (pc' := 130) (ls' := [.ref 48, .int a1, .int r59, .int (9999 : Int32), .int r68.1]) (st' := [.int (0 : Int32)]) (s' := r69) rfl ?_
                  exact fu_leaf rfl ⟨.inl rfl, .inl rfl, .inl rfl, .inl rfl, .inl rfl, trivial⟩
                · refine fu_go 2 (pc' := 130) (ls' := [.ref 48, .int a1, .int r59, .int (9999 : Int32), .int r68.1]) (st' := [.int (1 : Int32)]) (s' := r69) rfl ?_
                  exact fu_leaf rfl ⟨.inl rfl, .inl rfl, .inl rfl, .inl rfl, .inl rfl, trivial⟩
              show fu_J _ _ (fc_X d (some .boolean) k_X6_takeTest 130 [am_U, am_U, am_U, am_U, am_U] [.int (fu_b j70)] r69)
              exact fu_bret (b := j70) rfl rfl
            · refine fu_go 2 (pc' := 78) (ls' := [.ref 48, .int a1, .int r59, .int (9999 : Int32), am_U]) (st' := [.int (61 : Int32), .int r59]) (s' := r57) rfl ?_
              refine fu_ite (fun h72 => fu_step (fu_ic_eq_t rfl h72) ?_) (fun h72 => fu_step (fu_ic_eq_f rfl h72) ?_)
              · refine fu_go 1 (pc' := 91) (ls' := [.ref 48, .int a1, .int r59, .int (9999 : Int32), am_U]) (st' := [.ref 48]) (s' := r57) rfl ?_
                refine fu_step (fu_getR rfl fc_48 rfl rfl) ?_
                refine fu_let (fu_cVJ rfl rfl rfl rfl rfl (fu_recv fc_5 am_at_X8_next rfl) (e_X8_next d (by omega) r57)) (fun r73 => ?_)
                show fu_J _ _ (fc_X d (some .boolean) k_X6_takeTest 97 [.ref 48, .int a1, .int r59, .int (9999 : Int32), am_U] [] r73)
                refine fu_go 1 (pc' := 98) (ls' := [.ref 48, .int a1, .int r59, .int (9999 : Int32), am_U]) (st' := [.ref 48]) (s' := r73) rfl ?_
                refine fu_step (fu_getR rfl fc_48 rfl rfl) ?_
                refine fu_go 2 (pc' := 103) (ls' := [.ref 48, .int a1, .int r59, .int (9999 : Int32), am_U]) (st' := [.int (9999 : Int32), .int (0 : Int32), .ref 5]) (s' := r73) rfl ?_
                refine fu_bind (fu_cVJ rfl rfl rfl rfl rfl (fu_recv fc_5 am_at_X8_takeNumber rfl) (e_X8_takeNumber d (by omega) r73 (0 : Int32) (9999 : Int32))) (fun r74 => ?_)
                show fu_J _ _ (fc_X d (some .boolean) k_X6_takeTest 106 [.ref 48, .int a1, .int r59, .int (9999 : Int32), am_U] [.int r74.1] r74.2)
                refine fu_go 2 (pc' := 109) (ls' := [.ref 48, .int a1, .int r59, .int (9999 : Int32), .int r74.1]) (st' := [.ref 48]) (s' := r74.2) rfl ?_
                refine fu_step (fu_getR rfl fc_48 rfl rfl) ?_
                refine fu_go 3 (pc' := 116) (ls' := [.ref 48, .int a1, .int r59, .int (9999 : Int32), .int r74.1]) (st' := [.int r74.1, .int r59, .int a1, .ref 42]) (s' := r74.2) rfl ?_
                refine fu_bind (fu_cVJ rfl rfl rfl rfl rfl (fu_recv fc_42 am_at_X5_addStep rfl) (e_X5_addStep d (by omega) r74.2 42 fc_is4_42 a1 r59 r74.1)) (fun r75 => ?_)
                show fu_J _ _ (fc_X d (some .boolean) k_X6_takeTest 119 [.ref 48, .int a1, .int r59, .int (9999 : Int32), .int r74.1] [] r75)
                refine fu_go 2 (pc' := 122) (ls' := [.ref 48, .int a1, .int r59, .int (9999 : Int32), .int r74.1]) (st' := [.int (-1 : Int32), .int r74.1]) (s' := r75) rfl ?_
                refine fu_bind (V := fun j76 : Bool => fc_X d (some .boolean) k_X6_takeTest 130 [am_U, am_U, am_U, am_U, am_U] [.int (fu_b j76)] r75) ?_ (fun j76 => ?_)
                · refine fu_ite (fun h77 => fu_step (fu_ic_eq_t rfl h77) ?_) (fun h77 => fu_step (fu_ic_eq_f rfl h77) ?_)
                  · refine fu_go 1 (pc' := 130) (ls' := [.ref 48, .int a1, .int r59, .int (9999 : Int32), .int r74.1]) (st' := [.int (0 : Int32)]) (s' := r75) rfl ?_
                    exact fu_leaf rfl ⟨.inl rfl, .inl rfl, .inl rfl, .inl rfl, .inl rfl, trivial⟩
                  · refine fu_go 2 (pc' := 130) (ls' := [.ref 48, .int a1, .int r59, .int (9999 : Int32), .int r74.1]) (st' := [.int (1 : Int32)]) (s' := r75) rfl ?_
                    exact fu_leaf rfl ⟨.inl rfl, .inl rfl, .inl rfl, .inl rfl, .inl rfl, trivial⟩
                show fu_J _ _ (fc_X d (some .boolean) k_X6_takeTest 130 [am_U, am_U, am_U, am_U, am_U] [.int (fu_b j76)] r75)
                exact fu_bret (b := j76) rfl rfl
              · refine fu_go 1 (pc' := 82) (ls' := [.ref 48, .int a1, .int r59, .int (9999 : Int32), am_U]) (st' := [.ref 48]) (s' := r57) rfl ?_
                refine fu_step (fu_getR rfl fc_48 rfl rfl) ?_
                refine fu_go 1 (pc' := 86) (ls' := [.ref 48, .int a1, .int r59, .int (9999 : Int32), am_U]) (st' := [.int (2 : Int32), .ref 5]) (s' := r57) rfl ?_
                refine fu_bind (fu_cVJ rfl rfl rfl rfl rfl (fu_recv fc_5 am_at_X8_refuse rfl) (e_X8_refuse d (by omega) r57 (2 : Int32))) (fun r78 => ?_)
                show fu_J _ _ (fc_X d (some .boolean) k_X6_takeTest 89 [.ref 48, .int a1, .int r59, .int (9999 : Int32), am_U] [.int (fu_b r78.1)] r78.2)
                exact fu_bret (b := r78.1) rfl rfl
        · refine fu_go 1 (pc' := 98) (ls' := [.ref 48, .int a1, .int r1, .int (7 : Int32), am_U]) (st' := [.ref 48]) (s' := r57) rfl ?_
          refine fu_step (fu_getR rfl fc_48 rfl rfl) ?_
          refine fu_go 2 (pc' := 103) (ls' := [.ref 48, .int a1, .int r1, .int (7 : Int32), am_U]) (st' := [.int (7 : Int32), .int (0 : Int32), .ref 5]) (s' := r57) rfl ?_
          refine fu_bind (fu_cVJ rfl rfl rfl rfl rfl (fu_recv fc_5 am_at_X8_takeNumber rfl) (e_X8_takeNumber d (by omega) r57 (0 : Int32) (7 : Int32))) (fun r79 => ?_)
          show fu_J _ _ (fc_X d (some .boolean) k_X6_takeTest 106 [.ref 48, .int a1, .int r1, .int (7 : Int32), am_U] [.int r79.1] r79.2)
          refine fu_go 2 (pc' := 109) (ls' := [.ref 48, .int a1, .int r1, .int (7 : Int32), .int r79.1]) (st' := [.ref 48]) (s' := r79.2) rfl ?_
          refine fu_step (fu_getR rfl fc_48 rfl rfl) ?_
          refine fu_go 3 (pc' := 116) (ls' := [.ref 48, .int a1, .int r1, .int (7 : Int32), .int r79.1]) (st' := [.int r79.1, .int r1, .int a1, .ref 42]) (s' := r79.2) rfl ?_
          refine fu_bind (fu_cVJ rfl rfl rfl rfl rfl (fu_recv fc_42 am_at_X5_addStep rfl) (e_X5_addStep d (by omega) r79.2 42 fc_is4_42 a1 r1 r79.1)) (fun r80 => ?_)
          show fu_J _ _ (fc_X d (some .boolean) k_X6_takeTest 119 [.ref 48, .int a1, .int r1, .int (7 : Int32), .int r79.1] [] r80)
          refine fu_go 2 (pc' := 122) (ls' := [.ref 48, .int a1, .int r1, .int (7 : Int32), .int r79.1]) (st' := [.int (-1 : Int32), .int r79.1]) (s' := r80) rfl ?_
          refine fu_bind (V := fun j81 : Bool => fc_X d (some .boolean) k_X6_takeTest 130 [am_U, am_U, am_U, am_U, am_U] [.int (fu_b j81)] r80) ?_ (fun j81 => ?_)
          · refine fu_ite (fun h82 => fu_step (fu_ic_eq_t rfl h82) ?_) (fun h82 => fu_step (fu_ic_eq_f rfl h82) ?_)
            · refine fu_go 1 (pc' := 130) (ls' := [.ref 48, .int a1, .int r1, .int (7 : Int32), .int r79.1]) (st' := [.int (0 : Int32)]) (s' := r80) rfl ?_
              exact fu_leaf rfl ⟨.inl rfl, .inl rfl, .inl rfl, .inl rfl, .inl rfl, trivial⟩
            · refine fu_go 2 (pc' := 130) (ls' := [.ref 48, .int a1, .int r1, .int (7 : Int32), .int r79.1]) (st' := [.int (1 : Int32)]) (s' := r80) rfl ?_
              exact fu_leaf rfl ⟨.inl rfl, .inl rfl, .inl rfl, .inl rfl, .inl rfl, trivial⟩
          show fu_J _ _ (fc_X d (some .boolean) k_X6_takeTest 130 [am_U, am_U, am_U, am_U, am_U] [.int (fu_b j81)] r80)
          exact fu_bret (b := j81) rfl rfl
      · refine fu_go 1 (pc' := 27) (ls' := [.ref 48, .int a1, .int r1, am_U, am_U]) (st' := [.ref 48]) (s' := s) rfl ?_
        refine fu_step (fu_getR rfl fc_48 rfl rfl) ?_
        refine fu_go 1 (pc' := 31) (ls' := [.ref 48, .int a1, .int r1, am_U, am_U]) (st' := [.int (2 : Int32), .ref 5]) (s' := s) rfl ?_
        refine fu_bind (fu_cVJ rfl rfl rfl rfl rfl (fu_recv fc_5 am_at_X8_refuse rfl) (e_X8_refuse d (by omega) s (2 : Int32))) (fun r83 => ?_)
        show fu_J _ _ (fc_X d (some .boolean) k_X6_takeTest 34 [.ref 48, .int a1, .int r1, am_U, am_U] [.int (fu_b r83.1)] r83.2)
        exact fu_bret (b := r83.1) rfl rfl
