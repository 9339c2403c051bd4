/-! printed by wip/whole/lift/lift.py: the small machine comes to what the functions answer -/
/-! X12_readPart -/
set_option maxRecDepth 100000 in
theorem e_X12_readPart (d : Nat) (hd : 7 ≤ d) (s : fu_S) : fu_J (f_X12_readPart s) (fun r => some (none, r)) (am_D (fu_ho fr_sh) am_m d 296 [.ref 117] s) := by
  obtain ⟨d, rfl⟩ : ∃ e, d = e + 1 := ⟨d - 1, by omega⟩
  refine fu_enter (ls := [.ref 117]) am_at_X12_readPart rfl rfl ?_
  show fu_J _ _ (fr_X d none k_X12_readPart 0 [.ref 117] [] s)
  unfold f_X12_readPart
  refine fu_go 1 (pc' := 1) (ls' := [.ref 117]) (st' := [.ref 117]) (s' := s) rfl ?_
  refine fu_step (fu_cV rfl rfl rfl rfl rfl (fu_recv fr_117 am_at_X12_isOdds rfl) (fu_eq (e_X12_isOdds d (by omega) s) rfl)) ?_
  show fu_J _ _ (fr_X d none k_X12_readPart 4 [.ref 117] [.int (fu_b (f_X12_isOdds s))] s)
  refine fu_bind (V := fun j1 : fu_S => fr_X d none k_X12_readPart 80 [am_U] [] j1) ?_ (fun j1 => ?_)
  · refine fu_ite (fun h2 => fu_step (fu_ib_eq_t rfl h2) ?_) (fun h2 => fu_step (fu_ib_eq_f rfl h2) ?_)
    · refine fu_go 3 (pc' := 11) (ls' := [.ref 117]) (st' := [.int (16 : Int32), .int (3 : Int32), .ref 117]) (s' := s) rfl ?_
      refine fu_bind (fu_cVJ rfl rfl rfl rfl rfl (fu_recv fr_117 am_at_X12_readOnce rfl) (e_X12_readOnce d (by omega) s (3 : Int32) (16 : Int32))) (fun r3 => ?_)
      show fu_J _ _ (fr_X d none k_X12_readPart 14 [.ref 117] [] r3)
      refine fu_go 1 (pc' := 80) (ls' := [.ref 117]) (st' := []) (s' := r3) rfl ?_
      exact fu_leaf rfl ⟨.inl rfl, trivial⟩
    · refine fu_go 1 (pc' := 18) (ls' := [.ref 117]) (st' := [.ref 117]) (s' := s) rfl ?_
      refine fu_step (fu_cV rfl rfl rfl rfl rfl (fu_recv fr_117 am_at_X12_isArm rfl) (fu_eq (e_X12_isArm d (by omega) s) rfl)) ?_
      show fu_J _ _ (fr_X d none k_X12_readPart 21 [.ref 117] [.int (fu_b (f_X12_isArm s))] s)
      refine fu_ite (fun h4 => fu_step (fu_ib_eq_t rfl h4) ?_) (fun h4 => fu_step (fu_ib_eq_f rfl h4) ?_)
      · refine fu_go 3 (pc' := 28) (ls' := [.ref 117]) (st' := [.int (59 : Int32), .int (4 : Int32), .ref 117]) (s' := s) rfl ?_
        refine fu_bind (fu_cVJ rfl rfl rfl rfl rfl (fu_recv fr_117 am_at_X12_readOnce rfl) (e_X12_readOnce d (by omega) s (4 : Int32) (59 : Int32))) (fun r5 => ?_)
        show fu_J _ _ (fr_X d none k_X12_readPart 31 [.ref 117] [] r5)
        refine fu_go 1 (pc' := 80) (ls' := [.ref 117]) (st' := []) (s' := r5) rfl ?_
        exact fu_leaf rfl ⟨.inl rfl, trivial⟩
      · refine fu_go 1 (pc' := 35) (ls' := [.ref 117]) (st' := [.ref 117]) (s' := s) rfl ?_
        refine fu_step (fu_cV rfl rfl rfl rfl rfl (fu_recv fr_117 am_at_X12_isKindWord rfl) (fu_eq (e_X12_isKindWord d (by omega) s) rfl)) ?_
        show fu_J _ _ (fr_X d none k_X12_readPart 38 [.ref 117] [.int (fu_b (f_X12_isKindWord s))] s)
        refine fu_ite (fun h6 => fu_step (fu_ib_eq_t rfl h6) ?_) (fun h6 => fu_step (fu_ib_eq_f rfl h6) ?_)
        · refine fu_go 1 (pc' := 42) (ls' := [.ref 117]) (st' := [.ref 117]) (s' := s) rfl ?_
          refine fu_bind (fu_cVJ rfl rfl rfl rfl rfl (fu_recv fr_117 am_at_X12_readKind rfl) (e_X12_readKind d (by omega) s)) (fun r7 => ?_)
          show fu_J _ _ (fr_X d none k_X12_readPart 45 [.ref 117] [] r7)
          refine fu_go 1 (pc' := 80) (ls' := [.ref 117]) (st' := []) (s' := r7) rfl ?_
          exact fu_leaf rfl ⟨.inl rfl, trivial⟩
        · refine fu_go 1 (pc' := 49) (ls' := [.ref 117]) (st' := [.ref 117]) (s' := s) rfl ?_
          refine fu_step (fu_cV rfl rfl rfl rfl rfl (fu_recv fr_117 am_at_X12_isPerson rfl) (fu_eq (e_X12_isPerson d (by omega) s) rfl)) ?_
          show fu_J _ _ (fr_X d none k_X12_readPart 52 [.ref 117] [.int (fu_b (f_X12_isPerson s))] s)
          refine fu_ite (fun h8 => fu_step (fu_ib_eq_t rfl h8) ?_) (fun h8 => fu_step (fu_ib_eq_f rfl h8) ?_)
          · refine fu_go 1 (pc' := 56) (ls' := [.ref 117]) (st' := [.ref 117]) (s' := s) rfl ?_
            refine fu_bind (fu_cVJ rfl rfl rfl rfl rfl (fu_recv fr_117 am_at_X12_readPerson rfl) (e_X12_readPerson d (by omega) s)) (fun r9 => ?_)
            show fu_J _ _ (fr_X d none k_X12_readPart 59 [.ref 117] [] r9)
            refine fu_go 1 (pc' := 80) (ls' := [.ref 117]) (st' := []) (s' := r9) rfl ?_
            exact fu_leaf rfl ⟨.inl rfl, trivial⟩
          · refine fu_go 1 (pc' := 63) (ls' := [.ref 117]) (st' := [.ref 117]) (s' := s) rfl ?_
            refine fu_step (fu_cV rfl rfl rfl rfl rfl (fu_recv fr_117 am_at_X12_isThing rfl) (fu_eq (e_X12_isThing d (by omega) s) rfl)) ?_
            show fu_J _ _ (fr_X d none k_X12_readPart 66 [.ref 117] [.int (fu_b (f_X12_isThing s))] s)
            refine fu_ite (fun h10 => fu_step (fu_ib_eq_t rfl h10) ?_) (fun h10 => fu_step (fu_ib_eq_f rfl h10) ?_)
            · refine fu_go 1 (pc' := 70) (ls' := [.ref 117]) (st' := [.ref 117]) (s' := s) rfl ?_
              refine fu_bind (fu_cVJ rfl rfl rfl rfl rfl (fu_recv fr_117 am_at_X12_readThing rfl) (e_X12_readThing d (by omega) s)) (fun r11 => ?_)
              show fu_J _ _ (fr_X d none k_X12_readPart 73 [.ref 117] [] r11)
              refine fu_go 1 (pc' := 80) (ls' := [.ref 117]) (st' := []) (s' := r11) rfl ?_
              exact fu_leaf rfl ⟨.inl rfl, trivial⟩
            · refine fu_go 1 (pc' := 77) (ls' := [.ref 117]) (st' := [.ref 117]) (s' := s) rfl ?_
              refine fu_let (fu_cVJ rfl rfl rfl rfl rfl (fu_recv fr_117 am_at_X12_amiss rfl) (e_X12_amiss d (by omega) s)) (fun r12 => ?_)
              show fu_J _ _ (fr_X d none k_X12_readPart 80 [.ref 117] [] r12)
              exact fu_leaf rfl ⟨.inl rfl, trivial⟩
  show fu_J _ _ (fr_X d none k_X12_readPart 80 [am_U] [] j1)
  exact fu_vret rfl rfl
/-! X12_copy -/
theorem el_X12_copy_2 (d : Nat) (hd : 0 ≤ d) : ∀ (n : Nat) (s : fu_S) (x1 : Int32) (x2 : Int32) (x3 : Int32), fu_J (l_X12_copy_2 n s x1 x2 x3) (fun r => fr_X d none k_X12_copy 39 [.ref 117, .int x1, .int x2, am_U] [] r) (fr_X d none k_X12_copy 2 [.ref 117, .int x1, .int x2, .int x3] [] s) := by
  intro n
  induction n with
  | zero => intros; exact fu_none
  | succ n ih =>
    intro s x1 x2 x3
    rw [l_X12_copy_2]
    refine fu_go 2 (pc' := 6) (ls' := [.ref 117, .int x1, .int x2, .int x3]) (st' := [.int (355 : Int32), .int x3]) (s' := s) rfl ?_
    refine fu_ite (fun h1 => fu_step (fu_ic_ge_t rfl h1) ?_) (fun h1 => fu_step (fu_ic_ge_f rfl h1) ?_)
    · refine fu_go 1 (pc' := 10) (ls' := [.ref 117, .int x1, .int x2, .int x3]) (st' := [.ref 117]) (s' := s) rfl ?_
      refine fu_step (fu_getR rfl fr_117 rfl rfl) ?_
      refine fu_go 6 (pc' := 21) (ls' := [.ref 117, .int x1, .int x2, .int x3]) (st' := [.ref 117, .int (((355 : Int32) * x2) + x3), .ref 122]) (s' := s) rfl ?_
      refine fu_step (fu_getR rfl fr_117 rfl rfl) ?_
      refine fu_go 5 (pc' := 31) (ls' := [.ref 117, .int x1, .int x2, .int x3]) (st' := [.int (((355 : Int32) * x1) + x3), .ref 122, .int (((355 : Int32) * x2) + x3), .ref 122]) (s' := s) rfl ?_
      refine fu_guard (fun h2 => fu_step (fu_ldI rfl fr_122 h2) ?_)
      refine fu_guard (fun h4 => fu_lets (b := (fu_pi s 122 (Int32.toNatClampNeg (((355 : Int32) * x2) + x3)) (s.1 122 (Int32.toNatClampNeg (((355 : Int32) * x1) + x3))))) (fu_stI rfl fr_122 h4) (fun s3 => ?_))
      refine fu_go 2 (pc' := 2) (ls' := [.ref 117, .int x1, .int x2, .int (x3 + (1 : Int32))]) (st' := []) (s' := s3) rfl ?_
      exact fu_drop (ls' := [.ref 117, .int x1, .int x2, .int (x3 + (1 : Int32))]) ⟨.inr rfl, .inr rfl, .inr rfl, .inr rfl, trivial⟩ (ih s3 x1 x2 (x3 + (1 : Int32)))
    · exact fu_leaf rfl ⟨.inr rfl, .inr rfl, .inr rfl, .inl rfl, trivial⟩
theorem el_X12_copy_41 (d : Nat) (hd : 0 ≤ d) : ∀ (n : Nat) (s : fu_S) (x1 : Int32) (x2 : Int32) (x3 : Int32), fu_J (l_X12_copy_41 n s x1 x2 x3) (fun r => fr_X d none k_X12_copy 75 [am_U, am_U, am_U, am_U] [] r) (fr_X d none k_X12_copy 41 [.ref 117, .int x1, .int x2, .int x3] [] s) := by
  intro n
  induction n with
  | zero => intros; exact fu_none
  | succ n ih =>
    intro s x1 x2 x3
    rw [l_X12_copy_41]
    refine fu_go 2 (pc' := 44) (ls' := [.ref 117, .int x1, .int x2, .int x3]) (st' := [.int (7 : Int32), .int x3]) (s' := s) rfl ?_
    refine fu_ite (fun h6 => fu_step (fu_ic_ge_t rfl h6) ?_) (fun h6 => fu_step (fu_ic_ge_f rfl h6) ?_)
    · refine fu_go 1 (pc' := 48) (ls' := [.ref 117, .int x1, .int x2, .int x3]) (st' := [.ref 117]) (s' := s) rfl ?_
      refine fu_step (fu_getR rfl fr_117 rfl rfl) ?_
      refine fu_go 6 (pc' := 58) (ls' := [.ref 117, .int x1, .int x2, .int x3]) (st' := [.ref 117, .int (((7 : Int32) * x2) + x3), .ref 124]) (s' := s) rfl ?_
      refine fu_step (fu_getR rfl fr_117 rfl rfl) ?_
      refine fu_go 5 (pc' := 67) (ls' := [.ref 117, .int x1, .int x2, .int x3]) (st' := [.int (((7 : Int32) * x1) + x3), .ref 124, .int (((7 : Int32) * x2) + x3), .ref 124]) (s' := s) rfl ?_
      refine fu_guard (fun h7 => fu_step (fu_ldL rfl fr_124 h7) ?_)
      refine fu_guard (fun h9 => fu_lets (b := (fu_pl s 124 (Int32.toNatClampNeg (((7 : Int32) * x2) + x3)) (s.2 124 (Int32.toNatClampNeg (((7 : Int32) * x1) + x3))))) (fu_stL rfl fr_124 h9) (fun s8 => ?_))
      refine fu_go 2 (pc' := 41) (ls' := [.ref 117, .int x1, .int x2, .int (x3 + (1 : Int32))]) (st' := []) (s' := s8) rfl ?_
      exact fu_drop (ls' := [.ref 117, .int x1, .int x2, .int (x3 + (1 : Int32))]) ⟨.inr rfl, .inr rfl, .inr rfl, .inr rfl, trivial⟩ (ih s8 x1 x2 (x3 + (1 : Int32)))
    · exact fu_leaf rfl ⟨.inl rfl, .inl rfl, .inl rfl, .inl rfl, trivial⟩
set_option maxRecDepth 100000 in
theorem e_X12_copy (d : Nat) (hd : 1 ≤ d) (s : fu_S) (a1 : Int32) (a2 : Int32) : fu_J (f_X12_copy s a1 a2) (fun r => some (none, r)) (am_D (fu_ho fr_sh) am_m d 382 [.ref 117, .int a1, .int a2] s) := by
  obtain ⟨d, rfl⟩ : ∃ e, d = e + 1 := ⟨d - 1, by omega⟩
  refine fu_enter (ls := [.ref 117, .int a1, .int a2, am_U]) am_at_X12_copy rfl rfl ?_
  show fu_J _ _ (fr_X d none k_X12_copy 0 [.ref 117, .int a1, .int a2, am_U] [] s)
  unfold f_X12_copy
  refine fu_go 2 (pc' := 2) (ls' := [.ref 117, .int a1, .int a2, .int (0 : Int32)]) (st' := []) (s' := s) rfl ?_
  refine fu_drop (ls' := [.ref 117, .int a1, .int a2, .int (0 : Int32)]) ⟨.inr rfl, .inr rfl, .inr rfl, .inr rfl, trivial⟩ ?_
  refine fu_bind (el_X12_copy_2 d (by omega) fu_N s a1 a2 (0 : Int32)) (fun r5 => ?_)
  show fu_J _ _ (fr_X d none k_X12_copy 39 [.ref 117, .int a1, .int a2, am_U] [] r5)
  refine fu_go 2 (pc' := 41) (ls' := [.ref 117, .int a1, .int a2, .int (0 : Int32)]) (st' := []) (s' := r5) rfl ?_
  refine fu_drop (ls' := [.ref 117, .int a1, .int a2, .int (0 : Int32)]) ⟨.inr rfl, .inr rfl, .inr rfl, .inr rfl, trivial⟩ ?_
  refine fu_bind (el_X12_copy_41 d (by omega) fu_N r5 a1 a2 (0 : Int32)) (fun r10 => ?_)
  show fu_J _ _ (fr_X d none k_X12_copy 75 [am_U, am_U, am_U, am_U] [] r10)
  exact fu_vret rfl rfl
/-! X12_district -/
theorem el_X12_district_33 (d : Nat) (hd : 7 ≤ d) : ∀ (n : Nat) (s : fu_S), fu_J (l_X12_district_33 n s) (fun r => fr_X d (some .int) k_X12_district 64 [.ref 117, am_U] [] r) (fr_X d (some .int) k_X12_district 33 [.ref 117, am_U] [] s) := by
  intro n
  induction n with
  | zero => intros; exact fu_none
  | succ n ih =>
    intro s
    rw [l_X12_district_33]
    refine fu_go 1 (pc' := 34) (ls' := [.ref 117, am_U]) (st' := [.ref 117]) (s' := s) rfl ?_
    refine fu_step (fu_getI rfl fr_117 rfl rfl) ?_
    refine fu_ite (fun h7 => fu_step (fu_if_ne_t rfl h7) ?_) (fun h7 => fu_step (fu_if_ne_f rfl h7) ?_)
    · refine fu_go 1 (pc' := 41) (ls' := [.ref 117, am_U]) (st' := [.ref 117]) (s' := s) rfl ?_
      refine fu_step (fu_getI rfl fr_117 rfl rfl) ?_
      refine fu_ite (fun h8 => fu_step (fu_if_eq_t rfl h8) ?_) (fun h8 => fu_step (fu_if_eq_f rfl h8) ?_)
      · exact fu_leaf rfl ⟨.inr rfl, .inl rfl, trivial⟩
      · refine fu_go 1 (pc' := 48) (ls' := [.ref 117, am_U]) (st' := [.ref 117]) (s' := s) rfl ?_
        refine fu_bind (fu_cVJ rfl rfl rfl rfl rfl (fu_recv fr_117 am_at_X12_readPart rfl) (e_X12_readPart d (by omega) s)) (fun r9 => ?_)
        show fu_J _ _ (fr_X d (some .int) k_X12_district 51 [.ref 117, am_U] [] r9)
        refine fu_go 3 (pc' := 55) (ls' := [.ref 117, am_U]) (st' := [.int (59 : Int32), .ref 117, .ref 117]) (s' := r9) rfl ?_
        refine fu_step (fu_cV rfl rfl rfl rfl rfl (fu_recv fr_117 am_at_X12_isSign rfl) (fu_eq (e_X12_isSign d (by omega) r9 (59 : Int32)) rfl)) ?_
        show fu_J _ _ (fr_X d (some .int) k_X12_district 58 [.ref 117, am_U] [.int (fu_b (f_X12_isSign r9 (59 : Int32))), .ref 117] r9)
        refine fu_bind (fu_cVJ rfl rfl rfl rfl rfl (fu_recv fr_117 am_at_X12_must rfl) (e_X12_must d (by omega) r9 (f_X12_isSign r9 (59 : Int32)))) (fun r10 => ?_)
        show fu_J _ _ (fr_X d (some .int) k_X12_district 61 [.ref 117, am_U] [] r10)
        refine fu_go 1 (pc' := 33) (ls' := [.ref 117, am_U]) (st' := []) (s' := r10) rfl ?_
        exact fu_drop (ls' := [.ref 117, am_U]) ⟨.inr rfl, .inl rfl, trivial⟩ (ih r10)
    · exact fu_leaf rfl ⟨.inr rfl, .inl rfl, trivial⟩
set_option maxRecDepth 100000 in
theorem e_X12_district (d : Nat) (hd : 8 ≤ d) (s : fu_S) (a1 : Int32) : fu_J (f_X12_district s a1) (fun r => some (some (.int r.1), r.2)) (am_D (fu_ho fr_sh) am_m d 297 [.ref 117, .int a1] s) := by
  obtain ⟨d, rfl⟩ : ∃ e, d = e + 1 := ⟨d - 1, by omega⟩
  refine fu_enter (ls := [.ref 117, .int a1]) am_at_X12_district rfl rfl ?_
  show fu_J _ _ (fr_X d (some .int) k_X12_district 0 [.ref 117, .int a1] [] s)
  unfold f_X12_district
  refine fu_go 2 (pc' := 2) (ls' := [.ref 117, .int a1]) (st' := [.int (0 : Int32), .ref 117]) (s' := s) rfl ?_
  refine fu_lets (b := (fu_pi s 117 1 (0 : Int32))) (fu_putI rfl fr_117 rfl rfl) (fun s1 => ?_)
  refine fu_go 2 (pc' := 7) (ls' := [.ref 117, .int a1]) (st' := [.int (0 : Int32), .ref 117]) (s' := s1) rfl ?_
  refine fu_lets (b := (fu_pi s1 117 0 (0 : Int32))) (fu_putI rfl fr_117 rfl rfl) (fun s2 => ?_)
  refine fu_go 3 (pc' := 15) (ls' := [.ref 117, .int a1]) (st' := [.int (900 : Int32), .int a1, .ref 117]) (s' := s2) rfl ?_
  refine fu_bind (fu_cVJ rfl rfl rfl rfl rfl (fu_recv fr_117 am_at_X12_starts rfl) (e_X12_starts d (by omega) s2 a1 (900 : Int32))) (fun r3 => ?_)
  show fu_J _ _ (fr_X d (some .int) k_X12_district 18 [.ref 117, .int a1] [.int (fu_b r3.1)] r3.2)
  refine fu_ite (fun h4 => fu_step (fu_ib_ne_t rfl h4) ?_) (fun h4 => fu_step (fu_ib_ne_f rfl h4) ?_)
  · refine fu_go 2 (pc' := 25) (ls' := [.ref 117, .int a1]) (st' := [.int (4 : Int32), .ref 117]) (s' := r3.2) rfl ?_
    refine fu_bind (fu_cVJ rfl rfl rfl rfl rfl (fu_recv fr_117 am_at_X12_empties rfl) (e_X12_empties d (by omega) r3.2 (4 : Int32))) (fun r5 => ?_)
    show fu_J _ _ (fr_X d (some .int) k_X12_district 28 [.ref 117, .int a1] [] r5)
    refine fu_go 2 (pc' := 30) (ls' := [.ref 117, .int a1]) (st' := [.int (0 : Int32), .ref 117]) (s' := r5) rfl ?_
    refine fu_lets (b := (fu_pi r5 117 24 (0 : Int32))) (fu_putI rfl fr_117 rfl rfl) (fun s6 => ?_)
    refine fu_drop (ls' := [.ref 117, am_U]) ⟨.inr rfl, .inl rfl, trivial⟩ ?_
    refine fu_bind (el_X12_district_33 d (by omega) fu_N s6) (fun r11 => ?_)
    show fu_J _ _ (fr_X d (some .int) k_X12_district 64 [.ref 117, am_U] [] r11)
    refine fu_go 1 (pc' := 65) (ls' := [.ref 117, am_U]) (st' := [.ref 117]) (s' := r11) rfl ?_
    refine fu_let (fu_cVJ rfl rfl rfl rfl rfl (fu_recv fr_117 am_at_X12_isWell rfl) (e_X12_isWell d (by omega) r11)) (fun r12 => ?_)
    show fu_J _ _ (fr_X d (some .int) k_X12_district 68 [.ref 117, am_U] [.int (fu_b r12.1)] r12.2)
    refine fu_ite (fun h13 => fu_step (fu_ib_ne_t rfl h13) ?_) (fun h13 => fu_step (fu_ib_ne_f rfl h13) ?_)
    · refine fu_go 3 (pc' := 76) (ls' := [.ref 117, am_U]) (st' := [.int (0 : Int32), .int (4 : Int32), .ref 117]) (s' := r12.2) rfl ?_
      refine fu_bind (fu_cVJ rfl rfl rfl rfl rfl (fu_recv fr_117 am_at_X12_copy rfl) (e_X12_copy d (by omega) r12.2 (4 : Int32) (0 : Int32))) (fun r14 => ?_)
      show fu_J _ _ (fr_X d (some .int) k_X12_district 79 [.ref 117, am_U] [] r14)
      refine fu_go 1 (pc' := 80) (ls' := [.ref 117, am_U]) (st' := [.ref 117]) (s' := r14) rfl ?_
      refine fu_step (fu_getR rfl fr_117 rfl rfl) ?_
      refine fu_go 1 (pc' := 84) (ls' := [.ref 117, am_U]) (st' := [.int (1 : Int32), .ref 122]) (s' := r14) rfl ?_
      refine fu_step (fu_ldIk (k := 1) rfl fr_122 (by decide) (by decide)) ?_
      exact fu_iret rfl rfl
    · refine fu_go 1 (pc' := 72) (ls' := [.ref 117, am_U]) (st' := [.int (-1 : Int32)]) (s' := r12.2) rfl ?_
      exact fu_iret rfl rfl
  · refine fu_go 1 (pc' := 22) (ls' := [.ref 117, .int a1]) (st' := [.int (-1 : Int32)]) (s' := r3.2) rfl ?_
    exact fu_iret rfl rfl
/-! X12_readTest -/
set_option maxRecDepth 100000 in
theorem e_X12_readTest (d : Nat) (hd : 4 ≤ d) (s : fu_S) (a1 : Int32) : fu_J (f_X12_readTest s a1) (fun r => some (none, r)) (am_D (fu_ho fr_sh) am_m d 298 [.ref 117, .int a1] s) := by
  obtain ⟨d, rfl⟩ : ∃ e, d = e + 1 := ⟨d - 1, by omega⟩
  refine fu_enter (ls := [.ref 117, .int a1, am_U]) am_at_X12_readTest rfl rfl ?_
  show fu_J _ _ (fr_X d none k_X12_readTest 0 [.ref 117, .int a1, am_U] [] s)
  unfold f_X12_readTest
  refine fu_go 1 (pc' := 1) (ls' := [.ref 117, .int a1, am_U]) (st' := [.ref 117]) (s' := s) rfl ?_
  refine fu_step (fu_cV rfl rfl rfl rfl rfl (fu_recv fr_117 am_at_X12_testWord rfl) (fu_eq (e_X12_testWord d (by omega) s) rfl)) ?_
  show fu_J _ _ (fr_X d none k_X12_readTest 4 [.ref 117, .int a1, am_U] [.int (f_X12_testWord s)] s)
  refine fu_go 3 (pc' := 7) (ls' := [.ref 117, .int a1, .int (f_X12_testWord s)]) (st' := [.int (f_X12_testWord s), .ref 117]) (s' := s) rfl ?_
  refine fu_bind (V := fun j1 : Bool => fr_X d none k_X12_readTest 15 [.ref 117, .int a1, .int (f_X12_testWord s)] [.int (fu_b j1), .ref 117] s) ?_ (fun j1 => ?_)
  · refine fu_ite (fun h2 => fu_step (fu_if_lt_t rfl h2) ?_) (fun h2 => fu_step (fu_if_lt_f rfl h2) ?_)
    · refine fu_go 1 (pc' := 15) (ls' := [.ref 117, .int a1, .int (f_X12_testWord s)]) (st' := [.int (0 : Int32), .ref 117]) (s' := s) rfl ?_
      exact fu_leaf rfl ⟨.inr rfl, .inr rfl, .inr rfl, trivial⟩
    · refine fu_go 2 (pc' := 15) (ls' := [.ref 117, .int a1, .int (f_X12_testWord s)]) (st' := [.int (1 : Int32), .ref 117]) (s' := s) rfl ?_
      exact fu_leaf rfl ⟨.inr rfl, .inr rfl, .inr rfl, trivial⟩
  show fu_J _ _ (fr_X d none k_X12_readTest 15 [.ref 117, .int a1, .int (f_X12_testWord s)] [.int (fu_b j1), .ref 117] s)
  refine fu_bind (fu_cVJ rfl rfl rfl rfl rfl (fu_recv fr_117 am_at_X12_must rfl) (e_X12_must d (by omega) s j1)) (fun r3 => ?_)
  show fu_J _ _ (fr_X d none k_X12_readTest 18 [.ref 117, .int a1, .int (f_X12_testWord s)] [] r3)
  refine fu_go 1 (pc' := 19) (ls' := [.ref 117, .int a1, .int (f_X12_testWord s)]) (st' := [.ref 117]) (s' := r3) rfl ?_
  refine fu_step (fu_getR rfl fr_117 rfl rfl) ?_
  refine fu_go 4 (pc' := 26) (ls' := [.ref 117, .int a1, .int (f_X12_testWord s)]) (st' := [.int (f_X12_testWord s), .int (a1 + (5 : Int32)), .ref 122]) (s' := r3) rfl ?_
  refine fu_guard (fun h5 => fu_lets (b := (fu_pi r3 122 (Int32.toNatClampNeg (a1 + (5 : Int32))) (f_X12_testWord s))) (fu_stI rfl fr_122 h5) (fun s4 => ?_))
  refine fu_go 1 (pc' := 28) (ls' := [.ref 117, .int a1, .int (f_X12_testWord s)]) (st' := [.int (f_X12_testWord s)]) (s' := s4) rfl ?_
  refine fu_bind (V := fun j6 : fu_S => fr_X d none k_X12_readTest 51 [.ref 117, .int a1, .int (f_X12_testWord s)] [] j6) ?_ (fun j6 => ?_)
  · refine fu_ite (fun h7 => fu_step (fu_if_eq_t rfl h7) ?_) (fun h7 => fu_step (fu_if_eq_f rfl h7) ?_)
    · refine fu_go 1 (pc' := 37) (ls' := [.ref 117, .int a1, .int (f_X12_testWord s)]) (st' := [.ref 117]) (s' := s4) rfl ?_
      refine fu_step (fu_getR rfl fr_117 rfl rfl) ?_
      refine fu_go 6 (pc' := 47) (ls' := [.ref 117, .int a1, .int (f_X12_testWord s)]) (st' := [.int (7 : Int32), .int (0 : Int32), .ref 117, .int (a1 + (1 : Int32)), .ref 122]) (s' := s4) rfl ?_
      refine fu_bind (fu_cVJ rfl rfl rfl rfl rfl (fu_recv fr_117 am_at_X12_count rfl) (e_X12_count d (by omega) s4 (0 : Int32) (7 : Int32))) (fun r8 => ?_)
      show fu_J _ _ (fr_X d none k_X12_readTest 50 [.ref 117, .int a1, .int (f_X12_testWord s)] [.int r8.1, .int (a1 + (1 : Int32)), .ref 122] r8.2)
      refine fu_guard (fun h10 => fu_lets (b := (fu_pi r8.2 122 (Int32.toNatClampNeg (a1 + (1 : Int32))) r8.1)) (fu_stI rfl fr_122 h10) (fun s9 => ?_))
      exact fu_leaf rfl ⟨.inr rfl, .inr rfl, .inr rfl, trivial⟩
    · refine fu_go 2 (pc' := 33) (ls' := [.ref 117, .int a1, .int (f_X12_testWord s)]) (st' := [.int (1 : Int32), .int (f_X12_testWord s)]) (s' := s4) rfl ?_
      refine fu_ite (fun h11 => fu_step (fu_ic_ne_t rfl h11) ?_) (fun h11 => fu_step (fu_ic_ne_f rfl h11) ?_)
      · refine fu_go 1 (pc' := 37) (ls' := [.ref 117, .int a1, .int (f_X12_testWord s)]) (st' := [.ref 117]) (s' := s4) rfl ?_
        refine fu_step (fu_getR rfl fr_117 rfl rfl) ?_
        refine fu_go 6 (pc' := 47) (ls' := [.ref 117, .int a1, .int (f_X12_testWord s)]) (st' := [.int (7 : Int32), .int (0 : Int32), .ref 117, .int (a1 + (1 : Int32)), .ref 122]) (s' := s4) rfl ?_
        refine fu_bind (fu_cVJ rfl rfl rfl rfl rfl (fu_recv fr_117 am_at_X12_count rfl) (e_X12_count d (by omega) s4 (0 : Int32) (7 : Int32))) (fun r12 => ?_)
        show fu_J _ _ (fr_X d none k_X12_readTest 50 [.ref 117, .int a1, .int (f_X12_testWord s)] [.int r12.1, .int (a1 + (1 : Int32)), .ref 122] r12.2)
        refine fu_guard (fun h14 => fu_lets (b := (fu_pi r12.2 122 (Int32.toNatClampNeg (a1 + (1 : Int32))) r12.1)) (fu_stI rfl fr_122 h14) (fun s13 => ?_))
        exact fu_leaf rfl ⟨.inr rfl, .inr rfl, .inr rfl, trivial⟩
      · exact fu_leaf rfl ⟨.inr rfl, .inr rfl, .inr rfl, trivial⟩
  show fu_J _ _ (fr_X d none k_X12_readTest 51 [.ref 117, .int a1, .int (f_X12_testWord s)] [] j6)
  refine fu_go 1 (pc' := 52) (ls' := [.ref 117, .int a1, .int (f_X12_testWord s)]) (st' := [.ref 117]) (s' := j6) rfl ?_
  refine fu_step (fu_getI rfl fr_117 rfl rfl) ?_
  refine fu_ite (fun h15 => fu_step (fu_if_gt_t rfl h15) ?_) (fun h15 => fu_step (fu_if_gt_f rfl h15) ?_)
  · refine fu_go 2 (pc' := 60) (ls' := [.ref 117, .int a1, .int (f_X12_testWord s)]) (st' := [.int (2 : Int32), .int (f_X12_testWord s)]) (s' := j6) rfl ?_
    refine fu_ite (fun h16 => fu_step (fu_ic_ge_t rfl h16) ?_) (fun h16 => fu_step (fu_ic_ge_f rfl h16) ?_)
    · exact fu_vret rfl rfl
    · refine fu_go 1 (pc' := 65) (ls' := [.ref 117, .int a1, .int (f_X12_testWord s)]) (st' := [.ref 117]) (s' := j6) rfl ?_
      refine fu_step (fu_getR rfl fr_117 rfl rfl) ?_
      refine fu_go 4 (pc' := 73) (ls' := [.ref 117, .int a1, .int (f_X12_testWord s)]) (st' := [.ref 117, .int (a1 + (7 : Int32)), .ref 122]) (s' := j6) rfl ?_
      refine fu_step (fu_getI rfl fr_117 rfl rfl) ?_
      refine fu_go 1 (pc' := 77) (ls' := [.ref 117, .int a1, .int (f_X12_testWord s)]) (st' := [.int (3 : Int32), .int (j6.1 117 14), .int (a1 + (7 : Int32)), .ref 122]) (s' := j6) rfl ?_
      refine fu_bind (V := fun j17 : Int32 => fr_X d none k_X12_readTest 88 [.ref 117, .int a1, am_U] [.int j17, .int (a1 + (7 : Int32)), .ref 122] j6) ?_ (fun j17 => ?_)
      · refine fu_ite (fun h18 => fu_step (fu_ic_ne_t rfl h18) ?_) (fun h18 => fu_step (fu_ic_ne_f rfl h18) ?_)
        · refine fu_go 1 (pc' := 81) (ls' := [.ref 117, .int a1, .int (f_X12_testWord s)]) (st' := [.ref 117, .int (a1 + (7 : Int32)), .ref 122]) (s' := j6) rfl ?_
          refine fu_step (fu_getI rfl fr_117 rfl rfl) ?_
          refine fu_go 1 (pc' := 88) (ls' := [.ref 117, .int a1, .int (f_X12_testWord s)]) (st' := [.int (j6.1 117 17), .int (a1 + (7 : Int32)), .ref 122]) (s' := j6) rfl ?_
          exact fu_leaf rfl ⟨.inr rfl, .inr rfl, .inl rfl, trivial⟩
        · refine fu_go 1 (pc' := 88) (ls' := [.ref 117, .int a1, .int (f_X12_testWord s)]) (st' := [.int (0 : Int32), .int (a1 + (7 : Int32)), .ref 122]) (s' := j6) rfl ?_
          exact fu_leaf rfl ⟨.inr rfl, .inr rfl, .inl rfl, trivial⟩
      show fu_J _ _ (fr_X d none k_X12_readTest 88 [.ref 117, .int a1, am_U] [.int j17, .int (a1 + (7 : Int32)), .ref 122] j6)
      refine fu_guard (fun h20 => fu_lets (b := (fu_pi j6 122 (Int32.toNatClampNeg (a1 + (7 : Int32))) j17)) (fu_stI rfl fr_122 h20) (fun s19 => ?_))
      refine fu_go 3 (pc' := 93) (ls' := [.ref 117, .int a1, am_U]) (st' := [.int (60 : Int32), .ref 117, .ref 117]) (s' := s19) rfl ?_
      refine fu_step (fu_cV rfl rfl rfl rfl rfl (fu_recv fr_117 am_at_X12_isSign rfl) (fu_eq (e_X12_isSign d (by omega) s19 (60 : Int32)) rfl)) ?_
      show fu_J _ _ (fr_X d none k_X12_readTest 96 [.ref 117, .int a1, am_U] [.int (fu_b (f_X12_isSign s19 (60 : Int32))), .ref 117] s19)
      refine fu_bind (V := fun j21 : Bool => fr_X d none k_X12_readTest 122 [.ref 117, .int a1, am_U] [.int (fu_b j21), .ref 117] s19) ?_ (fun j21 => ?_)
      · refine fu_ite (fun h22 => fu_step (fu_ib_ne_t rfl h22) ?_) (fun h22 => fu_step (fu_ib_ne_f rfl h22) ?_)
        · refine fu_go 2 (pc' := 122) (ls' := [.ref 117, .int a1, am_U]) (st' := [.int (1 : Int32), .ref 117]) (s' := s19) rfl ?_
          exact fu_leaf rfl ⟨.inr rfl, .inr rfl, .inl rfl, trivial⟩
        · refine fu_go 2 (pc' := 102) (ls' := [.ref 117, .int a1, am_U]) (st' := [.int (62 : Int32), .ref 117, .ref 117]) (s' := s19) rfl ?_
          refine fu_step (fu_cV rfl rfl rfl rfl rfl (fu_recv fr_117 am_at_X12_isSign rfl) (fu_eq (e_X12_isSign d (by omega) s19 (62 : Int32)) rfl)) ?_
          show fu_J _ _ (fr_X d none k_X12_readTest 105 [.ref 117, .int a1, am_U] [.int (fu_b (f_X12_isSign s19 (62 : Int32))), .ref 117] s19)
          refine fu_ite (fun h23 => fu_step (fu_ib_ne_t rfl h23) ?_) (fun h23 => fu_step (fu_ib_ne_f rfl h23) ?_)
          · refine fu_go 2 (pc' := 122) (ls' := [.ref 117, .int a1, am_U]) (st' := [.int (1 : Int32), .ref 117]) (s' := s19) rfl ?_
            exact fu_leaf rfl ⟨.inr rfl, .inr rfl, .inl rfl, trivial⟩
          · refine fu_go 2 (pc' := 111) (ls' := [.ref 117, .int a1, am_U]) (st' := [.int (61 : Int32), .ref 117, .ref 117]) (s' := s19) rfl ?_
            refine fu_step (fu_cV rfl rfl rfl rfl rfl (fu_recv fr_117 am_at_X12_isSign rfl) (fu_eq (e_X12_isSign d (by omega) s19 (61 : Int32)) rfl)) ?_
            show fu_J _ _ (fr_X d none k_X12_readTest 114 [.ref 117, .int a1, am_U] [.int (fu_b (f_X12_isSign s19 (61 : Int32))), .ref 117] s19)
            refine fu_ite (fun h24 => fu_step (fu_ib_eq_t rfl h24) ?_) (fun h24 => fu_step (fu_ib_eq_f rfl h24) ?_)
            · refine fu_go 2 (pc' := 122) (ls' := [.ref 117, .int a1, am_U]) (st' := [.int (1 : Int32), .ref 117]) (s' := s19) rfl ?_
              exact fu_leaf rfl ⟨.inr rfl, .inr rfl, .inl rfl, trivial⟩
            · refine fu_go 1 (pc' := 122) (ls' := [.ref 117, .int a1, am_U]) (st' := [.int (0 : Int32), .ref 117]) (s' := s19) rfl ?_
              exact fu_leaf rfl ⟨.inr rfl, .inr rfl, .inl rfl, trivial⟩
      show fu_J _ _ (fr_X d none k_X12_readTest 122 [.ref 117, .int a1, am_U] [.int (fu_b j21), .ref 117] s19)
      refine fu_bind (fu_cVJ rfl rfl rfl rfl rfl (fu_recv fr_117 am_at_X12_must rfl) (e_X12_must d (by omega) s19 j21)) (fun r25 => ?_)
      show fu_J _ _ (fr_X d none k_X12_readTest 125 [.ref 117, .int a1, am_U] [] r25)
      refine fu_go 1 (pc' := 126) (ls' := [.ref 117, .int a1, am_U]) (st' := [.ref 117]) (s' := r25) rfl ?_
      refine fu_step (fu_getR rfl fr_117 rfl rfl) ?_
      refine fu_go 6 (pc' := 138) (ls' := [.ref 117, .int a1, am_U]) (st' := [.int (9999 : Int32), .int (0 : Int32), .ref 117, .int (a1 + (6 : Int32)), .ref 122]) (s' := r25) rfl ?_
      refine fu_bind (fu_cVJ rfl rfl rfl rfl rfl (fu_recv fr_117 am_at_X12_count rfl) (e_X12_count d (by omega) r25 (0 : Int32) (9999 : Int32))) (fun r26 => ?_)
      show fu_J _ _ (fr_X d none k_X12_readTest 141 [.ref 117, .int a1, am_U] [.int r26.1, .int (a1 + (6 : Int32)), .ref 122] r26.2)
      refine fu_guard (fun h28 => fu_lets (b := (fu_pi r26.2 122 (Int32.toNatClampNeg (a1 + (6 : Int32))) r26.1)) (fu_stI rfl fr_122 h28) (fun s27 => ?_))
      exact fu_vret rfl rfl
  · exact fu_vret rfl rfl
/-! X12_readRest -/
set_option maxRecDepth 100000 in
theorem e_X12_readRest (d : Nat) (hd : 6 ≤ d) (s : fu_S) (a1 : Int32) : fu_J (f_X12_readRest s a1) (fun r => some (none, r)) (am_D (fu_ho fr_sh) am_m d 299 [.ref 117, .int a1] s) := by
  obtain ⟨d, rfl⟩ : ∃ e, d = e + 1 := ⟨d - 1, by omega⟩
  refine fu_enter (ls := [.ref 117, .int a1, am_U]) am_at_X12_readRest rfl rfl ?_
  show fu_J _ _ (fr_X d none k_X12_readRest 0 [.ref 117, .int a1, am_U] [] s)
  unfold f_X12_readRest
  refine fu_go 1 (pc' := 1) (ls' := [.ref 117, .int a1, am_U]) (st' := [.ref 117]) (s' := s) rfl ?_
  refine fu_step (fu_getR rfl fr_117 rfl rfl) ?_
  refine fu_go 1 (pc' := 5) (ls' := [.ref 117, .int a1, am_U]) (st' := [.int a1, .ref 122]) (s' := s) rfl ?_
  refine fu_guard (fun h1 => fu_step (fu_ldI rfl fr_122 h1) ?_)
  refine fu_go 2 (pc' := 8) (ls' := [.ref 117, .int a1, .int (s.1 122 (Int32.toNatClampNeg a1))]) (st' := [.int (s.1 122 (Int32.toNatClampNeg a1))]) (s' := s) rfl ?_
  refine fu_bind (V := fun j2 : fu_S => fr_X d none k_X12_readRest 101 [am_U, am_U, am_U] [] j2) ?_ (fun j2 => ?_)
  · refine fu_ite (fun h3 => fu_step (fu_if_eq_t rfl h3) ?_) (fun h3 => fu_step (fu_if_eq_f rfl h3) ?_)
    · refine fu_go 1 (pc' := 17) (ls' := [.ref 117, .int a1, .int (s.1 122 (Int32.toNatClampNeg a1))]) (st' := [.ref 117]) (s' := s) rfl ?_
      refine fu_step (fu_getR rfl fr_117 rfl rfl) ?_
      refine fu_go 6 (pc' := 27) (ls' := [.ref 117, .int a1, .int (s.1 122 (Int32.toNatClampNeg a1))]) (st' := [.int (99 : Int32), .int (1 : Int32), .ref 117, .int (a1 + (1 : Int32)), .ref 122]) (s' := s) rfl ?_
      refine fu_bind (fu_cVJ rfl rfl rfl rfl rfl (fu_recv fr_117 am_at_X12_count rfl) (e_X12_count d (by omega) s (1 : Int32) (99 : Int32))) (fun r4 => ?_)
      show fu_J _ _ (fr_X d none k_X12_readRest 30 [.ref 117, .int a1, .int (s.1 122 (Int32.toNatClampNeg a1))] [.int r4.1, .int (a1 + (1 : Int32)), .ref 122] r4.2)
      refine fu_guard (fun h6 => fu_lets (b := (fu_pi r4.2 122 (Int32.toNatClampNeg (a1 + (1 : Int32))) r4.1)) (fu_stI rfl fr_122 h6) (fun s5 => ?_))
      refine fu_go 1 (pc' := 101) (ls' := [.ref 117, .int a1, .int (s.1 122 (Int32.toNatClampNeg a1))]) (st' := []) (s' := s5) rfl ?_
      exact fu_leaf rfl ⟨.inl rfl, .inl rfl, .inl rfl, trivial⟩
    · refine fu_go 2 (pc' := 13) (ls' := [.ref 117, .int a1, .int (s.1 122 (Int32.toNatClampNeg a1))]) (st' := [.int (5 : Int32), .int (s.1 122 (Int32.toNatClampNeg a1))]) (s' := s) rfl ?_
      refine fu_ite (fun h7 => fu_step (fu_ic_ne_t rfl h7) ?_) (fun h7 => fu_step (fu_ic_ne_f rfl h7) ?_)
      · refine fu_go 1 (pc' := 17) (ls' := [.ref 117, .int a1, .int (s.1 122 (Int32.toNatClampNeg a1))]) (st' := [.ref 117]) (s' := s) rfl ?_
        refine fu_step (fu_getR rfl fr_117 rfl rfl) ?_
        refine fu_go 6 (pc' := 27) (ls' := [.ref 117, .int a1, .int (s.1 122 (Int32.toNatClampNeg a1))]) (st' := [.int (99 : Int32), .int (1 : Int32), .ref 117, .int (a1 + (1 : Int32)), .ref 122]) (s' := s) rfl ?_
        refine fu_bind (fu_cVJ rfl rfl rfl rfl rfl (fu_recv fr_117 am_at_X12_count rfl) (e_X12_count d (by omega) s (1 : Int32) (99 : Int32))) (fun r8 => ?_)
        show fu_J _ _ (fr_X d none k_X12_readRest 30 [.ref 117, .int a1, .int (s.1 122 (Int32.toNatClampNeg a1))] [.int r8.1, .int (a1 + (1 : Int32)), .ref 122] r8.2)
        refine fu_guard (fun h10 => fu_lets (b := (fu_pi r8.2 122 (Int32.toNatClampNeg (a1 + (1 : Int32))) r8.1)) (fu_stI rfl fr_122 h10) (fun s9 => ?_))
        refine fu_go 1 (pc' := 101) (ls' := [.ref 117, .int a1, .int (s.1 122 (Int32.toNatClampNeg a1))]) (st' := []) (s' := s9) rfl ?_
        exact fu_leaf rfl ⟨.inl rfl, .inl rfl, .inl rfl, trivial⟩
      · refine fu_go 2 (pc' := 36) (ls' := [.ref 117, .int a1, .int (s.1 122 (Int32.toNatClampNeg a1))]) (st' := [.int (4 : Int32), .int (s.1 122 (Int32.toNatClampNeg a1))]) (s' := s) rfl ?_
        refine fu_ite (fun h11 => fu_step (fu_ic_ne_t rfl h11) ?_) (fun h11 => fu_step (fu_ic_ne_f rfl h11) ?_)
        · refine fu_go 2 (pc' := 41) (ls' := [.ref 117, .int a1, .int (s.1 122 (Int32.toNatClampNeg a1))]) (st' := [.int a1, .ref 117]) (s' := s) rfl ?_
          refine fu_bind (fu_cVJ rfl rfl rfl rfl rfl (fu_recv fr_117 am_at_X12_readTest rfl) (e_X12_readTest d (by omega) s a1)) (fun r12 => ?_)
          show fu_J _ _ (fr_X d none k_X12_readRest 44 [.ref 117, .int a1, .int (s.1 122 (Int32.toNatClampNeg a1))] [] r12)
          refine fu_go 1 (pc' := 101) (ls' := [.ref 117, .int a1, .int (s.1 122 (Int32.toNatClampNeg a1))]) (st' := []) (s' := r12) rfl ?_
          exact fu_leaf rfl ⟨.inl rfl, .inl rfl, .inl rfl, trivial⟩
        · refine fu_go 2 (pc' := 49) (ls' := [.ref 117, .int a1, .int (s.1 122 (Int32.toNatClampNeg a1))]) (st' := [.int (1 : Int32), .int (s.1 122 (Int32.toNatClampNeg a1))]) (s' := s) rfl ?_
          refine fu_ite (fun h13 => fu_step (fu_ic_eq_t rfl h13) ?_) (fun h13 => fu_step (fu_ic_eq_f rfl h13) ?_)
          · refine fu_go 1 (pc' := 58) (ls' := [.ref 117, .int a1, .int (s.1 122 (Int32.toNatClampNeg a1))]) (st' := [.ref 117]) (s' := s) rfl ?_
            refine fu_step (fu_getR rfl fr_117 rfl rfl) ?_
            refine fu_go 5 (pc' := 66) (ls' := [.ref 117, .int a1, .int (s.1 122 (Int32.toNatClampNeg a1))]) (st' := [.int (0 : Int32), .ref 117, .int (a1 + (1 : Int32)), .ref 122]) (s' := s) rfl ?_
            refine fu_bind (fu_cVJ rfl rfl rfl rfl rfl (fu_recv fr_117 am_at_X12_readTold rfl) (e_X12_readTold d (by omega) s (0 : Int32))) (fun r14 => ?_)
            show fu_J _ _ (fr_X d none k_X12_readRest 69 [.ref 117, .int a1, .int (s.1 122 (Int32.toNatClampNeg a1))] [.int r14.1, .int (a1 + (1 : Int32)), .ref 122] r14.2)
            refine fu_guard (fun h16 => fu_lets (b := (fu_pi r14.2 122 (Int32.toNatClampNeg (a1 + (1 : Int32))) r14.1)) (fu_stI rfl fr_122 h16) (fun s15 => ?_))
            refine fu_go 1 (pc' := 71) (ls' := [.ref 117, .int a1, .int (s.1 122 (Int32.toNatClampNeg a1))]) (st' := [.ref 117]) (s' := s15) rfl ?_
            refine fu_step (fu_getR rfl fr_117 rfl rfl) ?_
            refine fu_go 7 (pc' := 81) (ls' := [.ref 117, .int a1, .int (s.1 122 (Int32.toNatClampNeg a1))]) (st' := [.int (1 : Int32), .int (s.1 122 (Int32.toNatClampNeg a1)), .int (0 : Int32), .ref 117, .int (a1 + (2 : Int32)), .ref 122]) (s' := s15) rfl ?_
            refine fu_bind (V := fun j17 : Int32 => fr_X d none k_X12_readRest 97 [am_U, am_U, am_U] [.int j17, .int (0 : Int32), .ref 117, .int (a1 + (2 : Int32)), .ref 122] s15) ?_ (fun j17 => ?_)
            · refine fu_ite (fun h18 => fu_step (fu_ic_ne_t rfl h18) ?_) (fun h18 => fu_step (fu_ic_ne_f rfl h18) ?_)
              · refine fu_go 1 (pc' := 85) (ls' := [.ref 117, .int a1, .int (s.1 122 (Int32.toNatClampNeg a1))]) (st' := [.ref 117, .int (0 : Int32), .ref 117, .int (a1 + (2 : Int32)), .ref 122]) (s' := s15) rfl ?_
                refine fu_step (fu_getR rfl fr_117 rfl rfl) ?_
                refine fu_go 1 (pc' := 89) (ls' := [.ref 117, .int a1, .int (s.1 122 (Int32.toNatClampNeg a1))]) (st' := [.int (0 : Int32), .ref 122, .int (0 : Int32), .ref 117, .int (a1 + (2 : Int32)), .ref 122]) (s' := s15) rfl ?_
                refine fu_step (fu_ldIk (k := 0) rfl fr_122 (by decide) (by decide)) ?_
                refine fu_go 3 (pc' := 97) (ls' := [.ref 117, .int a1, .int (s.1 122 (Int32.toNatClampNeg a1))]) (st' := [.int ((s15.1 122 0) - (1 : Int32)), .int (0 : Int32), .ref 117, .int (a1 + (2 : Int32)), .ref 122]) (s' := s15) rfl ?_
                exact fu_leaf rfl ⟨.inl rfl, .inl rfl, .inl rfl, trivial⟩
              · refine fu_go 1 (pc' := 97) (ls' := [.ref 117, .int a1, .int (s.1 122 (Int32.toNatClampNeg a1))]) (st' := [.int (7 : Int32), .int (0 : Int32), .ref 117, .int (a1 + (2 : Int32)), .ref 122]) (s' := s15) rfl ?_
                exact fu_leaf rfl ⟨.inl rfl, .inl rfl, .inl rfl, trivial⟩
            show fu_J _ _ (fr_X d none k_X12_readRest 97 [am_U, am_U, am_U] [.int j17, .int (0 : Int32), .ref 117, .int (a1 + (2 : Int32)), .ref 122] s15)
            refine fu_bind (fu_cVJ rfl rfl rfl rfl rfl (fu_recv fr_117 am_at_X12_count rfl) (e_X12_count d (by omega) s15 (0 : Int32) j17)) (fun r19 => ?_)
            show fu_J _ _ (fr_X d none k_X12_readRest 100 [am_U, am_U, am_U] [.int r19.1, .int (a1 + (2 : Int32)), .ref 122] r19.2)
            refine fu_guard (fun h21 => fu_lets (b := (fu_pi r19.2 122 (Int32.toNatClampNeg (a1 + (2 : Int32))) r19.1)) (fu_stI rfl fr_122 h21) (fun s20 => ?_))
            exact fu_leaf rfl ⟨.inl rfl, .inl rfl, .inl rfl, trivial⟩
          · refine fu_go 2 (pc' := 54) (ls' := [.ref 117, .int a1, .int (s.1 122 (Int32.toNatClampNeg a1))]) (st' := [.int (2 : Int32), .int (s.1 122 (Int32.toNatClampNeg a1))]) (s' := s) rfl ?_
            refine fu_ite (fun h22 => fu_step (fu_ic_ne_t rfl h22) ?_) (fun h22 => fu_step (fu_ic_ne_f rfl h22) ?_)
            · refine fu_go 1 (pc' := 58) (ls' := [.ref 117, .int a1, .int (s.1 122 (Int32.toNatClampNeg a1))]) (st' := [.ref 117]) (s' := s) rfl ?_
              refine fu_step (fu_getR rfl fr_117 rfl rfl) ?_
              refine fu_go 5 (pc' := 66) (ls' := [.ref 117, .int a1, .int (s.1 122 (Int32.toNatClampNeg a1))]) (st' := [.int (0 : Int32), .ref 117, .int (a1 + (1 : Int32)), .ref 122]) (s' := s) rfl ?_
              refine fu_bind (fu_cVJ rfl rfl rfl rfl rfl (fu_recv fr_117 am_at_X12_readTold rfl) (e_X12_readTold d (by omega) s (0 : Int32))) (fun r23 => ?_)
              show fu_J _ _ (fr_X d none k_X12_readRest 69 [.ref 117, .int a1, .int (s.1 122 (Int32.toNatClampNeg a1))] [.int r23.1, .int (a1 + (1 : Int32)), .ref 122] r23.2)
              refine fu_guard (fun h25 => fu_lets (b := (fu_pi r23.2 122 (Int32.toNatClampNeg (a1 + (1 : Int32))) r23.1)) (fu_stI rfl fr_122 h25) (fun s24 => ?_))
              refine fu_go 1 (pc' := 71) (ls' := [.ref 117, .int a1, .int (s.1 122 (Int32.toNatClampNeg a1))]) (st' := [.ref 117]) (s' := s24) rfl ?_
              refine fu_step (fu_getR rfl fr_117 rfl rfl) ?_
              refine fu_go 7 (pc' := 81) (ls' := [.ref 117, .int a1, .int (s.1 122 (Int32.toNatClampNeg a1))]) (st' := [.int (1 : Int32), .int (s.1 122 (Int32.toNatClampNeg a1)), .int (0 : Int32), .ref 117, .int (a1 + (2 : Int32)), .ref 122]) (s' := s24) rfl ?_
              refine fu_bind (V := fun j26 : Int32 => fr_X d none k_X12_readRest 97 [am_U, am_U, am_U] [.int j26, .int (0 : Int32), .ref 117, .int (a1 + (2 : Int32)), .ref 122] s24) ?_ (fun j26 => ?_)
              · refine fu_ite (fun h27 => fu_step (fu_ic_ne_t rfl h27) ?_) (fun h27 => fu_step (fu_ic_ne_f rfl h27) ?_)
                · refine fu_go 1 (pc' := 85) (ls' := [.ref 117, .int a1, .int (s.1 122 (Int32.toNatClampNeg a1))]) (st' := [.ref 117, .int (0 : Int32), .ref 117, .int (a1 + (2 : Int32)), .ref 122]) (s' := s24) rfl ?_
                  refine fu_step (fu_getR rfl fr_117 rfl rfl) ?_
                  refine fu_go 1 (pc' := 89) (ls' := [.ref 117, .int a1, .int (s.1 122 (Int32.toNatClampNeg a1))]) (st' := [.int (0 : Int32), .ref 122, .int (0 : Int32), .ref 117, .int (a1 + (2 : Int32)), .ref 122]) (s' := s24) rfl ?_
                  refine fu_step (fu_ldIk (k := 0) rfl fr_122 (by decide) (by decide)) ?_
                  refine fu_go 3 (pc' := 97) (ls' := [.ref 117, .int a1, .int (s.1 122 (Int32.toNatClampNeg a1))]) (st' := [.int ((s24.1 122 0) - (1 : Int32)), .int (0 : Int32), .ref 117, .int (a1 + (2 : Int32)), .ref 122]) (s' := s24) rfl ?_
                  exact fu_leaf rfl ⟨.inl rfl, .inl rfl, .inl rfl, trivial⟩
                · refine fu_go 1 (pc' := 97) (ls' := [.ref 117, .int a1, .int (s.1 122 (Int32.toNatClampNeg a1))]) (st' := [.int (7 : Int32), .int (0 : Int32), .ref 117, .int (a1 + (2 : Int32)), .ref 122]) (s' := s24) rfl ?_
                  exact fu_leaf rfl ⟨.inl rfl, .inl rfl, .inl rfl, trivial⟩
              show fu_J _ _ (fr_X d none k_X12_readRest 97 [am_U, am_U, am_U] [.int j26, .int (0 : Int32), .ref 117, .int (a1 + (2 : Int32)), .ref 122] s24)
              refine fu_bind (fu_cVJ rfl rfl rfl rfl rfl (fu_recv fr_117 am_at_X12_count rfl) (e_X12_count d (by omega) s24 (0 : Int32) j26)) (fun r28 => ?_)
              show fu_J _ _ (fr_X d none k_X12_readRest 100 [am_U, am_U, am_U] [.int r28.1, .int (a1 + (2 : Int32)), .ref 122] r28.2)
              refine fu_guard (fun h30 => fu_lets (b := (fu_pi r28.2 122 (Int32.toNatClampNeg (a1 + (2 : Int32))) r28.1)) (fu_stI rfl fr_122 h30) (fun s29 => ?_))
              exact fu_leaf rfl ⟨.inl rfl, .inl rfl, .inl rfl, trivial⟩
            · exact fu_leaf rfl ⟨.inl rfl, .inl rfl, .inl rfl, trivial⟩
  show fu_J _ _ (fr_X d none k_X12_readRest 101 [am_U, am_U, am_U] [] j2)
  exact fu_vret rfl rfl
/-! X12_readStep -/
theorem el_X12_readStep_140 (K : fu_S → Int32 → Option fu_S) (D0 : Nat) (hK : ∀ d, D0 ≤ d → ∀ (s : fu_S) (a1 : Int32), fu_J (K s a1) (fun r => some (none, r)) (am_D (fu_ho fr_sh) am_m d 300 [.ref 117, .int a1] s)) (d : Nat) (hd0 : D0 + 0 ≤ d) (hd : 2 ≤ d) : ∀ (n : Nat) (s : fu_S) (x1 : Int32) (x3 : Bool) (x4 : Int32), fu_J (l_X12_readStep_140 K n s x1 x3 x4) (fun r => fr_X d none k_X12_readStep 168 [.ref 117, am_U, am_U, .int (fu_b x3), .int x4] [] r) (fr_X d none k_X12_readStep 140 [.ref 117, .int x1, am_U, .int (fu_b x3), .int x4] [] s) := by
  intro n
  induction n with
  | zero => intros; exact fu_none
  | succ n ih =>
    intro s x1 x3 x4
    rw [l_X12_readStep_140]
    refine fu_go 1 (pc' := 141) (ls' := [.ref 117, .int x1, am_U, .int (fu_b x3), .int x4]) (st' := [.int (fu_b x3)]) (s' := s) rfl ?_
    refine fu_ite (fun h23 => fu_step (fu_ib_eq_t rfl h23) ?_) (fun h23 => fu_step (fu_ib_eq_f rfl h23) ?_)
    · refine fu_go 1 (pc' := 145) (ls' := [.ref 117, .int x1, am_U, .int (fu_b x3), .int x4]) (st' := [.ref 117]) (s' := s) rfl ?_
      refine fu_step (fu_getI rfl fr_117 rfl rfl) ?_
      refine fu_ite (fun h24 => fu_step (fu_if_ne_t rfl h24) ?_) (fun h24 => fu_step (fu_if_ne_f rfl h24) ?_)
      · refine fu_go 1 (pc' := 152) (ls' := [.ref 117, .int x1, am_U, .int (fu_b x3), .int x4]) (st' := [.ref 117]) (s' := s) rfl ?_
        refine fu_step (fu_cV rfl rfl rfl rfl rfl (fu_recv fr_117 am_at_X12_isEnd rfl) (fu_eq (e_X12_isEnd d (by omega) s) rfl)) ?_
        show fu_J _ _ (fr_X d none k_X12_readStep 155 [.ref 117, .int x1, am_U, .int (fu_b x3), .int x4] [.int (fu_b (f_X12_isEnd s))] s)
        refine fu_ite (fun h25 => fu_step (fu_ib_ne_t rfl h25) ?_) (fun h25 => fu_step (fu_ib_ne_f rfl h25) ?_)
        · exact fu_leaf rfl ⟨.inr rfl, .inl rfl, .inl rfl, .inr rfl, .inr rfl, trivial⟩
        · refine fu_go 4 (pc' := 162) (ls' := [.ref 117, .int x1, am_U, .int (fu_b x3), .int x4]) (st' := [.int (x1 + (1 : Int32)), .ref 117]) (s' := s) rfl ?_
          refine fu_bind (fu_cVJ rfl rfl rfl rfl rfl (fu_recv fr_117 am_at_X12_readStep rfl) (hK d (by omega) s (x1 + (1 : Int32)))) (fun r26 => ?_)
          show fu_J _ _ (fr_X d none k_X12_readStep 165 [.ref 117, .int x1, am_U, .int (fu_b x3), .int x4] [] r26)
          refine fu_go 1 (pc' := 140) (ls' := [.ref 117, .int x1, am_U, .int (fu_b x3), .int x4]) (st' := []) (s' := r26) rfl ?_
          exact fu_drop (ls' := [.ref 117, .int x1, am_U, .int (fu_b x3), .int x4]) ⟨.inr rfl, .inr rfl, .inl rfl, .inr rfl, .inr rfl, trivial⟩ (ih r26 x1 x3 x4)
      · exact fu_leaf rfl ⟨.inr rfl, .inl rfl, .inl rfl, .inr rfl, .inr rfl, trivial⟩
    · exact fu_leaf rfl ⟨.inr rfl, .inl rfl, .inl rfl, .inr rfl, .inr rfl, trivial⟩
set_option maxRecDepth 100000 in
theorem eb_X12_readStep (K : fu_S → Int32 → Option fu_S) (D0 : Nat) (hK : ∀ d, D0 ≤ d → ∀ (s : fu_S) (a1 : Int32), fu_J (K s a1) (fun r => some (none, r)) (am_D (fu_ho fr_sh) am_m d 300 [.ref 117, .int a1] s)) (d : Nat) (hd0 : D0 + 1 ≤ d) (hd : 7 ≤ d) (s : fu_S) (a1 : Int32) : fu_J (fb_X12_readStep K s a1) (fun r => some (none, r)) (am_D (fu_ho fr_sh) am_m d 300 [.ref 117, .int a1] s) := by
  obtain ⟨d, rfl⟩ : ∃ e, d = e + 1 := ⟨d - 1, by omega⟩
  refine fu_enter (ls := [.ref 117, .int a1, am_U, am_U, am_U]) am_at_X12_readStep rfl rfl ?_
  show fu_J _ _ (fr_X d none k_X12_readStep 0 [.ref 117, .int a1, am_U, am_U, am_U] [] s)
  unfold fb_X12_readStep
  refine fu_go 1 (pc' := 1) (ls' := [.ref 117, .int a1, am_U, am_U, am_U]) (st' := [.ref 117]) (s' := s) rfl ?_
  refine fu_step (fu_cV rfl rfl rfl rfl rfl (fu_recv fr_117 am_at_X12_stepWord rfl) (fu_eq (e_X12_stepWord d (by omega) s) rfl)) ?_
  show fu_J _ _ (fr_X d none k_X12_readStep 4 [.ref 117, .int a1, am_U, am_U, am_U] [.int (f_X12_stepWord s)] s)
  refine fu_go 3 (pc' := 7) (ls' := [.ref 117, .int a1, .int (f_X12_stepWord s), am_U, am_U]) (st' := [.int (4 : Int32), .int (f_X12_stepWord s)]) (s' := s) rfl ?_
  refine fu_bind (V := fun j1 : Bool => fr_X d none k_X12_readStep 20 [.ref 117, .int a1, .int (f_X12_stepWord s), am_U, am_U] [.int (fu_b j1)] s) ?_ (fun j1 => ?_)
  · refine fu_ite (fun h2 => fu_step (fu_ic_eq_t rfl h2) ?_) (fun h2 => fu_step (fu_ic_eq_f rfl h2) ?_)
    · refine fu_go 2 (pc' := 20) (ls' := [.ref 117, .int a1, .int (f_X12_stepWord s), am_U, am_U]) (st' := [.int (1 : Int32)]) (s' := s) rfl ?_
      exact fu_leaf rfl ⟨.inr rfl, .inr rfl, .inr rfl, .inl rfl, .inl rfl, trivial⟩
    · refine fu_go 2 (pc' := 12) (ls' := [.ref 117, .int a1, .int (f_X12_stepWord s), am_U, am_U]) (st' := [.int (5 : Int32), .int (f_X12_stepWord s)]) (s' := s) rfl ?_
      refine fu_ite (fun h3 => fu_step (fu_ic_ne_t rfl h3) ?_) (fun h3 => fu_step (fu_ic_ne_f rfl h3) ?_)
      · refine fu_go 2 (pc' := 20) (ls' := [.ref 117, .int a1, .int (f_X12_stepWord s), am_U, am_U]) (st' := [.int (1 : Int32)]) (s' := s) rfl ?_
        exact fu_leaf rfl ⟨.inr rfl, .inr rfl, .inr rfl, .inl rfl, .inl rfl, trivial⟩
      · refine fu_go 1 (pc' := 20) (ls' := [.ref 117, .int a1, .int (f_X12_stepWord s), am_U, am_U]) (st' := [.int (0 : Int32)]) (s' := s) rfl ?_
        exact fu_leaf rfl ⟨.inr rfl, .inr rfl, .inr rfl, .inl rfl, .inl rfl, trivial⟩
  show fu_J _ _ (fr_X d none k_X12_readStep 20 [.ref 117, .int a1, .int (f_X12_stepWord s), am_U, am_U] [.int (fu_b j1)] s)
  refine fu_go 2 (pc' := 22) (ls' := [.ref 117, .int a1, .int (f_X12_stepWord s), .int (fu_b j1), am_U]) (st' := [.int (f_X12_stepWord s)]) (s' := s) rfl ?_
  refine fu_bind (V := fun j4 : fu_S => fr_X d none k_X12_readStep 29 [.ref 117, .int a1, .int (f_X12_stepWord s), .int (fu_b j1), am_U] [] j4) ?_ (fun j4 => ?_)
  · refine fu_ite (fun h5 => fu_step (fu_if_ge_t rfl h5) ?_) (fun h5 => fu_step (fu_if_ge_f rfl h5) ?_)
    · refine fu_go 1 (pc' := 26) (ls' := [.ref 117, .int a1, .int (f_X12_stepWord s), .int (fu_b j1), am_U]) (st' := [.ref 117]) (s' := s) rfl ?_
      refine fu_let (fu_cVJ rfl rfl rfl rfl rfl (fu_recv fr_117 am_at_X12_amiss rfl) (e_X12_amiss d (by omega) s)) (fun r6 => ?_)
      show fu_J _ _ (fr_X d none k_X12_readStep 29 [.ref 117, .int a1, .int (f_X12_stepWord s), .int (fu_b j1), am_U] [] r6)
      exact fu_leaf rfl ⟨.inr rfl, .inr rfl, .inr rfl, .inr rfl, .inl rfl, trivial⟩
    · exact fu_leaf rfl ⟨.inr rfl, .inr rfl, .inr rfl, .inr rfl, .inl rfl, trivial⟩
  show fu_J _ _ (fr_X d none k_X12_readStep 29 [.ref 117, .int a1, .int (f_X12_stepWord s), .int (fu_b j1), am_U] [] j4)
  refine fu_go 1 (pc' := 30) (ls' := [.ref 117, .int a1, .int (f_X12_stepWord s), .int (fu_b j1), am_U]) (st' := [.ref 117]) (s' := j4) rfl ?_
  refine fu_step (fu_getI rfl fr_117 rfl rfl) ?_
  refine fu_bind (V := fun j7 : fu_S => fr_X d none k_X12_readStep 55 [.ref 117, .int a1, .int (f_X12_stepWord s), .int (fu_b j1), am_U] [] j7) ?_ (fun j7 => ?_)
  · refine fu_ite (fun h8 => fu_step (fu_if_ne_t rfl h8) ?_) (fun h8 => fu_step (fu_if_ne_f rfl h8) ?_)
    · refine fu_go 1 (pc' := 37) (ls' := [.ref 117, .int a1, .int (f_X12_stepWord s), .int (fu_b j1), am_U]) (st' := [.ref 117]) (s' := j4) rfl ?_
      refine fu_step (fu_getI rfl fr_117 rfl rfl) ?_
      refine fu_go 1 (pc' := 42) (ls' := [.ref 117, .int a1, .int (f_X12_stepWord s), .int (fu_b j1), am_U]) (st' := [.int (30 : Int32), .int (j4.1 117 25)]) (s' := j4) rfl ?_
      refine fu_ite (fun h9 => fu_step (fu_ic_ne_t rfl h9) ?_) (fun h9 => fu_step (fu_ic_ne_f rfl h9) ?_)
      · refine fu_go 3 (pc' := 49) (ls' := [.ref 117, .int a1, .int (f_X12_stepWord s), .int (fu_b j1), am_U]) (st' := [.ref 117, .int (6 : Int32), .ref 117]) (s' := j4) rfl ?_
        refine fu_step (fu_getI rfl fr_117 rfl rfl) ?_
        refine fu_let (fu_cVJ rfl rfl rfl rfl rfl (fu_recv fr_117 am_at_X12_fail rfl) (e_X12_fail d (by omega) j4 (6 : Int32) (j4.1 117 15))) (fun r10 => ?_)
        show fu_J _ _ (fr_X d none k_X12_readStep 55 [.ref 117, .int a1, .int (f_X12_stepWord s), .int (fu_b j1), am_U] [] r10)
        exact fu_leaf rfl ⟨.inr rfl, .inr rfl, .inr rfl, .inr rfl, .inl rfl, trivial⟩
      · exact fu_leaf rfl ⟨.inr rfl, .inr rfl, .inr rfl, .inr rfl, .inl rfl, trivial⟩
    · exact fu_leaf rfl ⟨.inr rfl, .inr rfl, .inr rfl, .inr rfl, .inl rfl, trivial⟩
  show fu_J _ _ (fr_X d none k_X12_readStep 55 [.ref 117, .int a1, .int (f_X12_stepWord s), .int (fu_b j1), am_U] [] j7)
  refine fu_go 1 (pc' := 56) (ls' := [.ref 117, .int a1, .int (f_X12_stepWord s), .int (fu_b j1), am_U]) (st' := [.ref 117]) (s' := j7) rfl ?_
  refine fu_step (fu_getI rfl fr_117 rfl rfl) ?_
  refine fu_bind (V := fun j11 : fu_S => fr_X d none k_X12_readStep 81 [.ref 117, .int a1, .int (f_X12_stepWord s), .int (fu_b j1), am_U] [] j11) ?_ (fun j11 => ?_)
  · refine fu_ite (fun h12 => fu_step (fu_if_ne_t rfl h12) ?_) (fun h12 => fu_step (fu_if_ne_f rfl h12) ?_)
    · refine fu_go 1 (pc' := 63) (ls' := [.ref 117, .int a1, .int (f_X12_stepWord s), .int (fu_b j1), am_U]) (st' := [.int (fu_b j1)]) (s' := j7) rfl ?_
      refine fu_ite (fun h13 => fu_step (fu_ib_eq_t rfl h13) ?_) (fun h13 => fu_step (fu_ib_eq_f rfl h13) ?_)
      · refine fu_go 2 (pc' := 68) (ls' := [.ref 117, .int a1, .int (f_X12_stepWord s), .int (fu_b j1), am_U]) (st' := [.int (3 : Int32), .int a1]) (s' := j7) rfl ?_
        refine fu_ite (fun h14 => fu_step (fu_ic_ne_t rfl h14) ?_) (fun h14 => fu_step (fu_ic_ne_f rfl h14) ?_)
        · refine fu_go 3 (pc' := 75) (ls' := [.ref 117, .int a1, .int (f_X12_stepWord s), .int (fu_b j1), am_U]) (st' := [.ref 117, .int (7 : Int32), .ref 117]) (s' := j7) rfl ?_
          refine fu_step (fu_getI rfl fr_117 rfl rfl) ?_
          refine fu_let (fu_cVJ rfl rfl rfl rfl rfl (fu_recv fr_117 am_at_X12_fail rfl) (e_X12_fail d (by omega) j7 (7 : Int32) (j7.1 117 15))) (fun r15 => ?_)
          show fu_J _ _ (fr_X d none k_X12_readStep 81 [.ref 117, .int a1, .int (f_X12_stepWord s), .int (fu_b j1), am_U] [] r15)
          exact fu_leaf rfl ⟨.inr rfl, .inr rfl, .inr rfl, .inr rfl, .inl rfl, trivial⟩
        · exact fu_leaf rfl ⟨.inr rfl, .inr rfl, .inr rfl, .inr rfl, .inl rfl, trivial⟩
      · exact fu_leaf rfl ⟨.inr rfl, .inr rfl, .inr rfl, .inr rfl, .inl rfl, trivial⟩
    · exact fu_leaf rfl ⟨.inr rfl, .inr rfl, .inr rfl, .inr rfl, .inl rfl, trivial⟩
  show fu_J _ _ (fr_X d none k_X12_readStep 81 [.ref 117, .int a1, .int (f_X12_stepWord s), .int (fu_b j1), am_U] [] j11)
  refine fu_go 1 (pc' := 82) (ls' := [.ref 117, .int a1, .int (f_X12_stepWord s), .int (fu_b j1), am_U]) (st' := [.ref 117]) (s' := j11) rfl ?_
  refine fu_step (fu_getI rfl fr_117 rfl rfl) ?_
  refine fu_ite (fun h16 => fu_step (fu_if_le_t rfl h16) ?_) (fun h16 => fu_step (fu_if_le_f rfl h16) ?_)
  · refine fu_go 3 (pc' := 95) (ls' := [.ref 117, .int a1, .int (f_X12_stepWord s), .int (fu_b j1), am_U]) (st' := [.ref 117, .int (9 : Int32), .int (1505 : Int32)]) (s' := j11) rfl ?_
    refine fu_step (fu_getI rfl fr_117 rfl rfl) ?_
    refine fu_go 5 (pc' := 104) (ls' := [.ref 117, .int a1, .int (f_X12_stepWord s), .int (fu_b j1), .int ((1505 : Int32) + ((9 : Int32) * (j11.1 117 25)))]) (st' := [.ref 117, .ref 117]) (s' := j11) rfl ?_
    refine fu_step (fu_getI rfl fr_117 rfl rfl) ?_
    refine fu_go 2 (pc' := 109) (ls' := [.ref 117, .int a1, .int (f_X12_stepWord s), .int (fu_b j1), .int ((1505 : Int32) + ((9 : Int32) * (j11.1 117 25)))]) (st' := [.int ((j11.1 117 25) + (1 : Int32)), .ref 117]) (s' := j11) rfl ?_
    refine fu_lets (b := (fu_pi j11 117 25 ((j11.1 117 25) + (1 : Int32)))) (fu_putI rfl fr_117 rfl rfl) (fun s17 => ?_)
    refine fu_go 1 (pc' := 113) (ls' := [.ref 117, .int a1, .int (f_X12_stepWord s), .int (fu_b j1), .int ((1505 : Int32) + ((9 : Int32) * (j11.1 117 25)))]) (st' := [.ref 117]) (s' := s17) rfl ?_
    refine fu_bind (fu_cVJ rfl rfl rfl rfl rfl (fu_recv fr_117 am_at_X12_advance rfl) (e_X12_advance d (by omega) s17)) (fun r18 => ?_)
    show fu_J _ _ (fr_X d none k_X12_readStep 116 [.ref 117, .int a1, .int (f_X12_stepWord s), .int (fu_b j1), .int ((1505 : Int32) + ((9 : Int32) * (j11.1 117 25)))] [] r18)
    refine fu_go 1 (pc' := 117) (ls' := [.ref 117, .int a1, .int (f_X12_stepWord s), .int (fu_b j1), .int ((1505 : Int32) + ((9 : Int32) * (j11.1 117 25)))]) (st' := [.ref 117]) (s' := r18) rfl ?_
    refine fu_step (fu_getR rfl fr_117 rfl rfl) ?_
    refine fu_go 2 (pc' := 123) (ls' := [.ref 117, .int a1, .int (f_X12_stepWord s), .int (fu_b j1), .int ((1505 : Int32) + ((9 : Int32) * (j11.1 117 25)))]) (st' := [.int (f_X12_stepWord s), .int ((1505 : Int32) + ((9 : Int32) * (j11.1 117 25))), .ref 122]) (s' := r18) rfl ?_
    refine fu_guard (fun h20 => fu_lets (b := (fu_pi r18 122 (Int32.toNatClampNeg ((1505 : Int32) + ((9 : Int32) * (j11.1 117 25)))) (f_X12_stepWord s))) (fu_stI rfl fr_122 h20) (fun s19 => ?_))
    refine fu_go 2 (pc' := 127) (ls' := [.ref 117, .int a1, .int (f_X12_stepWord s), .int (fu_b j1), .int ((1505 : Int32) + ((9 : Int32) * (j11.1 117 25)))]) (st' := [.int ((1505 : Int32) + ((9 : Int32) * (j11.1 117 25))), .ref 117]) (s' := s19) rfl ?_
    refine fu_bind (fu_cVJ rfl rfl rfl rfl rfl (fu_recv fr_117 am_at_X12_readRest rfl) (e_X12_readRest d (by omega) s19 ((1505 : Int32) + ((9 : Int32) * (j11.1 117 25))))) (fun r21 => ?_)
    show fu_J _ _ (fr_X d none k_X12_readStep 130 [.ref 117, .int a1, .int (f_X12_stepWord s), .int (fu_b j1), .int ((1505 : Int32) + ((9 : Int32) * (j11.1 117 25)))] [] r21)
    refine fu_go 3 (pc' := 134) (ls' := [.ref 117, .int a1, .int (f_X12_stepWord s), .int (fu_b j1), .int ((1505 : Int32) + ((9 : Int32) * (j11.1 117 25)))]) (st' := [.int (59 : Int32), .ref 117, .ref 117]) (s' := r21) rfl ?_
    refine fu_step (fu_cV rfl rfl rfl rfl rfl (fu_recv fr_117 am_at_X12_isSign rfl) (fu_eq (e_X12_isSign d (by omega) r21 (59 : Int32)) rfl)) ?_
    show fu_J _ _ (fr_X d none k_X12_readStep 137 [.ref 117, .int a1, .int (f_X12_stepWord s), .int (fu_b j1), .int ((1505 : Int32) + ((9 : Int32) * (j11.1 117 25)))] [.int (fu_b (f_X12_isSign r21 (59 : Int32))), .ref 117] r21)
    refine fu_bind (fu_cVJ rfl rfl rfl rfl rfl (fu_recv fr_117 am_at_X12_must rfl) (e_X12_must d (by omega) r21 (f_X12_isSign r21 (59 : Int32)))) (fun r22 => ?_)
    show fu_J _ _ (fr_X d none k_X12_readStep 140 [.ref 117, .int a1, .int (f_X12_stepWord s), .int (fu_b j1), .int ((1505 : Int32) + ((9 : Int32) * (j11.1 117 25)))] [] r22)
    refine fu_drop (ls' := [.ref 117, .int a1, am_U, .int (fu_b j1), .int ((1505 : Int32) + ((9 : Int32) * (j11.1 117 25)))]) ⟨.inr rfl, .inr rfl, .inl rfl, .inr rfl, .inr rfl, trivial⟩ ?_
    refine fu_bind (el_X12_readStep_140 K D0 hK d (by omega) (by omega) fu_N r22 a1 j1 ((1505 : Int32) + ((9 : Int32) * (j11.1 117 25)))) (fun r27 => ?_)
    show fu_J _ _ (fr_X d none k_X12_readStep 168 [.ref 117, am_U, am_U, .int (fu_b j1), .int ((1505 : Int32) + ((9 : Int32) * (j11.1 117 25)))] [] r27)
    refine fu_go 1 (pc' := 169) (ls' := [.ref 117, am_U, am_U, .int (fu_b j1), .int ((1505 : Int32) + ((9 : Int32) * (j11.1 117 25)))]) (st' := [.int (fu_b j1)]) (s' := r27) rfl ?_
    refine fu_bind (V := fun j28 : fu_S => fr_X d none k_X12_readStep 190 [.ref 117, am_U, am_U, am_U, .int ((1505 : Int32) + ((9 : Int32) * (j11.1 117 25)))] [] j28) ?_ (fun j28 => ?_)
    · refine fu_ite (fun h29 => fu_step (fu_ib_eq_t rfl h29) ?_) (fun h29 => fu_step (fu_ib_eq_f rfl h29) ?_)
      · refine fu_go 2 (pc' := 174) (ls' := [.ref 117, am_U, am_U, .int (fu_b j1), .int ((1505 : Int32) + ((9 : Int32) * (j11.1 117 25)))]) (st' := [.ref 117, .ref 117]) (s' := r27) rfl ?_
        refine fu_step (fu_cV rfl rfl rfl rfl rfl (fu_recv fr_117 am_at_X12_isEnd rfl) (fu_eq (e_X12_isEnd d (by omega) r27) rfl)) ?_
        show fu_J _ _ (fr_X d none k_X12_readStep 177 [.ref 117, am_U, am_U, .int (fu_b j1), .int ((1505 : Int32) + ((9 : Int32) * (j11.1 117 25)))] [.int (fu_b (f_X12_isEnd r27)), .ref 117] r27)
        refine fu_bind (fu_cVJ rfl rfl rfl rfl rfl (fu_recv fr_117 am_at_X12_must rfl) (e_X12_must d (by omega) r27 (f_X12_isEnd r27))) (fun r30 => ?_)
        show fu_J _ _ (fr_X d none k_X12_readStep 180 [.ref 117, am_U, am_U, .int (fu_b j1), .int ((1505 : Int32) + ((9 : Int32) * (j11.1 117 25)))] [] r30)
        refine fu_go 3 (pc' := 184) (ls' := [.ref 117, am_U, am_U, .int (fu_b j1), .int ((1505 : Int32) + ((9 : Int32) * (j11.1 117 25)))]) (st' := [.int (59 : Int32), .ref 117, .ref 117]) (s' := r30) rfl ?_
        refine fu_step (fu_cV rfl rfl rfl rfl rfl (fu_recv fr_117 am_at_X12_isSign rfl) (fu_eq (e_X12_isSign d (by omega) r30 (59 : Int32)) rfl)) ?_
        show fu_J _ _ (fr_X d none k_X12_readStep 187 [.ref 117, am_U, am_U, .int (fu_b j1), .int ((1505 : Int32) + ((9 : Int32) * (j11.1 117 25)))] [.int (fu_b (f_X12_isSign r30 (59 : Int32))), .ref 117] r30)
        refine fu_bind (fu_cVJ rfl rfl rfl rfl rfl (fu_recv fr_117 am_at_X12_must rfl) (e_X12_must d (by omega) r30 (f_X12_isSign r30 (59 : Int32)))) (fun r31 => ?_)
        show fu_J _ _ (fr_X d none k_X12_readStep 190 [.ref 117, am_U, am_U, .int (fu_b j1), .int ((1505 : Int32) + ((9 : Int32) * (j11.1 117 25)))] [] r31)
        exact fu_leaf rfl ⟨.inr rfl, .inl rfl, .inl rfl, .inl rfl, .inr rfl, trivial⟩
      · exact fu_leaf rfl ⟨.inr rfl, .inl rfl, .inl rfl, .inl rfl, .inr rfl, trivial⟩
    show fu_J _ _ (fr_X d none k_X12_readStep 190 [.ref 117, am_U, am_U, am_U, .int ((1505 : Int32) + ((9 : Int32) * (j11.1 117 25)))] [] j28)
    refine fu_go 1 (pc' := 191) (ls' := [.ref 117, am_U, am_U, am_U, .int ((1505 : Int32) + ((9 : Int32) * (j11.1 117 25)))]) (st' := [.ref 117]) (s' := j28) rfl ?_
    refine fu_step (fu_getR rfl fr_117 rfl rfl) ?_
    refine fu_go 4 (pc' := 200) (ls' := [.ref 117, am_U, am_U, am_U, .int ((1505 : Int32) + ((9 : Int32) * (j11.1 117 25)))]) (st' := [.ref 117, .int (((1505 : Int32) + ((9 : Int32) * (j11.1 117 25))) + (8 : Int32)), .ref 122]) (s' := j28) rfl ?_
    refine fu_step (fu_getI rfl fr_117 rfl rfl) ?_
    refine fu_guard (fun h33 => fu_lets (b := (fu_pi j28 122 (Int32.toNatClampNeg (((1505 : Int32) + ((9 : Int32) * (j11.1 117 25))) + (8 : Int32))) (j28.1 117 25))) (fu_stI rfl fr_122 h33) (fun s32 => ?_))
    exact fu_vret rfl rfl
  · exact fu_vret rfl rfl
theorem e_X12_readStep : ∀ (n d : Nat) (_ : 7 + 1 * n ≤ d) (s : fu_S) (a1 : Int32), fu_J (f_X12_readStep n s a1) (fun r => some (none, r)) (am_D (fu_ho fr_sh) am_m d 300 [.ref 117, .int a1] s)
  | 0 => fun d _ _ _ => fu_none
  | n + 1 => fun d hd s a1 => eb_X12_readStep (f_X12_readStep n) (7 + 1 * n) (fun d hd => e_X12_readStep n d hd) d (by omega) (by omega) s a1
/-! X12_days -/
theorem el_X12_days_28 (d : Nat) (hd : 23 ≤ d) : ∀ (n : Nat) (s : fu_S), fu_J (l_X12_days_28 n s) (fun r => fr_X d (some .int) k_X12_days 50 [.ref 117, am_U, am_U] [] r) (fr_X d (some .int) k_X12_days 28 [.ref 117, am_U, am_U] [] s) := by
  intro n
  induction n with
  | zero => intros; exact fu_none
  | succ n ih =>
    intro s
    rw [l_X12_days_28]
    refine fu_go 1 (pc' := 29) (ls' := [.ref 117, am_U, am_U]) (st' := [.ref 117]) (s' := s) rfl ?_
    refine fu_step (fu_getI rfl fr_117 rfl rfl) ?_
    refine fu_ite (fun h6 => fu_step (fu_if_ne_t rfl h6) ?_) (fun h6 => fu_step (fu_if_ne_f rfl h6) ?_)
    · refine fu_go 1 (pc' := 36) (ls' := [.ref 117, am_U, am_U]) (st' := [.ref 117]) (s' := s) rfl ?_
      refine fu_step (fu_getI rfl fr_117 rfl rfl) ?_
      refine fu_ite (fun h7 => fu_step (fu_if_eq_t rfl h7) ?_) (fun h7 => fu_step (fu_if_eq_f rfl h7) ?_)
      · exact fu_leaf rfl ⟨.inr rfl, .inl rfl, .inl rfl, trivial⟩
      · refine fu_go 2 (pc' := 44) (ls' := [.ref 117, am_U, am_U]) (st' := [.int (0 : Int32), .ref 117]) (s' := s) rfl ?_
        refine fu_bind (fu_cVJ rfl rfl rfl rfl rfl (fu_recv fr_117 am_at_X12_readStep rfl) (e_X12_readStep 16 d (by omega) s (0 : Int32))) (fun r8 => ?_)
        show fu_J _ _ (fr_X d (some .int) k_X12_days 47 [.ref 117, am_U, am_U] [] r8)
        refine fu_go 1 (pc' := 28) (ls' := [.ref 117, am_U, am_U]) (st' := []) (s' := r8) rfl ?_
        exact fu_drop (ls' := [.ref 117, am_U, am_U]) ⟨.inr rfl, .inl rfl, .inl rfl, trivial⟩ (ih r8)
    · exact fu_leaf rfl ⟨.inr rfl, .inl rfl, .inl rfl, trivial⟩
theorem el_X12_days_80 (d : Nat) (hd : 0 ≤ d) : ∀ (n : Nat) (s : fu_S) (x2 : Int32), fu_J (l_X12_days_80 n s x2) (fun r => fr_X d (some .int) k_X12_days 116 [.ref 117, am_U, am_U] [] r) (fr_X d (some .int) k_X12_days 80 [.ref 117, am_U, .int x2] [] s) := by
  intro n
  induction n with
  | zero => intros; exact fu_none
  | succ n ih =>
    intro s x2
    rw [l_X12_days_80]
    refine fu_go 3 (pc' := 84) (ls' := [.ref 117, am_U, .int x2]) (st' := [.ref 117, .int (9 : Int32), .int x2]) (s' := s) rfl ?_
    refine fu_step (fu_getI rfl fr_117 rfl rfl) ?_
    refine fu_go 1 (pc' := 88) (ls' := [.ref 117, am_U, .int x2]) (st' := [.int ((9 : Int32) * (s.1 117 25)), .int x2]) (s' := s) rfl ?_
    refine fu_ite (fun h14 => fu_step (fu_ic_ge_t rfl h14) ?_) (fun h14 => fu_step (fu_ic_ge_f rfl h14) ?_)
    · refine fu_go 1 (pc' := 92) (ls' := [.ref 117, am_U, .int x2]) (st' := [.ref 117]) (s' := s) rfl ?_
      refine fu_step (fu_getR rfl fr_117 rfl rfl) ?_
      refine fu_go 4 (pc' := 100) (ls' := [.ref 117, am_U, .int x2]) (st' := [.ref 117, .int ((85 : Int32) + x2), .ref 122]) (s' := s) rfl ?_
      refine fu_step (fu_getR rfl fr_117 rfl rfl) ?_
      refine fu_go 3 (pc' := 108) (ls' := [.ref 117, am_U, .int x2]) (st' := [.int ((1505 : Int32) + x2), .ref 122, .int ((85 : Int32) + x2), .ref 122]) (s' := s) rfl ?_
      refine fu_guard (fun h15 => fu_step (fu_ldI rfl fr_122 h15) ?_)
      refine fu_guard (fun h17 => fu_lets (b := (fu_pi s 122 (Int32.toNatClampNeg ((85 : Int32) + x2)) (s.1 122 (Int32.toNatClampNeg ((1505 : Int32) + x2))))) (fu_stI rfl fr_122 h17) (fun s16 => ?_))
      refine fu_go 2 (pc' := 80) (ls' := [.ref 117, am_U, .int (x2 + (1 : Int32))]) (st' := []) (s' := s16) rfl ?_
      exact fu_drop (ls' := [.ref 117, am_U, .int (x2 + (1 : Int32))]) ⟨.inr rfl, .inl rfl, .inr rfl, trivial⟩ (ih s16 (x2 + (1 : Int32)))
    · exact fu_leaf rfl ⟨.inr rfl, .inl rfl, .inl rfl, trivial⟩
set_option maxRecDepth 100000 in
theorem e_X12_days (d : Nat) (hd : 24 ≤ d) (s : fu_S) (a1 : Int32) : fu_J (f_X12_days s a1) (fun r => some (some (.int r.1), r.2)) (am_D (fu_ho fr_sh) am_m d 301 [.ref 117, .int a1] s) := by
  obtain ⟨d, rfl⟩ : ∃ e, d = e + 1 := ⟨d - 1, by omega⟩
  refine fu_enter (ls := [.ref 117, .int a1, am_U]) am_at_X12_days rfl rfl ?_
  show fu_J _ _ (fr_X d (some .int) k_X12_days 0 [.ref 117, .int a1, am_U] [] s)
  unfold f_X12_days
  refine fu_go 2 (pc' := 2) (ls' := [.ref 117, .int a1, am_U]) (st' := [.int (0 : Int32), .ref 117]) (s' := s) rfl ?_
  refine fu_lets (b := (fu_pi s 117 1 (0 : Int32))) (fu_putI rfl fr_117 rfl rfl) (fun s1 => ?_)
  refine fu_go 2 (pc' := 7) (ls' := [.ref 117, .int a1, am_U]) (st' := [.int (0 : Int32), .ref 117]) (s' := s1) rfl ?_
  refine fu_lets (b := (fu_pi s1 117 0 (0 : Int32))) (fu_putI rfl fr_117 rfl rfl) (fun s2 => ?_)
  refine fu_go 3 (pc' := 15) (ls' := [.ref 117, .int a1, am_U]) (st' := [.int (300 : Int32), .int a1, .ref 117]) (s' := s2) rfl ?_
  refine fu_bind (fu_cVJ rfl rfl rfl rfl rfl (fu_recv fr_117 am_at_X12_starts rfl) (e_X12_starts d (by omega) s2 a1 (300 : Int32))) (fun r3 => ?_)
  show fu_J _ _ (fr_X d (some .int) k_X12_days 18 [.ref 117, .int a1, am_U] [.int (fu_b r3.1)] r3.2)
  refine fu_ite (fun h4 => fu_step (fu_ib_ne_t rfl h4) ?_) (fun h4 => fu_step (fu_ib_ne_f rfl h4) ?_)
  · refine fu_go 2 (pc' := 25) (ls' := [.ref 117, .int a1, am_U]) (st' := [.int (0 : Int32), .ref 117]) (s' := r3.2) rfl ?_
    refine fu_lets (b := (fu_pi r3.2 117 25 (0 : Int32))) (fu_putI rfl fr_117 rfl rfl) (fun s5 => ?_)
    refine fu_drop (ls' := [.ref 117, am_U, am_U]) ⟨.inr rfl, .inl rfl, .inl rfl, trivial⟩ ?_
    refine fu_bind (el_X12_days_28 d (by omega) fu_N s5) (fun r9 => ?_)
    show fu_J _ _ (fr_X d (some .int) k_X12_days 50 [.ref 117, am_U, am_U] [] r9)
    refine fu_go 1 (pc' := 51) (ls' := [.ref 117, am_U, am_U]) (st' := [.ref 117]) (s' := r9) rfl ?_
    refine fu_let (fu_cVJ rfl rfl rfl rfl rfl (fu_recv fr_117 am_at_X12_isWell rfl) (e_X12_isWell d (by omega) r9)) (fun r10 => ?_)
    show fu_J _ _ (fr_X d (some .int) k_X12_days 54 [.ref 117, am_U, am_U] [.int (fu_b r10.1)] r10.2)
    refine fu_ite (fun h11 => fu_step (fu_ib_ne_t rfl h11) ?_) (fun h11 => fu_step (fu_ib_ne_f rfl h11) ?_)
    · refine fu_go 1 (pc' := 60) (ls' := [.ref 117, am_U, am_U]) (st' := [.ref 117]) (s' := r10.2) rfl ?_
      refine fu_step (fu_getR rfl fr_117 rfl rfl) ?_
      refine fu_go 2 (pc' := 66) (ls' := [.ref 117, am_U, am_U]) (st' := [.int (1 : Int32), .int (83 : Int32), .ref 122]) (s' := r10.2) rfl ?_
      refine fu_lets (b := (fu_pi r10.2 122 83 (1 : Int32))) (fu_stIk rfl fr_122 (by decide) (by decide)) (fun s12 => ?_)
      refine fu_go 1 (pc' := 68) (ls' := [.ref 117, am_U, am_U]) (st' := [.ref 117]) (s' := s12) rfl ?_
      refine fu_step (fu_getR rfl fr_117 rfl rfl) ?_
      refine fu_go 2 (pc' := 74) (ls' := [.ref 117, am_U, am_U]) (st' := [.ref 117, .int (84 : Int32), .ref 122]) (s' := s12) rfl ?_
      refine fu_step (fu_getI rfl fr_117 rfl rfl) ?_
      refine fu_lets (b := (fu_pi s12 122 84 (s12.1 117 25))) (fu_stIk rfl fr_122 (by decide) (by decide)) (fun s13 => ?_)
      refine fu_go 2 (pc' := 80) (ls' := [.ref 117, am_U, .int (0 : Int32)]) (st' := []) (s' := s13) rfl ?_
      refine fu_drop (ls' := [.ref 117, am_U, .int (0 : Int32)]) ⟨.inr rfl, .inl rfl, .inr rfl, trivial⟩ ?_
      refine fu_bind (el_X12_days_80 d (by omega) fu_N s13 (0 : Int32)) (fun r18 => ?_)
      show fu_J _ _ (fr_X d (some .int) k_X12_days 116 [.ref 117, am_U, am_U] [] r18)
      refine fu_go 1 (pc' := 117) (ls' := [.ref 117, am_U, am_U]) (st' := [.ref 117]) (s' := r18) rfl ?_
      refine fu_step (fu_getI rfl fr_117 rfl rfl) ?_
      exact fu_iret rfl rfl
    · refine fu_go 1 (pc' := 58) (ls' := [.ref 117, am_U, am_U]) (st' := [.int (-1 : Int32)]) (s' := r10.2) rfl ?_
      exact fu_iret rfl rfl
  · refine fu_go 1 (pc' := 22) (ls' := [.ref 117, .int a1, am_U]) (st' := [.int (-1 : Int32)]) (s' := r3.2) rfl ?_
    exact fu_iret rfl rfl
/-! X12_isKindAt -/
set_option maxRecDepth 100000 in
theorem e_X12_isKindAt (d : Nat) (hd : 2 ≤ d) (s : fu_S) (a1 : Int64) : fu_J (some (f_X12_isKindAt s a1)) (fun r => some (some (.int (fu_b r)), s)) (am_D (fu_ho fr_sh) am_m d 302 [.ref 117, .long a1] s) := by
  obtain ⟨d, rfl⟩ : ∃ e, d = e + 1 := ⟨d - 1, by omega⟩
  refine fu_enter (ls := [.ref 117, .long a1, am_U]) am_at_X12_isKindAt rfl rfl ?_
  show fu_J _ _ (fr_X d (some .boolean) k_X12_isKindAt 0 [.ref 117, .long a1, am_U] [] s)
  unfold f_X12_isKindAt
  refine fu_go 3 (pc' := 3) (ls' := [.ref 117, .long a1, am_U]) (st' := [.ref 117, .long (0 : Int64), .long a1]) (s' := s) rfl ?_
  refine fu_step (fu_getR rfl fr_117 rfl rfl) ?_
  refine fu_go 1 (pc' := 7) (ls' := [.ref 117, .long a1, am_U]) (st' := [.int (0 : Int32), .ref 122, .long (0 : Int64), .long a1]) (s' := s) rfl ?_
  refine fu_step (fu_ldIk (k := 0) rfl fr_122 (by decide) (by decide)) ?_
  refine fu_go 3 (pc' := 11) (ls' := [.ref 117, .long a1, am_U]) (st' := [.long (Int32.toInt64 ((s.1 122 0) - (1 : Int32))), .long (0 : Int64), .long a1]) (s' := s) rfl ?_
  refine fu_step (fu_cS rfl rfl rfl rfl rfl rfl (fu_eq (e_X12_isIn d (by omega) s a1 (0 : Int64) (Int32.toInt64 ((s.1 122 0) - (1 : Int32)))) rfl)) ?_
  show fu_J _ _ (fr_X d (some .boolean) k_X12_isKindAt 14 [.ref 117, .long a1, am_U] [.int (fu_b (f_X12_isIn a1 (0 : Int64) (Int32.toInt64 ((s.1 122 0) - (1 : Int32)))))] s)
  exact fu_bret (b := (f_X12_isIn a1 (0 : Int64) (Int32.toInt64 ((s.1 122 0) - (1 : Int32))))) rfl rfl
/-! X12_isPersonAt -/
set_option maxRecDepth 100000 in
theorem e_X12_isPersonAt (d : Nat) (hd : 2 ≤ d) (s : fu_S) (a1 : Int64) : fu_J (some (f_X12_isPersonAt s a1)) (fun r => some (some (.int (fu_b r)), s)) (am_D (fu_ho fr_sh) am_m d 303 [.ref 117, .long a1] s) := by
  obtain ⟨d, rfl⟩ : ∃ e, d = e + 1 := ⟨d - 1, by omega⟩
  refine fu_enter (ls := [.ref 117, .long a1, am_U]) am_at_X12_isPersonAt rfl rfl ?_
  show fu_J _ _ (fr_X d (some .boolean) k_X12_isPersonAt 0 [.ref 117, .long a1, am_U] [] s)
  unfold f_X12_isPersonAt
  refine fu_go 3 (pc' := 3) (ls' := [.ref 117, .long a1, am_U]) (st' := [.ref 117, .long (0 : Int64), .long a1]) (s' := s) rfl ?_
  refine fu_step (fu_getR rfl fr_117 rfl rfl) ?_
  refine fu_go 1 (pc' := 7) (ls' := [.ref 117, .long a1, am_U]) (st' := [.int (1 : Int32), .ref 122, .long (0 : Int64), .long a1]) (s' := s) rfl ?_
  refine fu_step (fu_ldIk (k := 1) rfl fr_122 (by decide) (by decide)) ?_
  refine fu_go 3 (pc' := 11) (ls' := [.ref 117, .long a1, am_U]) (st' := [.long (Int32.toInt64 ((s.1 122 1) - (1 : Int32))), .long (0 : Int64), .long a1]) (s' := s) rfl ?_
  refine fu_step (fu_cS rfl rfl rfl rfl rfl rfl (fu_eq (e_X12_isIn d (by omega) s a1 (0 : Int64) (Int32.toInt64 ((s.1 122 1) - (1 : Int32)))) rfl)) ?_
  show fu_J _ _ (fr_X d (some .boolean) k_X12_isPersonAt 14 [.ref 117, .long a1, am_U] [.int (fu_b (f_X12_isIn a1 (0 : Int64) (Int32.toInt64 ((s.1 122 1) - (1 : Int32)))))] s)
  exact fu_bret (b := (f_X12_isIn a1 (0 : Int64) (Int32.toInt64 ((s.1 122 1) - (1 : Int32))))) rfl rfl
/-! X12_isThingAt -/
set_option maxRecDepth 100000 in
theorem e_X12_isThingAt (d : Nat) (hd : 2 ≤ d) (s : fu_S) (a1 : Int32) : fu_J (some (f_X12_isThingAt s a1)) (fun r => some (some (.int (fu_b r)), s)) (am_D (fu_ho fr_sh) am_m d 304 [.ref 117, .int a1] s) := by
  obtain ⟨d, rfl⟩ : ∃ e, d = e + 1 := ⟨d - 1, by omega⟩
  refine fu_enter (ls := [.ref 117, .int a1]) am_at_X12_isThingAt rfl rfl ?_
  show fu_J _ _ (fr_X d (some .boolean) k_X12_isThingAt 0 [.ref 117, .int a1] [] s)
  unfold f_X12_isThingAt
  refine fu_go 4 (pc' := 4) (ls' := [.ref 117, .int a1]) (st' := [.ref 117, .long (0 : Int64), .long (Int32.toInt64 a1)]) (s' := s) rfl ?_
  refine fu_step (fu_getR rfl fr_117 rfl rfl) ?_
  refine fu_go 1 (pc' := 8) (ls' := [.ref 117, .int a1]) (st' := [.int (2 : Int32), .ref 122, .long (0 : Int64), .long (Int32.toInt64 a1)]) (s' := s) rfl ?_
  refine fu_step (fu_ldIk (k := 2) rfl fr_122 (by decide) (by decide)) ?_
  refine fu_go 3 (pc' := 12) (ls' := [.ref 117, .int a1]) (st' := [.long (Int32.toInt64 ((s.1 122 2) - (1 : Int32))), .long (0 : Int64), .long (Int32.toInt64 a1)]) (s' := s) rfl ?_
  refine fu_step (fu_cS rfl rfl rfl rfl rfl rfl (fu_eq (e_X12_isIn d (by omega) s (Int32.toInt64 a1) (0 : Int64) (Int32.toInt64 ((s.1 122 2) - (1 : Int32)))) rfl)) ?_
  show fu_J _ _ (fr_X d (some .boolean) k_X12_isThingAt 15 [.ref 117, .int a1] [.int (fu_b (f_X12_isIn (Int32.toInt64 a1) (0 : Int64) (Int32.toInt64 ((s.1 122 2) - (1 : Int32)))))] s)
  exact fu_bret (b := (f_X12_isIn (Int32.toInt64 a1) (0 : Int64) (Int32.toInt64 ((s.1 122 2) - (1 : Int32))))) rfl rfl
/-! X12_isSpotAt -/
set_option maxRecDepth 100000 in
theorem e_X12_isSpotAt (d : Nat) (hd : 2 ≤ d) (s : fu_S) (a0 : Int32) : fu_J (some (f_X12_isSpotAt a0)) (fun r => some (some (.int (fu_b r)), s)) (am_D (fu_ho fr_sh) am_m d 305 [.int a0] s) := by
  obtain ⟨d, rfl⟩ : ∃ e, d = e + 1 := ⟨d - 1, by omega⟩
  refine fu_enter (ls := [.int a0]) am_at_X12_isSpotAt rfl rfl ?_
  show fu_J _ _ (fr_X d (some .boolean) k_X12_isSpotAt 0 [.int a0] [] s)
  unfold f_X12_isSpotAt
  refine fu_go 4 (pc' := 6) (ls' := [.int a0]) (st' := [.long (9 : Int64), .long (0 : Int64), .long (Int32.toInt64 a0)]) (s' := s) rfl ?_
  refine fu_step (fu_cS rfl rfl rfl rfl rfl rfl (fu_eq (e_X12_isIn d (by omega) s (Int32.toInt64 a0) (0 : Int64) (9 : Int64)) rfl)) ?_
  show fu_J _ _ (fr_X d (some .boolean) k_X12_isSpotAt 9 [.int a0] [.int (fu_b (f_X12_isIn (Int32.toInt64 a0) (0 : Int64) (9 : Int64)))] s)
  exact fu_bret (b := (f_X12_isIn (Int32.toInt64 a0) (0 : Int64) (9 : Int64))) rfl rfl
/-! X12_farBy -/
set_option maxRecDepth 100000 in
theorem e_X12_farBy (d : Nat) (hd : 1 ≤ d) (s : fu_S) (a1 : Int32) (a2 : Int32) : fu_J (f_X12_farBy s a1 a2) (fun r => some (some (.int r), s)) (am_D (fu_ho fr_sh) am_m d 306 [.ref 117, .int a1, .int a2] s) := by
  obtain ⟨d, rfl⟩ : ∃ e, d = e + 1 := ⟨d - 1, by omega⟩
  refine fu_enter (ls := [.ref 117, .int a1, .int a2]) am_at_X12_farBy rfl rfl ?_
  show fu_J _ _ (fr_X d (some .int) k_X12_farBy 0 [.ref 117, .int a1, .int a2] [] s)
  unfold f_X12_farBy
  refine fu_go 1 (pc' := 1) (ls' := [.ref 117, .int a1, .int a2]) (st' := [.ref 117]) (s' := s) rfl ?_
  refine fu_step (fu_getR rfl fr_117 rfl rfl) ?_
  refine fu_go 3 (pc' := 8) (ls' := [.ref 117, .int a1, .int a2]) (st' := [.int ((21 : Int32) + a1), .ref 122]) (s' := s) rfl ?_
  refine fu_guard (fun h1 => fu_step (fu_ldI rfl fr_122 h1) ?_)
  refine fu_go 1 (pc' := 10) (ls' := [.ref 117, .int a1, .int a2]) (st' := [.ref 117, .int (s.1 122 (Int32.toNatClampNeg ((21 : Int32) + a1)))]) (s' := s) rfl ?_
  refine fu_step (fu_getR rfl fr_117 rfl rfl) ?_
  refine fu_go 3 (pc' := 17) (ls' := [.ref 117, .int a1, .int a2]) (st' := [.int ((21 : Int32) + a2), .ref 122, .int (s.1 122 (Int32.toNatClampNeg ((21 : Int32) + a1)))]) (s' := s) rfl ?_
  refine fu_guard (fun h2 => fu_step (fu_ldI rfl fr_122 h2) ?_)
  refine fu_go 1 (pc' := 19) (ls' := [.ref 117, .int a1, .int a2]) (st' := [.int ((s.1 122 (Int32.toNatClampNeg ((21 : Int32) + a1))) - (s.1 122 (Int32.toNatClampNeg ((21 : Int32) + a2))))]) (s' := s) rfl ?_
  refine fu_step (fu_prim rfl rfl rfl rfl) ?_
  exact fu_iret rfl rfl
/-! X12_bearerBy -/
set_option maxRecDepth 100000 in
theorem e_X12_bearerBy (d : Nat) (hd : 1 ≤ d) (s : fu_S) (a1 : Int32) (a2 : Int32) : fu_J (f_X12_bearerBy s a1 a2) (fun r => some (some (.int r), s)) (am_D (fu_ho fr_sh) am_m d 307 [.ref 117, .int a1, .int a2] s) := by
  obtain ⟨d, rfl⟩ : ∃ e, d = e + 1 := ⟨d - 1, by omega⟩
  refine fu_enter (ls := [.ref 117, .int a1, .int a2]) am_at_X12_bearerBy rfl rfl ?_
  show fu_J _ _ (fr_X d (some .int) k_X12_bearerBy 0 [.ref 117, .int a1, .int a2] [] s)
  unfold f_X12_bearerBy
  refine fu_go 2 (pc' := 2) (ls' := [.ref 117, .int a1, .int a2]) (st' := [.ref 117, .int a1]) (s' := s) rfl ?_
  refine fu_step (fu_getR rfl fr_117 rfl rfl) ?_
  refine fu_go 3 (pc' := 9) (ls' := [.ref 117, .int a1, .int a2]) (st' := [.int ((6 : Int32) + a2), .ref 122, .int a1]) (s' := s) rfl ?_
  refine fu_guard (fun h1 => fu_step (fu_ldI rfl fr_122 h1) ?_)
  refine fu_go 2 (pc' := 12) (ls' := [.ref 117, .int a1, .int a2]) (st' := [.ref 117, .int (a1 + (s.1 122 (Int32.toNatClampNeg ((6 : Int32) + a2))))]) (s' := s) rfl ?_
  refine fu_step (fu_getR rfl fr_117 rfl rfl) ?_
  refine fu_go 1 (pc' := 16) (ls' := [.ref 117, .int a1, .int a2]) (st' := [.int (1 : Int32), .ref 122, .int (a1 + (s.1 122 (Int32.toNatClampNeg ((6 : Int32) + a2))))]) (s' := s) rfl ?_
  refine fu_step (fu_ldIk (k := 1) rfl fr_122 (by decide) (by decide)) ?_
  refine fu_ite (fun _ => fu_none) (fun h2 => fu_step (fu_rem rfl h2) ?_)
  exact fu_iret rfl rfl
/-! X12_spotBy -/
set_option maxRecDepth 100000 in
theorem e_X12_spotBy (d : Nat) (hd : 1 ≤ d) (s : fu_S) (a1 : Int32) (a2 : Int32) : fu_J (f_X12_spotBy s a1 a2) (fun r => some (some (.int r), s)) (am_D (fu_ho fr_sh) am_m d 308 [.ref 117, .int a1, .int a2] s) := by
  obtain ⟨d, rfl⟩ : ∃ e, d = e + 1 := ⟨d - 1, by omega⟩
  refine fu_enter (ls := [.ref 117, .int a1, .int a2]) am_at_X12_spotBy rfl rfl ?_
  show fu_J _ _ (fr_X d (some .int) k_X12_spotBy 0 [.ref 117, .int a1, .int a2] [] s)
  unfold f_X12_spotBy
  refine fu_go 1 (pc' := 1) (ls' := [.ref 117, .int a1, .int a2]) (st' := [.ref 117]) (s' := s) rfl ?_
  refine fu_step (fu_getR rfl fr_117 rfl rfl) ?_
  refine fu_go 3 (pc' := 8) (ls' := [.ref 117, .int a1, .int a2]) (st' := [.int ((11 : Int32) + a2), .ref 122]) (s' := s) rfl ?_
  refine fu_guard (fun h1 => fu_step (fu_ldI rfl fr_122 h1) ?_)
  refine fu_go 3 (pc' := 13) (ls' := [.ref 117, .int a1, .int a2]) (st' := [.int (10 : Int32), .int ((s.1 122 (Int32.toNatClampNeg ((11 : Int32) + a2))) + a1)]) (s' := s) rfl ?_
  refine fu_step (fu_rem rfl (by decide)) ?_
  exact fu_iret rfl rfl
/-! X12_bearerOf -/
set_option maxRecDepth 100000 in
theorem e_X12_bearerOf (d : Nat) (hd : 2 ≤ d) (s : fu_S) (a1 : Int32) : fu_J (f_X12_bearerOf s a1) (fun r => some (some (.int r), s)) (am_D (fu_ho fr_sh) am_m d 309 [.ref 117, .int a1] s) := by
  obtain ⟨d, rfl⟩ : ∃ e, d = e + 1 := ⟨d - 1, by omega⟩
  refine fu_enter (ls := [.ref 117, .int a1]) am_at_X12_bearerOf rfl rfl ?_
  show fu_J _ _ (fr_X d (some .int) k_X12_bearerOf 0 [.ref 117, .int a1] [] s)
  unfold f_X12_bearerOf
  refine fu_go 2 (pc' := 2) (ls' := [.ref 117, .int a1]) (st' := [.ref 117, .ref 117]) (s' := s) rfl ?_
  refine fu_step (fu_getR rfl fr_117 rfl rfl) ?_
  refine fu_go 3 (pc' := 9) (ls' := [.ref 117, .int a1]) (st' := [.int ((35 : Int32) + a1), .ref 122, .ref 117]) (s' := s) rfl ?_
  refine fu_guard (fun h1 => fu_step (fu_ldI rfl fr_122 h1) ?_)
  refine fu_go 1 (pc' := 11) (ls' := [.ref 117, .int a1]) (st' := [.ref 117, .int (s.1 122 (Int32.toNatClampNeg ((35 : Int32) + a1))), .ref 117]) (s' := s) rfl ?_
  refine fu_step (fu_getR rfl fr_117 rfl rfl) ?_
  refine fu_go 3 (pc' := 18) (ls' := [.ref 117, .int a1]) (st' := [.int ((43 : Int32) + a1), .ref 122, .int (s.1 122 (Int32.toNatClampNeg ((35 : Int32) + a1))), .ref 117]) (s' := s) rfl ?_
  refine fu_guard (fun h2 => fu_step (fu_ldI rfl fr_122 h2) ?_)
  refine fu_bind (fu_cVJ rfl rfl rfl rfl rfl (fu_recv fr_117 am_at_X12_bearerBy rfl) (e_X12_bearerBy d (by omega) s (s.1 122 (Int32.toNatClampNeg ((35 : Int32) + a1))) (s.1 122 (Int32.toNatClampNeg ((43 : Int32) + a1))))) (fun r3 => ?_)
  show fu_J _ _ (fr_X d (some .int) k_X12_bearerOf 22 [.ref 117, .int a1] [.int r3] s)
  exact fu_iret rfl rfl
/-! X12_spotOf -/
set_option maxRecDepth 100000 in
theorem e_X12_spotOf (d : Nat) (hd : 2 ≤ d) (s : fu_S) (a1 : Int32) : fu_J (f_X12_spotOf s a1) (fun r => some (some (.int r), s)) (am_D (fu_ho fr_sh) am_m d 310 [.ref 117, .int a1] s) := by
  obtain ⟨d, rfl⟩ : ∃ e, d = e + 1 := ⟨d - 1, by omega⟩
  refine fu_enter (ls := [.ref 117, .int a1]) am_at_X12_spotOf rfl rfl ?_
  show fu_J _ _ (fr_X d (some .int) k_X12_spotOf 0 [.ref 117, .int a1] [] s)
  unfold f_X12_spotOf
  refine fu_go 2 (pc' := 2) (ls' := [.ref 117, .int a1]) (st' := [.ref 117, .ref 117]) (s' := s) rfl ?_
  refine fu_step (fu_getR rfl fr_117 rfl rfl) ?_
  refine fu_go 3 (pc' := 9) (ls' := [.ref 117, .int a1]) (st' := [.int ((35 : Int32) + a1), .ref 122, .ref 117]) (s' := s) rfl ?_
  refine fu_guard (fun h1 => fu_step (fu_ldI rfl fr_122 h1) ?_)
  refine fu_go 1 (pc' := 11) (ls' := [.ref 117, .int a1]) (st' := [.ref 117, .int (s.1 122 (Int32.toNatClampNeg ((35 : Int32) + a1))), .ref 117]) (s' := s) rfl ?_
  refine fu_step (fu_getR rfl fr_117 rfl rfl) ?_
  refine fu_go 3 (pc' := 18) (ls' := [.ref 117, .int a1]) (st' := [.int ((43 : Int32) + a1), .ref 122, .int (s.1 122 (Int32.toNatClampNeg ((35 : Int32) + a1))), .ref 117]) (s' := s) rfl ?_
  refine fu_guard (fun h2 => fu_step (fu_ldI rfl fr_122 h2) ?_)
  refine fu_bind (fu_cVJ rfl rfl rfl rfl rfl (fu_recv fr_117 am_at_X12_spotBy rfl) (e_X12_spotBy d (by omega) s (s.1 122 (Int32.toNatClampNeg ((35 : Int32) + a1))) (s.1 122 (Int32.toNatClampNeg ((43 : Int32) + a1))))) (fun r3 => ?_)
  show fu_J _ _ (fr_X d (some .int) k_X12_spotOf 22 [.ref 117, .int a1] [.int r3] s)
  exact fu_iret rfl rfl
/-! X12_wayOf -/
set_option maxRecDepth 100000 in
theorem e_X12_wayOf (d : Nat) (hd : 3 ≤ d) (s : fu_S) (a1 : Int32) : fu_J (f_X12_wayOf s a1) (fun r => some (some (.int r), s)) (am_D (fu_ho fr_sh) am_m d 311 [.ref 117, .int a1] s) := by
  obtain ⟨d, rfl⟩ : ∃ e, d = e + 1 := ⟨d - 1, by omega⟩
  refine fu_enter (ls := [.ref 117, .int a1]) am_at_X12_wayOf rfl rfl ?_
  show fu_J _ _ (fr_X d (some .int) k_X12_wayOf 0 [.ref 117, .int a1] [] s)
  unfold f_X12_wayOf
  refine fu_go 2 (pc' := 2) (ls' := [.ref 117, .int a1]) (st' := [.ref 117, .ref 117]) (s' := s) rfl ?_
  refine fu_step (fu_getR rfl fr_117 rfl rfl) ?_
  refine fu_go 3 (pc' := 9) (ls' := [.ref 117, .int a1]) (st' := [.int ((35 : Int32) + a1), .ref 122, .ref 117]) (s' := s) rfl ?_
  refine fu_guard (fun h1 => fu_step (fu_ldI rfl fr_122 h1) ?_)
  refine fu_go 2 (pc' := 12) (ls' := [.ref 117, .int a1]) (st' := [.int a1, .ref 117, .int (s.1 122 (Int32.toNatClampNeg ((35 : Int32) + a1))), .ref 117]) (s' := s) rfl ?_
  refine fu_bind (fu_cVJ rfl rfl rfl rfl rfl (fu_recv fr_117 am_at_X12_bearerOf rfl) (e_X12_bearerOf d (by omega) s a1)) (fun r2 => ?_)
  show fu_J _ _ (fr_X d (some .int) k_X12_wayOf 15 [.ref 117, .int a1] [.int r2, .int (s.1 122 (Int32.toNatClampNeg ((35 : Int32) + a1))), .ref 117] s)
  refine fu_bind (fu_cVJ rfl rfl rfl rfl rfl (fu_recv fr_117 am_at_X12_farBy rfl) (e_X12_farBy d (by omega) s (s.1 122 (Int32.toNatClampNeg ((35 : Int32) + a1))) r2)) (fun r3 => ?_)
  show fu_J _ _ (fr_X d (some .int) k_X12_wayOf 18 [.ref 117, .int a1] [.int r3] s)
  exact fu_iret rfl rfl
/-! X12_comesUp -/
set_option maxRecDepth 100000 in
theorem e_X12_comesUp (d : Nat) (hd : 4 ≤ d) (s : fu_S) (a1 : Int32) : fu_J (f_X12_comesUp s a1) (fun r => some (some (.int r), s)) (am_D (fu_ho fr_sh) am_m d 312 [.ref 117, .int a1] s) := by
  obtain ⟨d, rfl⟩ : ∃ e, d = e + 1 := ⟨d - 1, by omega⟩
  refine fu_enter (ls := [.ref 117, .int a1]) am_at_X12_comesUp rfl rfl ?_
  show fu_J _ _ (fr_X d (some .int) k_X12_comesUp 0 [.ref 117, .int a1] [] s)
  unfold f_X12_comesUp
  refine fu_go 1 (pc' := 1) (ls' := [.ref 117, .int a1]) (st' := [.ref 117]) (s' := s) rfl ?_
  refine fu_step (fu_getR rfl fr_117 rfl rfl) ?_
  refine fu_go 3 (pc' := 8) (ls' := [.ref 117, .int a1]) (st' := [.int ((59 : Int32) + a1), .ref 122]) (s' := s) rfl ?_
  refine fu_guard (fun h1 => fu_step (fu_ldI rfl fr_122 h1) ?_)
  refine fu_go 2 (pc' := 11) (ls' := [.ref 117, .int a1]) (st' := [.int a1, .ref 117, .int (s.1 122 (Int32.toNatClampNeg ((59 : Int32) + a1)))]) (s' := s) rfl ?_
  refine fu_bind (fu_cVJ rfl rfl rfl rfl rfl (fu_recv fr_117 am_at_X12_wayOf rfl) (e_X12_wayOf d (by omega) s a1)) (fun r2 => ?_)
  show fu_J _ _ (fr_X d (some .int) k_X12_comesUp 14 [.ref 117, .int a1] [.int r2, .int (s.1 122 (Int32.toNatClampNeg ((59 : Int32) + a1)))] s)
  refine fu_go 1 (pc' := 15) (ls' := [.ref 117, .int a1]) (st' := [.int ((s.1 122 (Int32.toNatClampNeg ((59 : Int32) + a1))) + r2)]) (s' := s) rfl ?_
  exact fu_iret rfl rfl
/-! X12_isScratched -/
set_option maxRecDepth 100000 in
theorem e_X12_isScratched (d : Nat) (hd : 1 ≤ d) (s : fu_S) (a1 : Int32) : fu_J (f_X12_isScratched s a1) (fun r => some (some (.int (fu_b r)), s)) (am_D (fu_ho fr_sh) am_m d 313 [.ref 117, .int a1] s) := by
  obtain ⟨d, rfl⟩ : ∃ e, d = e + 1 := ⟨d - 1, by omega⟩
  refine fu_enter (ls := [.ref 117, .int a1]) am_at_X12_isScratched rfl rfl ?_
  show fu_J _ _ (fr_X d (some .boolean) k_X12_isScratched 0 [.ref 117, .int a1] [] s)
  unfold f_X12_isScratched
  refine fu_go 1 (pc' := 1) (ls' := [.ref 117, .int a1]) (st' := [.ref 117]) (s' := s) rfl ?_
  refine fu_step (fu_getR rfl fr_117 rfl rfl) ?_
  refine fu_go 3 (pc' := 8) (ls' := [.ref 117, .int a1]) (st' := [.int ((67 : Int32) + a1), .ref 122]) (s' := s) rfl ?_
  refine fu_guard (fun h1 => fu_step (fu_ldI rfl fr_122 h1) ?_)
  refine fu_bind (V := fun j2 : Bool => fr_X d (some .boolean) k_X12_isScratched 17 [am_U, am_U] [.int (fu_b j2)] s) ?_ (fun j2 => ?_)
  · refine fu_ite (fun h3 => fu_step (fu_if_le_t rfl h3) ?_) (fun h3 => fu_step (fu_if_le_f rfl h3) ?_)
    · refine fu_go 1 (pc' := 17) (ls' := [.ref 117, .int a1]) (st' := [.int (0 : Int32)]) (s' := s) rfl ?_
      exact fu_leaf rfl ⟨.inl rfl, .inl rfl, trivial⟩
    · refine fu_go 2 (pc' := 17) (ls' := [.ref 117, .int a1]) (st' := [.int (1 : Int32)]) (s' := s) rfl ?_
      exact fu_leaf rfl ⟨.inl rfl, .inl rfl, trivial⟩
  show fu_J _ _ (fr_X d (some .boolean) k_X12_isScratched 17 [am_U, am_U] [.int (fu_b j2)] s)
  exact fu_bret (b := j2) rfl rfl
/-! X12_isUp -/
set_option maxRecDepth 100000 in
theorem e_X12_isUp (d : Nat) (hd : 5 ≤ d) (s : fu_S) (a1 : Int32) : fu_J (f_X12_isUp s a1) (fun r => some (some (.int (fu_b r)), s)) (am_D (fu_ho fr_sh) am_m d 314 [.ref 117, .int a1] s) := by
  obtain ⟨d, rfl⟩ : ∃ e, d = e + 1 := ⟨d - 1, by omega⟩
  refine fu_enter (ls := [.ref 117, .int a1]) am_at_X12_isUp rfl rfl ?_
  show fu_J _ _ (fr_X d (some .boolean) k_X12_isUp 0 [.ref 117, .int a1] [] s)
  unfold f_X12_isUp
  refine fu_go 2 (pc' := 2) (ls' := [.ref 117, .int a1]) (st' := [.int a1, .ref 117]) (s' := s) rfl ?_
  refine fu_bind (fu_cVJ rfl rfl rfl rfl rfl (fu_recv fr_117 am_at_X12_isScratched rfl) (e_X12_isScratched d (by omega) s a1)) (fun r1 => ?_)
  show fu_J _ _ (fr_X d (some .boolean) k_X12_isUp 5 [.ref 117, .int a1] [.int (fu_b r1)] s)
  refine fu_bind (V := fun j2 : Bool => fr_X d (some .boolean) k_X12_isUp 27 [am_U, am_U] [.int (fu_b j2)] s) ?_ (fun j2 => ?_)
  · refine fu_ite (fun h3 => fu_step (fu_ib_ne_t rfl h3) ?_) (fun h3 => fu_step (fu_ib_ne_f rfl h3) ?_)
    · refine fu_go 1 (pc' := 27) (ls' := [.ref 117, .int a1]) (st' := [.int (0 : Int32)]) (s' := s) rfl ?_
      exact fu_leaf rfl ⟨.inl rfl, .inl rfl, trivial⟩
    · refine fu_go 1 (pc' := 9) (ls' := [.ref 117, .int a1]) (st' := [.ref 117]) (s' := s) rfl ?_
      refine fu_step (fu_getR rfl fr_117 rfl rfl) ?_
      refine fu_go 1 (pc' := 13) (ls' := [.ref 117, .int a1]) (st' := [.int (5 : Int32), .ref 122]) (s' := s) rfl ?_
      refine fu_step (fu_ldIk (k := 5) rfl fr_122 (by decide) (by decide)) ?_
      refine fu_go 2 (pc' := 16) (ls' := [.ref 117, .int a1]) (st' := [.int a1, .ref 117, .int (s.1 122 5)]) (s' := s) rfl ?_
      refine fu_bind (fu_cVJ rfl rfl rfl rfl rfl (fu_recv fr_117 am_at_X12_comesUp rfl) (e_X12_comesUp d (by omega) s a1)) (fun r4 => ?_)
      show fu_J _ _ (fr_X d (some .boolean) k_X12_isUp 19 [.ref 117, .int a1] [.int r4, .int (s.1 122 5)] s)
      refine fu_ite (fun h5 => fu_step (fu_ic_lt_t rfl h5) ?_) (fun h5 => fu_step (fu_ic_lt_f rfl h5) ?_)
      · refine fu_go 1 (pc' := 27) (ls' := [.ref 117, .int a1]) (st' := [.int (0 : Int32)]) (s' := s) rfl ?_
        exact fu_leaf rfl ⟨.inl rfl, .inl rfl, trivial⟩
      · refine fu_go 2 (pc' := 27) (ls' := [.ref 117, .int a1]) (st' := [.int (1 : Int32)]) (s' := s) rfl ?_
        exact fu_leaf rfl ⟨.inl rfl, .inl rfl, trivial⟩
  show fu_J _ _ (fr_X d (some .boolean) k_X12_isUp 27 [am_U, am_U] [.int (fu_b j2)] s)
  exact fu_bret (b := j2) rfl rfl
/-! X12_isFound -/
set_option maxRecDepth 100000 in
theorem e_X12_isFound (d : Nat) (hd : 2 ≤ d) (s : fu_S) (a1 : Int32) : fu_J (f_X12_isFound s a1) (fun r => some (some (.int (fu_b r)), s)) (am_D (fu_ho fr_sh) am_m d 315 [.ref 117, .int a1] s) := by
  obtain ⟨d, rfl⟩ : ∃ e, d = e + 1 := ⟨d - 1, by omega⟩
  refine fu_enter (ls := [.ref 117, .int a1]) am_at_X12_isFound rfl rfl ?_
  show fu_J _ _ (fr_X d (some .boolean) k_X12_isFound 0 [.ref 117, .int a1] [] s)
  unfold f_X12_isFound
  refine fu_go 2 (pc' := 2) (ls' := [.ref 117, .int a1]) (st' := [.int a1, .ref 117]) (s' := s) rfl ?_
  refine fu_bind (fu_cVJ rfl rfl rfl rfl rfl (fu_recv fr_117 am_at_X12_isScratched rfl) (e_X12_isScratched d (by omega) s a1)) (fun r1 => ?_)
  show fu_J _ _ (fr_X d (some .boolean) k_X12_isFound 5 [.ref 117, .int a1] [.int (fu_b r1)] s)
  refine fu_bind (V := fun j2 : Bool => fr_X d (some .boolean) k_X12_isFound 31 [am_U, am_U] [.int (fu_b j2)] s) ?_ (fun j2 => ?_)
  · refine fu_ite (fun h3 => fu_step (fu_ib_eq_t rfl h3) ?_) (fun h3 => fu_step (fu_ib_eq_f rfl h3) ?_)
    · refine fu_go 1 (pc' := 9) (ls' := [.ref 117, .int a1]) (st' := [.ref 117]) (s' := s) rfl ?_
      refine fu_step (fu_getR rfl fr_117 rfl rfl) ?_
      refine fu_go 1 (pc' := 13) (ls' := [.ref 117, .int a1]) (st' := [.int (5 : Int32), .ref 122]) (s' := s) rfl ?_
      refine fu_step (fu_ldIk (k := 5) rfl fr_122 (by decide) (by decide)) ?_
      refine fu_go 1 (pc' := 15) (ls' := [.ref 117, .int a1]) (st' := [.ref 117, .int (s.1 122 5)]) (s' := s) rfl ?_
      refine fu_step (fu_getR rfl fr_117 rfl rfl) ?_
      refine fu_go 3 (pc' := 22) (ls' := [.ref 117, .int a1]) (st' := [.int ((75 : Int32) + a1), .ref 122, .int (s.1 122 5)]) (s' := s) rfl ?_
      refine fu_guard (fun h4 => fu_step (fu_ldI rfl fr_122 h4) ?_)
      refine fu_ite (fun h5 => fu_step (fu_ic_lt_t rfl h5) ?_) (fun h5 => fu_step (fu_ic_lt_f rfl h5) ?_)
      · refine fu_go 1 (pc' := 31) (ls' := [.ref 117, .int a1]) (st' := [.int (0 : Int32)]) (s' := s) rfl ?_
        exact fu_leaf rfl ⟨.inl rfl, .inl rfl, trivial⟩
      · refine fu_go 2 (pc' := 31) (ls' := [.ref 117, .int a1]) (st' := [.int (1 : Int32)]) (s' := s) rfl ?_
        exact fu_leaf rfl ⟨.inl rfl, .inl rfl, trivial⟩
    · refine fu_go 1 (pc' := 31) (ls' := [.ref 117, .int a1]) (st' := [.int (0 : Int32)]) (s' := s) rfl ?_
      exact fu_leaf rfl ⟨.inl rfl, .inl rfl, trivial⟩
  show fu_J _ _ (fr_X d (some .boolean) k_X12_isFound 31 [am_U, am_U] [.int (fu_b j2)] s)
  exact fu_bret (b := j2) rfl rfl
/-! X12_couldScratch -/
set_option maxRecDepth 100000 in
theorem e_X12_couldScratch (d : Nat) (hd : 3 ≤ d) (s : fu_S) (a1 : Int32) (a2 : Int32) : fu_J (f_X12_couldScratch s a1 a2) (fun r => some (some (.int (fu_b r)), s)) (am_D (fu_ho fr_sh) am_m d 316 [.ref 117, .int a1, .int a2] s) := by
  obtain ⟨d, rfl⟩ : ∃ e, d = e + 1 := ⟨d - 1, by omega⟩
  refine fu_enter (ls := [.ref 117, .int a1, .int a2, am_U]) am_at_X12_couldScratch rfl rfl ?_
  show fu_J _ _ (fr_X d (some .boolean) k_X12_couldScratch 0 [.ref 117, .int a1, .int a2, am_U] [] s)
  unfold f_X12_couldScratch
  refine fu_go 2 (pc' := 2) (ls' := [.ref 117, .int a1, .int a2, am_U]) (st' := [.int a2, .ref 117]) (s' := s) rfl ?_
  refine fu_bind (fu_cVJ rfl rfl rfl rfl rfl (fu_recv fr_117 am_at_X12_bearerOf rfl) (e_X12_bearerOf d (by omega) s a2)) (fun r1 => ?_)
  show fu_J _ _ (fr_X d (some .boolean) k_X12_couldScratch 5 [.ref 117, .int a1, .int a2, am_U] [.int r1] s)
  refine fu_go 3 (pc' := 8) (ls' := [.ref 117, .int a1, .int a2, .int r1]) (st' := [.int r1, .int a1]) (s' := s) rfl ?_
  refine fu_bind (V := fun j2 : Bool => fr_X d (some .boolean) k_X12_couldScratch 51 [am_U, am_U, am_U, am_U] [.int (fu_b j2)] s) ?_ (fun j2 => ?_)
  · refine fu_ite (fun h3 => fu_step (fu_ic_ne_t rfl h3) ?_) (fun h3 => fu_step (fu_ic_ne_f rfl h3) ?_)
    · refine fu_go 1 (pc' := 12) (ls' := [.ref 117, .int a1, .int a2, .int r1]) (st' := [.ref 117]) (s' := s) rfl ?_
      refine fu_step (fu_getR rfl fr_117 rfl rfl) ?_
      refine fu_go 3 (pc' := 19) (ls' := [.ref 117, .int a1, .int a2, .int r1]) (st' := [.int ((28 : Int32) + a1), .ref 122]) (s' := s) rfl ?_
      refine fu_guard (fun h4 => fu_step (fu_ldI rfl fr_122 h4) ?_)
      refine fu_go 2 (pc' := 22) (ls' := [.ref 117, .int a1, .int a2, .int r1]) (st' := [.int a2, .ref 117, .int (s.1 122 (Int32.toNatClampNeg ((28 : Int32) + a1)))]) (s' := s) rfl ?_
      refine fu_bind (fu_cVJ rfl rfl rfl rfl rfl (fu_recv fr_117 am_at_X12_spotOf rfl) (e_X12_spotOf d (by omega) s a2)) (fun r5 => ?_)
      show fu_J _ _ (fr_X d (some .boolean) k_X12_couldScratch 25 [.ref 117, .int a1, .int a2, .int r1] [.int r5, .int (s.1 122 (Int32.toNatClampNeg ((28 : Int32) + a1)))] s)
      refine fu_step (fu_cS rfl rfl rfl rfl rfl rfl (fu_eq (e_X12_has d (by omega) s (s.1 122 (Int32.toNatClampNeg ((28 : Int32) + a1))) r5) rfl)) ?_
      show fu_J _ _ (fr_X d (some .boolean) k_X12_couldScratch 28 [.ref 117, .int a1, .int a2, .int r1] [.int (fu_b (f_X12_has (s.1 122 (Int32.toNatClampNeg ((28 : Int32) + a1))) r5))] s)
      refine fu_go 1 (pc' := 51) (ls' := [.ref 117, .int a1, .int a2, .int r1]) (st' := [.int (fu_b (f_X12_has (s.1 122 (Int32.toNatClampNeg ((28 : Int32) + a1))) r5))]) (s' := s) rfl ?_
      exact fu_leaf rfl ⟨.inl rfl, .inl rfl, .inl rfl, .inl rfl, trivial⟩
    · refine fu_go 3 (pc' := 34) (ls' := [.ref 117, .int a1, .int a2, .int r1]) (st' := [.int r1, .int a1, .ref 117]) (s' := s) rfl ?_
      refine fu_bind (fu_cVJ rfl rfl rfl rfl rfl (fu_recv fr_117 am_at_X12_farBy rfl) (e_X12_farBy d (by omega) s a1 r1)) (fun r6 => ?_)
      show fu_J _ _ (fr_X d (some .boolean) k_X12_couldScratch 37 [.ref 117, .int a1, .int a2, .int r1] [.int r6] s)
      refine fu_go 1 (pc' := 38) (ls' := [.ref 117, .int a1, .int a2, .int r1]) (st' := [.ref 117, .int r6]) (s' := s) rfl ?_
      refine fu_step (fu_getR rfl fr_117 rfl rfl) ?_
      refine fu_go 1 (pc' := 42) (ls' := [.ref 117, .int a1, .int a2, .int r1]) (st' := [.int (4 : Int32), .ref 122, .int r6]) (s' := s) rfl ?_
      refine fu_step (fu_ldIk (k := 4) rfl fr_122 (by decide) (by decide)) ?_
      refine fu_ite (fun h7 => fu_step (fu_ic_gt_t rfl h7) ?_) (fun h7 => fu_step (fu_ic_gt_f rfl h7) ?_)
      · refine fu_go 2 (pc' := 51) (ls' := [.ref 117, .int a1, .int a2, .int r1]) (st' := [.int (1 : Int32)]) (s' := s) rfl ?_
        exact fu_leaf rfl ⟨.inl rfl, .inl rfl, .inl rfl, .inl rfl, trivial⟩
      · refine fu_go 1 (pc' := 51) (ls' := [.ref 117, .int a1, .int a2, .int r1]) (st' := [.int (0 : Int32)]) (s' := s) rfl ?_
        exact fu_leaf rfl ⟨.inl rfl, .inl rfl, .inl rfl, .inl rfl, trivial⟩
  show fu_J _ _ (fr_X d (some .boolean) k_X12_couldScratch 51 [am_U, am_U, am_U, am_U] [.int (fu_b j2)] s)
  exact fu_bret (b := j2) rfl rfl
/-! X12_whoCould -/
theorem el_X12_whoCould_4 (d : Nat) (hd : 3 ≤ d) : ∀ (n : Nat) (s : fu_S) (x1 : Int32) (x2 : Int32) (x3 : Int32), fu_J (l_X12_whoCould_4 n s x1 x2 x3) (fun r => fr_X d (some .int) k_X12_whoCould 39 [am_U, am_U, .int r, am_U] [] s) (fr_X d (some .int) k_X12_whoCould 4 [.ref 117, .int x1, .int x2, .int x3] [] s) := by
  intro n
  induction n with
  | zero => intros; exact fu_none
  | succ n ih =>
    intro s x1 x2 x3
    rw [l_X12_whoCould_4]
    refine fu_go 2 (pc' := 6) (ls' := [.ref 117, .int x1, .int x2, .int x3]) (st' := [.ref 117, .int x3]) (s' := s) rfl ?_
    refine fu_step (fu_getR rfl fr_117 rfl rfl) ?_
    refine fu_go 1 (pc' := 10) (ls' := [.ref 117, .int x1, .int x2, .int x3]) (st' := [.int (1 : Int32), .ref 122, .int x3]) (s' := s) rfl ?_
    refine fu_step (fu_ldIk (k := 1) rfl fr_122 (by decide) (by decide)) ?_
    refine fu_ite (fun h1 => fu_step (fu_ic_ge_t rfl h1) ?_) (fun h1 => fu_step (fu_ic_ge_f rfl h1) ?_)
    · refine fu_go 4 (pc' := 18) (ls' := [.ref 117, .int x1, .int x2, .int x3]) (st' := [.int x1, .int x3, .ref 117, .int x2]) (s' := s) rfl ?_
      refine fu_bind (fu_cVJ rfl rfl rfl rfl rfl (fu_recv fr_117 am_at_X12_couldScratch rfl) (e_X12_couldScratch d (by omega) s x3 x1)) (fun r2 => ?_)
      show fu_J _ _ (fr_X d (some .int) k_X12_whoCould 21 [.ref 117, .int x1, .int x2, .int x3] [.int (fu_b r2), .int x2] s)
      refine fu_bind (V := fun j3 : Int32 => fr_X d (some .int) k_X12_whoCould 31 [.ref 117, .int x1, am_U, .int x3] [.int j3, .int x2] s) ?_ (fun j3 => ?_)
      · refine fu_ite (fun h4 => fu_step (fu_ib_eq_t rfl h4) ?_) (fun h4 => fu_step (fu_ib_eq_f rfl h4) ?_)
        · refine fu_go 4 (pc' := 31) (ls' := [.ref 117, .int x1, .int x2, .int x3]) (st' := [.int ((1 : Int32) <<< (x3 &&& 31)), .int x2]) (s' := s) rfl ?_
          exact fu_leaf rfl ⟨.inr rfl, .inr rfl, .inl rfl, .inr rfl, trivial⟩
        · refine fu_go 1 (pc' := 31) (ls' := [.ref 117, .int x1, .int x2, .int x3]) (st' := [.int (0 : Int32), .int x2]) (s' := s) rfl ?_
          exact fu_leaf rfl ⟨.inr rfl, .inr rfl, .inl rfl, .inr rfl, trivial⟩
      show fu_J _ _ (fr_X d (some .int) k_X12_whoCould 31 [.ref 117, .int x1, am_U, .int x3] [.int j3, .int x2] s)
      refine fu_go 4 (pc' := 4) (ls' := [.ref 117, .int x1, .int (x2 ||| j3), .int (x3 + (1 : Int32))]) (st' := []) (s' := s) rfl ?_
      exact fu_drop (ls' := [.ref 117, .int x1, .int (x2 ||| j3), .int (x3 + (1 : Int32))]) ⟨.inr rfl, .inr rfl, .inr rfl, .inr rfl, trivial⟩ (ih s x1 (x2 ||| j3) (x3 + (1 : Int32)))
    · exact fu_leaf rfl ⟨.inl rfl, .inl rfl, .inr rfl, .inl rfl, trivial⟩
set_option maxRecDepth 100000 in
theorem e_X12_whoCould (d : Nat) (hd : 4 ≤ d) (s : fu_S) (a1 : Int32) : fu_J (f_X12_whoCould s a1) (fun r => some (some (.int r), s)) (am_D (fu_ho fr_sh) am_m d 317 [.ref 117, .int a1] s) := by
  obtain ⟨d, rfl⟩ : ∃ e, d = e + 1 := ⟨d - 1, by omega⟩
  refine fu_enter (ls := [.ref 117, .int a1, am_U, am_U]) am_at_X12_whoCould rfl rfl ?_
  show fu_J _ _ (fr_X d (some .int) k_X12_whoCould 0 [.ref 117, .int a1, am_U, am_U] [] s)
  unfold f_X12_whoCould
  refine fu_go 4 (pc' := 4) (ls' := [.ref 117, .int a1, .int (0 : Int32), .int (0 : Int32)]) (st' := []) (s' := s) rfl ?_
  refine fu_drop (ls' := [.ref 117, .int a1, .int (0 : Int32), .int (0 : Int32)]) ⟨.inr rfl, .inr rfl, .inr rfl, .inr rfl, trivial⟩ ?_
  refine fu_bind (el_X12_whoCould_4 d (by omega) fu_N s a1 (0 : Int32) (0 : Int32)) (fun r5 => ?_)
  show fu_J _ _ (fr_X d (some .int) k_X12_whoCould 39 [am_U, am_U, .int r5, am_U] [] s)
  refine fu_go 1 (pc' := 40) (ls' := [am_U, am_U, .int r5, am_U]) (st' := [.int r5]) (s' := s) rfl ?_
  exact fu_iret rfl rfl
/-! X12_things -/
theorem el_X12_things_4 (d : Nat) (hd : 5 ≤ d) : ∀ (n : Nat) (s : fu_S) (x1 : Int32) (x2 : Int32) (x3 : Int32), fu_J (l_X12_things_4 n s x1 x2 x3) (fun r => fr_X d (some .int) k_X12_things 69 [am_U, am_U, .int r, am_U] [] s) (fr_X d (some .int) k_X12_things 4 [.ref 117, .int x1, .int x2, .int x3] [] s) := by
  intro n
  induction n with
  | zero => intros; exact fu_none
  | succ n ih =>
    intro s x1 x2 x3
    rw [l_X12_things_4]
    refine fu_go 2 (pc' := 6) (ls' := [.ref 117, .int x1, .int x2, .int x3]) (st' := [.ref 117, .int x3]) (s' := s) rfl ?_
    refine fu_step (fu_getR rfl fr_117 rfl rfl) ?_
    refine fu_go 1 (pc' := 10) (ls' := [.ref 117, .int x1, .int x2, .int x3]) (st' := [.int (2 : Int32), .ref 122, .int x3]) (s' := s) rfl ?_
    refine fu_step (fu_ldIk (k := 2) rfl fr_122 (by decide) (by decide)) ?_
    refine fu_ite (fun h1 => fu_step (fu_ic_ge_t rfl h1) ?_) (fun h1 => fu_step (fu_ic_ge_f rfl h1) ?_)
    · refine fu_go 2 (pc' := 16) (ls' := [.ref 117, .int x1, .int x2, .int x3]) (st' := [.int x1, .int x2]) (s' := s) rfl ?_
      refine fu_bind (V := fun j2 : Int32 => fr_X d (some .int) k_X12_things 61 [.ref 117, .int x1, am_U, .int x3] [.int j2, .int x2] s) ?_ (fun j2 => ?_)
      · refine fu_ite (fun h3 => fu_step (fu_if_ne_t rfl h3) ?_) (fun h3 => fu_step (fu_if_ne_f rfl h3) ?_)
        · refine fu_go 2 (pc' := 21) (ls' := [.ref 117, .int x1, .int x2, .int x3]) (st' := [.int x3, .ref 117, .int x2]) (s' := s) rfl ?_
          refine fu_bind (fu_cVJ rfl rfl rfl rfl rfl (fu_recv fr_117 am_at_X12_isUp rfl) (e_X12_isUp d (by omega) s x3)) (fun r4 => ?_)
          show fu_J _ _ (fr_X d (some .int) k_X12_things 24 [.ref 117, .int x1, .int x2, .int x3] [.int (fu_b r4), .int x2] s)
          refine fu_ite (fun h5 => fu_step (fu_ib_eq_t rfl h5) ?_) (fun h5 => fu_step (fu_ib_eq_f rfl h5) ?_)
          · refine fu_go 5 (pc' := 61) (ls' := [.ref 117, .int x1, .int x2, .int x3]) (st' := [.int ((1 : Int32) <<< (x3 &&& 31)), .int x2]) (s' := s) rfl ?_
            exact fu_leaf rfl ⟨.inr rfl, .inr rfl, .inl rfl, .inr rfl, trivial⟩
          · refine fu_go 1 (pc' := 61) (ls' := [.ref 117, .int x1, .int x2, .int x3]) (st' := [.int (0 : Int32), .int x2]) (s' := s) rfl ?_
            exact fu_leaf rfl ⟨.inr rfl, .inr rfl, .inl rfl, .inr rfl, trivial⟩
        · refine fu_go 2 (pc' := 32) (ls' := [.ref 117, .int x1, .int x2, .int x3]) (st' := [.int (1 : Int32), .int x1, .int x2]) (s' := s) rfl ?_
          refine fu_ite (fun h6 => fu_step (fu_ic_ne_t rfl h6) ?_) (fun h6 => fu_step (fu_ic_ne_f rfl h6) ?_)
          · refine fu_go 2 (pc' := 37) (ls' := [.ref 117, .int x1, .int x2, .int x3]) (st' := [.int x3, .ref 117, .int x2]) (s' := s) rfl ?_
            refine fu_bind (fu_cVJ rfl rfl rfl rfl rfl (fu_recv fr_117 am_at_X12_isScratched rfl) (e_X12_isScratched d (by omega) s x3)) (fun r7 => ?_)
            show fu_J _ _ (fr_X d (some .int) k_X12_things 40 [.ref 117, .int x1, .int x2, .int x3] [.int (fu_b r7), .int x2] s)
            refine fu_ite (fun h8 => fu_step (fu_ib_eq_t rfl h8) ?_) (fun h8 => fu_step (fu_ib_eq_f rfl h8) ?_)
            · refine fu_go 5 (pc' := 61) (ls' := [.ref 117, .int x1, .int x2, .int x3]) (st' := [.int ((1 : Int32) <<< (x3 &&& 31)), .int x2]) (s' := s) rfl ?_
              exact fu_leaf rfl ⟨.inr rfl, .inr rfl, .inl rfl, .inr rfl, trivial⟩
            · refine fu_go 1 (pc' := 61) (ls' := [.ref 117, .int x1, .int x2, .int x3]) (st' := [.int (0 : Int32), .int x2]) (s' := s) rfl ?_
              exact fu_leaf rfl ⟨.inr rfl, .inr rfl, .inl rfl, .inr rfl, trivial⟩
          · refine fu_go 2 (pc' := 48) (ls' := [.ref 117, .int x1, .int x2, .int x3]) (st' := [.int x3, .ref 117, .int x2]) (s' := s) rfl ?_
            refine fu_bind (fu_cVJ rfl rfl rfl rfl rfl (fu_recv fr_117 am_at_X12_isFound rfl) (e_X12_isFound d (by omega) s x3)) (fun r9 => ?_)
            show fu_J _ _ (fr_X d (some .int) k_X12_things 51 [.ref 117, .int x1, .int x2, .int x3] [.int (fu_b r9), .int x2] s)
            refine fu_ite (fun h10 => fu_step (fu_ib_eq_t rfl h10) ?_) (fun h10 => fu_step (fu_ib_eq_f rfl h10) ?_)
            · refine fu_go 4 (pc' := 61) (ls' := [.ref 117, .int x1, .int x2, .int x3]) (st' := [.int ((1 : Int32) <<< (x3 &&& 31)), .int x2]) (s' := s) rfl ?_
              exact fu_leaf rfl ⟨.inr rfl, .inr rfl, .inl rfl, .inr rfl, trivial⟩
            · refine fu_go 1 (pc' := 61) (ls' := [.ref 117, .int x1, .int x2, .int x3]) (st' := [.int (0 : Int32), .int x2]) (s' := s) rfl ?_
              exact fu_leaf rfl ⟨.inr rfl, .inr rfl, .inl rfl, .inr rfl, trivial⟩
      show fu_J _ _ (fr_X d (some .int) k_X12_things 61 [.ref 117, .int x1, am_U, .int x3] [.int j2, .int x2] s)
      refine fu_go 4 (pc' := 4) (ls' := [.ref 117, .int x1, .int (x2 ||| j2), .int (x3 + (1 : Int32))]) (st' := []) (s' := s) rfl ?_
      exact fu_drop (ls' := [.ref 117, .int x1, .int (x2 ||| j2), .int (x3 + (1 : Int32))]) ⟨.inr rfl, .inr rfl, .inr rfl, .inr rfl, trivial⟩ (ih s x1 (x2 ||| j2) (x3 + (1 : Int32)))
    · exact fu_leaf rfl ⟨.inl rfl, .inl rfl, .inr rfl, .inl rfl, trivial⟩
set_option maxRecDepth 100000 in
theorem e_X12_things (d : Nat) (hd : 6 ≤ d) (s : fu_S) (a1 : Int32) : fu_J (f_X12_things s a1) (fun r => some (some (.int r), s)) (am_D (fu_ho fr_sh) am_m d 318 [.ref 117, .int a1] s) := by
  obtain ⟨d, rfl⟩ : ∃ e, d = e + 1 := ⟨d - 1, by omega⟩
  refine fu_enter (ls := [.ref 117, .int a1, am_U, am_U]) am_at_X12_things rfl rfl ?_
  show fu_J _ _ (fr_X d (some .int) k_X12_things 0 [.ref 117, .int a1, am_U, am_U] [] s)
  unfold f_X12_things
  refine fu_go 4 (pc' := 4) (ls' := [.ref 117, .int a1, .int (0 : Int32), .int (0 : Int32)]) (st' := []) (s' := s) rfl ?_
  refine fu_drop (ls' := [.ref 117, .int a1, .int (0 : Int32), .int (0 : Int32)]) ⟨.inr rfl, .inr rfl, .inr rfl, .inr rfl, trivial⟩ ?_
  refine fu_bind (el_X12_things_4 d (by omega) fu_N s a1 (0 : Int32) (0 : Int32)) (fun r11 => ?_)
  show fu_J _ _ (fr_X d (some .int) k_X12_things 69 [am_U, am_U, .int r11, am_U] [] s)
  refine fu_go 1 (pc' := 70) (ls' := [am_U, am_U, .int r11, am_U]) (st' := [.int r11]) (s' := s) rfl ?_
  exact fu_iret rfl rfl
/-! X12_many -/
set_option maxRecDepth 100000 in
theorem e_X12_many (d : Nat) (hd : 7 ≤ d) (s : fu_S) (a1 : Int32) : fu_J (f_X12_many s a1) (fun r => some (some (.int r.1), r.2)) (am_D (fu_ho fr_sh) am_m d 319 [.ref 117, .int a1] s) := by
  obtain ⟨d, rfl⟩ : ∃ e, d = e + 1 := ⟨d - 1, by omega⟩
  refine fu_enter (ls := [.ref 117, .int a1]) am_at_X12_many rfl rfl ?_
  show fu_J _ _ (fr_X d (some .int) k_X12_many 0 [.ref 117, .int a1] [] s)
  unfold f_X12_many
  refine fu_go 2 (pc' := 2) (ls' := [.ref 117, .int a1]) (st' := [.int (0 : Int32), .ref 117]) (s' := s) rfl ?_
  refine fu_lets (b := (fu_pi s 117 1 (0 : Int32))) (fu_putI rfl fr_117 rfl rfl) (fun s1 => ?_)
  refine fu_go 2 (pc' := 7) (ls' := [.ref 117, .int a1]) (st' := [.int (0 : Int32), .ref 117]) (s' := s1) rfl ?_
  refine fu_lets (b := (fu_pi s1 117 0 (0 : Int32))) (fu_putI rfl fr_117 rfl rfl) (fun s2 => ?_)
  refine fu_go 4 (pc' := 16) (ls' := [.ref 117, .int a1]) (st' := [.long (8 : Int64), .long (0 : Int64), .long (Int32.toInt64 a1)]) (s' := s2) rfl ?_
  refine fu_step (fu_cS rfl rfl rfl rfl rfl rfl (fu_eq (e_X12_isIn d (by omega) s2 (Int32.toInt64 a1) (0 : Int64) (8 : Int64)) rfl)) ?_
  show fu_J _ _ (fr_X d (some .int) k_X12_many 19 [.ref 117, .int a1] [.int (fu_b (f_X12_isIn (Int32.toInt64 a1) (0 : Int64) (8 : Int64)))] s2)
  refine fu_ite (fun h3 => fu_step (fu_ib_ne_t rfl h3) ?_) (fun h3 => fu_step (fu_ib_ne_f rfl h3) ?_)
  · refine fu_go 2 (pc' := 31) (ls' := [.ref 117, .int a1]) (st' := [.int (6 : Int32), .int a1]) (s' := s2) rfl ?_
    refine fu_bind (V := fun j4 : Int32 => fr_X d (some .int) k_X12_many 51 [am_U, am_U] [.int j4] s2) ?_ (fun j4 => ?_)
    · refine fu_ite (fun h5 => fu_step (fu_ic_ge_t rfl h5) ?_) (fun h5 => fu_step (fu_ic_ge_f rfl h5) ?_)
      · refine fu_go 1 (pc' := 35) (ls' := [.ref 117, .int a1]) (st' := [.ref 117]) (s' := s2) rfl ?_
        refine fu_step (fu_getR rfl fr_117 rfl rfl) ?_
        refine fu_go 1 (pc' := 39) (ls' := [.ref 117, .int a1]) (st' := [.int a1, .ref 122]) (s' := s2) rfl ?_
        refine fu_guard (fun h6 => fu_step (fu_ldI rfl fr_122 h6) ?_)
        refine fu_go 1 (pc' := 51) (ls' := [.ref 117, .int a1]) (st' := [.int (s2.1 122 (Int32.toNatClampNeg a1))]) (s' := s2) rfl ?_
        exact fu_leaf rfl ⟨.inl rfl, .inl rfl, trivial⟩
      · refine fu_go 4 (pc' := 48) (ls' := [.ref 117, .int a1]) (st' := [.int (a1 - (6 : Int32)), .ref 117]) (s' := s2) rfl ?_
        refine fu_bind (fu_cVJ rfl rfl rfl rfl rfl (fu_recv fr_117 am_at_X12_things rfl) (e_X12_things d (by omega) s2 (a1 - (6 : Int32)))) (fun r7 => ?_)
        show fu_J _ _ (fr_X d (some .int) k_X12_many 51 [.ref 117, .int a1] [.int r7] s2)
        exact fu_leaf rfl ⟨.inl rfl, .inl rfl, trivial⟩
    show fu_J _ _ (fr_X d (some .int) k_X12_many 51 [am_U, am_U] [.int j4] s2)
    exact fu_iret rfl rfl
  · refine fu_go 2 (pc' := 24) (ls' := [.ref 117, .int a1]) (st' := [.int (5 : Int32), .ref 117]) (s' := s2) rfl ?_
    refine fu_let (fu_cVJ rfl rfl rfl rfl rfl (fu_recv fr_117 am_at_X12_refuse rfl) (e_X12_refuse d (by omega) s2 (5 : Int32))) (fun r8 => ?_)
    show fu_J _ _ (fr_X d (some .int) k_X12_many 27 [.ref 117, .int a1] [.int r8.1] r8.2)
    exact fu_iret rfl rfl
/-! X12_kind -/
set_option maxRecDepth 100000 in
theorem e_X12_kind (d : Nat) (hd : 3 ≤ d) (s : fu_S) (a1 : Int32) (a2 : Int32) : fu_J (f_X12_kind s a1 a2) (fun r => some (some (.int r.1), r.2)) (am_D (fu_ho fr_sh) am_m d 320 [.ref 117, .int a1, .int a2] s) := by
  obtain ⟨d, rfl⟩ : ∃ e, d = e + 1 := ⟨d - 1, by omega⟩
  refine fu_enter (ls := [.ref 117, .int a1, .int a2]) am_at_X12_kind rfl rfl ?_
  show fu_J _ _ (fr_X d (some .int) k_X12_kind 0 [.ref 117, .int a1, .int a2] [] s)
  unfold f_X12_kind
  refine fu_go 2 (pc' := 2) (ls' := [.ref 117, .int a1, .int a2]) (st' := [.int (0 : Int32), .ref 117]) (s' := s) rfl ?_
  refine fu_lets (b := (fu_pi s 117 1 (0 : Int32))) (fu_putI rfl fr_117 rfl rfl) (fun s1 => ?_)
  refine fu_go 2 (pc' := 7) (ls' := [.ref 117, .int a1, .int a2]) (st' := [.int (0 : Int32), .ref 117]) (s' := s1) rfl ?_
  refine fu_lets (b := (fu_pi s1 117 0 (0 : Int32))) (fu_putI rfl fr_117 rfl rfl) (fun s2 => ?_)
  refine fu_go 3 (pc' := 13) (ls' := [.ref 117, .int a1, .int a2]) (st' := [.long (Int32.toInt64 a1), .ref 117]) (s' := s2) rfl ?_
  refine fu_step (fu_cV rfl rfl rfl rfl rfl (fu_recv fr_117 am_at_X12_isKindAt rfl) (fu_eq (e_X12_isKindAt d (by omega) s2 (Int32.toInt64 a1)) rfl)) ?_
  show fu_J _ _ (fr_X d (some .int) k_X12_kind 16 [.ref 117, .int a1, .int a2] [.int (fu_b (f_X12_isKindAt s2 (Int32.toInt64 a1)))] s2)
  refine fu_ite (fun h3 => fu_step (fu_ib_ne_t rfl h3) ?_) (fun h3 => fu_step (fu_ib_ne_f rfl h3) ?_)
  · refine fu_go 4 (pc' := 31) (ls' := [.ref 117, .int a1, .int a2]) (st' := [.long (2 : Int64), .long (0 : Int64), .long (Int32.toInt64 a2)]) (s' := s2) rfl ?_
    refine fu_step (fu_cS rfl rfl rfl rfl rfl rfl (fu_eq (e_X12_isIn d (by omega) s2 (Int32.toInt64 a2) (0 : Int64) (2 : Int64)) rfl)) ?_
    show fu_J _ _ (fr_X d (some .int) k_X12_kind 34 [.ref 117, .int a1, .int a2] [.int (fu_b (f_X12_isIn (Int32.toInt64 a2) (0 : Int64) (2 : Int64)))] s2)
    refine fu_bind (V := fun j4 : Int32 × fu_S => fr_X d (some .int) k_X12_kind 58 [am_U, am_U, am_U] [.int j4.1] j4.2) ?_ (fun j4 => ?_)
    · refine fu_ite (fun h5 => fu_step (fu_ib_eq_t rfl h5) ?_) (fun h5 => fu_step (fu_ib_eq_f rfl h5) ?_)
      · refine fu_go 1 (pc' := 38) (ls' := [.ref 117, .int a1, .int a2]) (st' := [.ref 117]) (s' := s2) rfl ?_
        refine fu_step (fu_getR rfl fr_117 rfl rfl) ?_
        refine fu_go 7 (pc' := 49) (ls' := [.ref 117, .int a1, .int a2]) (st' := [.int (((6 : Int32) + ((5 : Int32) * a2)) + a1), .ref 122]) (s' := s2) rfl ?_
        refine fu_guard (fun h6 => fu_step (fu_ldI rfl fr_122 h6) ?_)
        refine fu_go 1 (pc' := 58) (ls' := [.ref 117, .int a1, .int a2]) (st' := [.int (s2.1 122 (Int32.toNatClampNeg (((6 : Int32) + ((5 : Int32) * a2)) + a1)))]) (s' := s2) rfl ?_
        exact fu_leaf rfl ⟨.inl rfl, .inl rfl, .inl rfl, trivial⟩
      · refine fu_go 2 (pc' := 55) (ls' := [.ref 117, .int a1, .int a2]) (st' := [.int (5 : Int32), .ref 117]) (s' := s2) rfl ?_
        refine fu_let (fu_cVJ rfl rfl rfl rfl rfl (fu_recv fr_117 am_at_X12_refuse rfl) (e_X12_refuse d (by omega) s2 (5 : Int32))) (fun r7 => ?_)
        show fu_J _ _ (fr_X d (some .int) k_X12_kind 58 [.ref 117, .int a1, .int a2] [.int r7.1] r7.2)
        exact fu_leaf rfl ⟨.inl rfl, .inl rfl, .inl rfl, trivial⟩
    show fu_J _ _ (fr_X d (some .int) k_X12_kind 58 [am_U, am_U, am_U] [.int j4.1] j4.2)
    exact fu_iret rfl rfl
  · refine fu_go 2 (pc' := 21) (ls' := [.ref 117, .int a1, .int a2]) (st' := [.int (2 : Int32), .ref 117]) (s' := s2) rfl ?_
    refine fu_let (fu_cVJ rfl rfl rfl rfl rfl (fu_recv fr_117 am_at_X12_refuse rfl) (e_X12_refuse d (by omega) s2 (2 : Int32))) (fun r8 => ?_)
    show fu_J _ _ (fr_X d (some .int) k_X12_kind 24 [.ref 117, .int a1, .int a2] [.int r8.1] r8.2)
    exact fu_iret rfl rfl
/-! X12_thingsOf -/
theorem el_X12_thingsOf_5 (d : Nat) (hd : 5 ≤ d) : ∀ (n : Nat) (s : fu_S) (x1 : Int32) (x2 : Bool) (x3 : Int32) (x4 : Int32), fu_J (l_X12_thingsOf_5 n s x1 x2 x3 x4) (fun r => fr_X d (some .int) k_X12_thingsOf 73 [am_U, am_U, am_U, .int r, am_U] [] s) (fr_X d (some .int) k_X12_thingsOf 5 [.ref 117, .int x1, .int (fu_b x2), .int x3, .int x4] [] s) := by
  intro n
  induction n with
  | zero => intros; exact fu_none
  | succ n ih =>
    intro s x1 x2 x3 x4
    rw [l_X12_thingsOf_5]
    refine fu_go 2 (pc' := 8) (ls' := [.ref 117, .int x1, .int (fu_b x2), .int x3, .int x4]) (st' := [.ref 117, .int x4]) (s' := s) rfl ?_
    refine fu_step (fu_getR rfl fr_117 rfl rfl) ?_
    refine fu_go 1 (pc' := 12) (ls' := [.ref 117, .int x1, .int (fu_b x2), .int x3, .int x4]) (st' := [.int (2 : Int32), .ref 122, .int x4]) (s' := s) rfl ?_
    refine fu_step (fu_ldIk (k := 2) rfl fr_122 (by decide) (by decide)) ?_
    refine fu_ite (fun h1 => fu_step (fu_ic_ge_t rfl h1) ?_) (fun h1 => fu_step (fu_ic_ge_f rfl h1) ?_)
    · refine fu_go 2 (pc' := 18) (ls' := [.ref 117, .int x1, .int (fu_b x2), .int x3, .int x4]) (st' := [.int (fu_b x2), .int x3]) (s' := s) rfl ?_
      refine fu_bind (V := fun j2 : Int32 => fr_X d (some .int) k_X12_thingsOf 65 [.ref 117, .int x1, .int (fu_b x2), am_U, .int x4] [.int j2, .int x3] s) ?_ (fun j2 => ?_)
      · refine fu_ite (fun h3 => fu_step (fu_ib_eq_t rfl h3) ?_) (fun h3 => fu_step (fu_ib_eq_f rfl h3) ?_)
        · refine fu_go 2 (pc' := 24) (ls' := [.ref 117, .int x1, .int (fu_b x2), .int x3, .int x4]) (st' := [.int x4, .ref 117, .int x3]) (s' := s) rfl ?_
          refine fu_bind (fu_cVJ rfl rfl rfl rfl rfl (fu_recv fr_117 am_at_X12_isUp rfl) (e_X12_isUp d (by omega) s x4)) (fun r4 => ?_)
          show fu_J _ _ (fr_X d (some .int) k_X12_thingsOf 27 [.ref 117, .int x1, .int (fu_b x2), .int x3, .int x4] [.int (fu_b r4), .int x3] s)
          refine fu_ite (fun h5 => fu_step (fu_ib_eq_t rfl h5) ?_) (fun h5 => fu_step (fu_ib_eq_f rfl h5) ?_)
          · refine fu_go 2 (pc' := 33) (ls' := [.ref 117, .int x1, .int (fu_b x2), .int x3, .int x4]) (st' := [.int x4, .ref 117, .int x3]) (s' := s) rfl ?_
            refine fu_bind (fu_cVJ rfl rfl rfl rfl rfl (fu_recv fr_117 am_at_X12_bearerOf rfl) (e_X12_bearerOf d (by omega) s x4)) (fun r6 => ?_)
            show fu_J _ _ (fr_X d (some .int) k_X12_thingsOf 36 [.ref 117, .int x1, .int (fu_b x2), .int x3, .int x4] [.int r6, .int x3] s)
            refine fu_go 1 (pc' := 37) (ls' := [.ref 117, .int x1, .int (fu_b x2), .int x3, .int x4]) (st' := [.int x1, .int r6, .int x3]) (s' := s) rfl ?_
            refine fu_ite (fun h7 => fu_step (fu_ic_ne_t rfl h7) ?_) (fun h7 => fu_step (fu_ic_ne_f rfl h7) ?_)
            · refine fu_go 5 (pc' := 65) (ls' := [.ref 117, .int x1, .int (fu_b x2), .int x3, .int x4]) (st' := [.int ((1 : Int32) <<< (x4 &&& 31)), .int x3]) (s' := s) rfl ?_
              exact fu_leaf rfl ⟨.inr rfl, .inr rfl, .inr rfl, .inl rfl, .inr rfl, trivial⟩
            · refine fu_go 1 (pc' := 65) (ls' := [.ref 117, .int x1, .int (fu_b x2), .int x3, .int x4]) (st' := [.int (0 : Int32), .int x3]) (s' := s) rfl ?_
              exact fu_leaf rfl ⟨.inr rfl, .inr rfl, .inr rfl, .inl rfl, .inr rfl, trivial⟩
          · refine fu_go 1 (pc' := 65) (ls' := [.ref 117, .int x1, .int (fu_b x2), .int x3, .int x4]) (st' := [.int (0 : Int32), .int x3]) (s' := s) rfl ?_
            exact fu_leaf rfl ⟨.inr rfl, .inr rfl, .inr rfl, .inl rfl, .inr rfl, trivial⟩
        · refine fu_go 1 (pc' := 44) (ls' := [.ref 117, .int x1, .int (fu_b x2), .int x3, .int x4]) (st' := [.ref 117, .int x3]) (s' := s) rfl ?_
          refine fu_step (fu_getR rfl fr_117 rfl rfl) ?_
          refine fu_go 3 (pc' := 52) (ls' := [.ref 117, .int x1, .int (fu_b x2), .int x3, .int x4]) (st' := [.int ((35 : Int32) + x4), .ref 122, .int x3]) (s' := s) rfl ?_
          refine fu_guard (fun h8 => fu_step (fu_ldI rfl fr_122 h8) ?_)
          refine fu_go 1 (pc' := 54) (ls' := [.ref 117, .int x1, .int (fu_b x2), .int x3, .int x4]) (st' := [.int x1, .int (s.1 122 (Int32.toNatClampNeg ((35 : Int32) + x4))), .int x3]) (s' := s) rfl ?_
          refine fu_ite (fun h9 => fu_step (fu_ic_ne_t rfl h9) ?_) (fun h9 => fu_step (fu_ic_ne_f rfl h9) ?_)
          · refine fu_go 4 (pc' := 65) (ls' := [.ref 117, .int x1, .int (fu_b x2), .int x3, .int x4]) (st' := [.int ((1 : Int32) <<< (x4 &&& 31)), .int x3]) (s' := s) rfl ?_
            exact fu_leaf rfl ⟨.inr rfl, .inr rfl, .inr rfl, .inl rfl, .inr rfl, trivial⟩
          · refine fu_go 1 (pc' := 65) (ls' := [.ref 117, .int x1, .int (fu_b x2), .int x3, .int x4]) (st' := [.int (0 : Int32), .int x3]) (s' := s) rfl ?_
            exact fu_leaf rfl ⟨.inr rfl, .inr rfl, .inr rfl, .inl rfl, .inr rfl, trivial⟩
      show fu_J _ _ (fr_X d (some .int) k_X12_thingsOf 65 [.ref 117, .int x1, .int (fu_b x2), am_U, .int x4] [.int j2, .int x3] s)
      refine fu_go 4 (pc' := 5) (ls' := [.ref 117, .int x1, .int (fu_b x2), .int (x3 ||| j2), .int (x4 + (1 : Int32))]) (st' := []) (s' := s) rfl ?_
      exact fu_drop (ls' := [.ref 117, .int x1, .int (fu_b x2), .int (x3 ||| j2), .int (x4 + (1 : Int32))]) ⟨.inr rfl, .inr rfl, .inr rfl, .inr rfl, .inr rfl, trivial⟩ (ih s x1 x2 (x3 ||| j2) (x4 + (1 : Int32)))
    · exact fu_leaf rfl ⟨.inl rfl, .inl rfl, .inl rfl, .inr rfl, .inl rfl, trivial⟩
set_option maxRecDepth 100000 in
theorem e_X12_thingsOf (d : Nat) (hd : 6 ≤ d) (s : fu_S) (a1 : Int32) (a2 : Bool) : fu_J (f_X12_thingsOf s a1 a2) (fun r => some (some (.int r), s)) (am_D (fu_ho fr_sh) am_m d 321 [.ref 117, .int a1, .int (fu_b a2)] s) := by
  obtain ⟨d, rfl⟩ : ∃ e, d = e + 1 := ⟨d - 1, by omega⟩
  refine fu_enter (ls := [.ref 117, .int a1, .int (fu_b a2), am_U, am_U]) am_at_X12_thingsOf rfl rfl ?_
  show fu_J _ _ (fr_X d (some .int) k_X12_thingsOf 0 [.ref 117, .int a1, .int (fu_b a2), am_U, am_U] [] s)
  unfold f_X12_thingsOf
  refine fu_go 4 (pc' := 5) (ls' := [.ref 117, .int a1, .int (fu_b a2), .int (0 : Int32), .int (0 : Int32)]) (st' := []) (s' := s) rfl ?_
  refine fu_drop (ls' := [.ref 117, .int a1, .int (fu_b a2), .int (0 : Int32), .int (0 : Int32)]) ⟨.inr rfl, .inr rfl, .inr rfl, .inr rfl, .inr rfl, trivial⟩ ?_
  refine fu_bind (el_X12_thingsOf_5 d (by omega) fu_N s a1 a2 (0 : Int32) (0 : Int32)) (fun r10 => ?_)
  show fu_J _ _ (fr_X d (some .int) k_X12_thingsOf 73 [am_U, am_U, am_U, .int r10, am_U] [] s)
  refine fu_go 1 (pc' := 74) (ls' := [am_U, am_U, am_U, .int r10, am_U]) (st' := [.int r10]) (s' := s) rfl ?_
  exact fu_iret rfl rfl
