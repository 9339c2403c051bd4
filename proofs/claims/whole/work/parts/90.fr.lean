/-! printed by wip/whole/lift/lift.py: the small machine comes to what the functions answer -/
/-! X12_doOne -/
theorem el_X12_doOne_116 (K : fu_S → Int32 → Int32 → Option fu_S) (D0 : Nat) (hK : ∀ d, D0 ≤ d → ∀ (s : fu_S) (a1 : Int32) (a2 : Int32), fu_J (K s a1 a2) (fun r => some (none, r)) (am_D (fu_ho fr_sh) am_m d 377 [.ref 117, .int a1, .int a2] s)) (d : Nat) (hd0 : D0 + 0 ≤ d) (hd : 0 ≤ d) : ∀ (n : Nat) (s : fu_S) (x1 : Int32) (x2 : Int32) (x4 : Int32), fu_J (l_X12_doOne_116 K n s x1 x2 x4) (fun r => fr_X d none k_X12_doOne 158 [am_U, am_U, am_U, am_U, am_U] [] r) (fr_X d none k_X12_doOne 116 [.ref 117, .int x1, .int x2, am_U, .int x4] [] s) := by
  intro n
  induction n with
  | zero => intros; exact fu_none
  | succ n ih =>
    intro s x1 x2 x4
    rw [l_X12_doOne_116]
    refine fu_go 2 (pc' := 119) (ls' := [.ref 117, .int x1, .int x2, am_U, .int x4]) (st' := [.ref 117, .int x4]) (s' := s) rfl ?_
    refine fu_step (fu_getR rfl fr_117 rfl rfl) ?_
    refine fu_go 3 (pc' := 125) (ls' := [.ref 117, .int x1, .int x2, am_U, .int x4]) (st' := [.int (x2 + (1 : Int32)), .ref 122, .int x4]) (s' := s) rfl ?_
    refine fu_guard (fun h18 => fu_step (fu_ldI rfl fr_122 h18) ?_)
    refine fu_ite (fun h19 => fu_step (fu_ic_ge_t rfl h19) ?_) (fun h19 => fu_step (fu_ic_ge_f rfl h19) ?_)
    · refine fu_go 1 (pc' := 130) (ls' := [.ref 117, .int x1, .int x2, am_U, .int x4]) (st' := [.ref 117]) (s' := s) rfl ?_
      refine fu_step (fu_getB rfl fr_117 rfl rfl) ?_
      refine fu_ite (fun h20 => fu_step (fu_ib_ne_t rfl h20) ?_) (fun h20 => fu_step (fu_ib_ne_f rfl h20) ?_)
      · exact fu_leaf rfl ⟨.inl rfl, .inl rfl, .inl rfl, .inl rfl, .inl rfl, trivial⟩
      · refine fu_go 5 (pc' := 141) (ls' := [.ref 117, .int x1, .int x2, am_U, .int x4]) (st' := [.ref 117, .int (x1 + (1 : Int32)), .ref 117]) (s' := s) rfl ?_
        refine fu_step (fu_getR rfl fr_117 rfl rfl) ?_
        refine fu_go 3 (pc' := 148) (ls' := [.ref 117, .int x1, .int x2, am_U, .int x4]) (st' := [.int (x2 + (8 : Int32)), .ref 122, .int (x1 + (1 : Int32)), .ref 117]) (s' := s) rfl ?_
        refine fu_guard (fun h21 => fu_step (fu_ldI rfl fr_122 h21) ?_)
        refine fu_bind (fu_cVJ rfl rfl rfl rfl rfl (fu_recv fr_117 am_at_X12_doAll rfl) (hK d (by omega) s (x1 + (1 : Int32)) (s.1 122 (Int32.toNatClampNeg (x2 + (8 : Int32)))))) (fun r22 => ?_)
        show fu_J _ _ (fr_X d none k_X12_doOne 152 [.ref 117, .int x1, .int x2, am_U, .int x4] [] r22)
        refine fu_go 2 (pc' := 116) (ls' := [.ref 117, .int x1, .int x2, am_U, .int (x4 + (1 : Int32))]) (st' := []) (s' := r22) rfl ?_
        exact fu_drop (ls' := [.ref 117, .int x1, .int x2, am_U, .int (x4 + (1 : Int32))]) ⟨.inr rfl, .inr rfl, .inr rfl, .inl rfl, .inr rfl, trivial⟩ (ih r22 x1 x2 (x4 + (1 : Int32)))
    · exact fu_leaf rfl ⟨.inl rfl, .inl rfl, .inl rfl, .inl rfl, .inl rfl, trivial⟩
set_option maxRecDepth 100000 in
theorem e_X12_doOne (K : fu_S → Int32 → Int32 → Option fu_S) (D0 : Nat) (hK : ∀ d, D0 ≤ d → ∀ (s : fu_S) (a1 : Int32) (a2 : Int32), fu_J (K s a1 a2) (fun r => some (none, r)) (am_D (fu_ho fr_sh) am_m d 377 [.ref 117, .int a1, .int a2] s)) (d : Nat) (hd0 : D0 + 1 ≤ d) (hd : 10 ≤ d) (s : fu_S) (a1 : Int32) : fu_J (f_X12_doOne K s a1) (fun r => some (none, r)) (am_D (fu_ho fr_sh) am_m d 376 [.ref 117, .int a1] s) := by
  obtain ⟨d, rfl⟩ : ∃ e, d = e + 1 := ⟨d - 1, by omega⟩
  refine fu_enter (ls := [.ref 117, .int a1, am_U, am_U, am_U]) am_at_X12_doOne rfl rfl ?_
  show fu_J _ _ (fr_X d none k_X12_doOne 0 [.ref 117, .int a1, am_U, am_U, am_U] [] s)
  unfold f_X12_doOne
  refine fu_go 1 (pc' := 1) (ls' := [.ref 117, .int a1, am_U, am_U, am_U]) (st' := [.ref 117]) (s' := s) rfl ?_
  refine fu_step (fu_getI rfl fr_117 rfl rfl) ?_
  refine fu_go 1 (pc' := 7) (ls' := [.ref 117, .int a1, am_U, am_U, am_U]) (st' := [.int (300 : Int32), .int (s.1 117 34)]) (s' := s) rfl ?_
  refine fu_ite (fun h1 => fu_step (fu_ic_ne_t rfl h1) ?_) (fun h1 => fu_step (fu_ic_ne_f rfl h1) ?_)
  · refine fu_go 2 (pc' := 12) (ls' := [.ref 117, .int a1, am_U, am_U, am_U]) (st' := [.int (1 : Int32), .ref 117]) (s' := s) rfl ?_
    refine fu_lets (b := (fu_pi s 117 32 (fu_b true))) (fu_putB rfl true fr_117 rfl rfl) (fun s2 => ?_)
    refine fu_go 2 (pc' := 17) (ls' := [.ref 117, .int a1, am_U, am_U, am_U]) (st' := [.int (1 : Int32), .ref 117]) (s' := s2) rfl ?_
    refine fu_lets (b := (fu_pi s2 117 39 (1 : Int32))) (fu_putI rfl fr_117 rfl rfl) (fun s3 => ?_)
    exact fu_vret rfl rfl
  · refine fu_go 2 (pc' := 23) (ls' := [.ref 117, .int a1, am_U, am_U, am_U]) (st' := [.ref 117, .ref 117]) (s' := s) rfl ?_
    refine fu_step (fu_getI rfl fr_117 rfl rfl) ?_
    refine fu_go 2 (pc' := 28) (ls' := [.ref 117, .int a1, am_U, am_U, am_U]) (st' := [.int ((s.1 117 34) + (1 : Int32)), .ref 117]) (s' := s) rfl ?_
    refine fu_lets (b := (fu_pi s 117 34 ((s.1 117 34) + (1 : Int32)))) (fu_putI rfl fr_117 rfl rfl) (fun s4 => ?_)
    refine fu_go 7 (pc' := 40) (ls' := [.ref 117, .int a1, .int ((85 : Int32) + ((9 : Int32) * a1)), am_U, am_U]) (st' := [.ref 117]) (s' := s4) rfl ?_
    refine fu_step (fu_getR rfl fr_117 rfl rfl) ?_
    refine fu_go 1 (pc' := 44) (ls' := [.ref 117, .int a1, .int ((85 : Int32) + ((9 : Int32) * a1)), am_U, am_U]) (st' := [.int ((85 : Int32) + ((9 : Int32) * a1)), .ref 122]) (s' := s4) rfl ?_
    refine fu_guard (fun h5 => fu_step (fu_ldI rfl fr_122 h5) ?_)
    refine fu_go 3 (pc' := 48) (ls' := [.ref 117, .int a1, .int ((85 : Int32) + ((9 : Int32) * a1)), .int (s4.1 122 (Int32.toNatClampNeg ((85 : Int32) + ((9 : Int32) * a1)))), am_U]) (st' := [.int (4 : Int32), .int (s4.1 122 (Int32.toNatClampNeg ((85 : Int32) + ((9 : Int32) * a1))))]) (s' := s4) rfl ?_
    refine fu_bind (V := fun j6 : fu_S => fr_X d none k_X12_doOne 171 [am_U, am_U, am_U, am_U, am_U] [] j6) ?_ (fun j6 => ?_)
    · refine fu_ite (fun h7 => fu_step (fu_ic_ge_t rfl h7) ?_) (fun h7 => fu_step (fu_ic_ge_f rfl h7) ?_)
      · refine fu_go 2 (pc' := 53) (ls' := [.ref 117, .int a1, .int ((85 : Int32) + ((9 : Int32) * a1)), .int (s4.1 122 (Int32.toNatClampNeg ((85 : Int32) + ((9 : Int32) * a1)))), am_U]) (st' := [.ref 117, .ref 117]) (s' := s4) rfl ?_
        refine fu_step (fu_getI rfl fr_117 rfl rfl) ?_
        refine fu_go 2 (pc' := 58) (ls' := [.ref 117, .int a1, .int ((85 : Int32) + ((9 : Int32) * a1)), .int (s4.1 122 (Int32.toNatClampNeg ((85 : Int32) + ((9 : Int32) * a1)))), am_U]) (st' := [.int ((85 : Int32) + ((9 : Int32) * a1)), .ref 117, .int (s4.1 117 35), .ref 117]) (s' := s4) rfl ?_
        refine fu_bind (fu_cVJ rfl rfl rfl rfl rfl (fu_recv fr_117 am_at_X12_does rfl) (e_X12_does d (by omega) s4 ((85 : Int32) + ((9 : Int32) * a1)))) (fun r8 => ?_)
        show fu_J _ _ (fr_X d none k_X12_doOne 61 [.ref 117, .int a1, .int ((85 : Int32) + ((9 : Int32) * a1)), .int (s4.1 122 (Int32.toNatClampNeg ((85 : Int32) + ((9 : Int32) * a1)))), am_U] [.int (fu_b r8.1), .int (s4.1 117 35), .ref 117] r8.2)
        refine fu_bind (V := fun j9 : Bool => fr_X d none k_X12_doOne 69 [am_U, am_U, am_U, am_U, am_U] [.int (fu_b j9), .int (s4.1 117 35), .ref 117] r8.2) ?_ (fun j9 => ?_)
        · refine fu_ite (fun h10 => fu_step (fu_ib_eq_t rfl h10) ?_) (fun h10 => fu_step (fu_ib_eq_f rfl h10) ?_)
          · refine fu_go 2 (pc' := 69) (ls' := [.ref 117, .int a1, .int ((85 : Int32) + ((9 : Int32) * a1)), .int (s4.1 122 (Int32.toNatClampNeg ((85 : Int32) + ((9 : Int32) * a1)))), am_U]) (st' := [.int (0 : Int32), .int (s4.1 117 35), .ref 117]) (s' := r8.2) rfl ?_
            exact fu_leaf rfl ⟨.inl rfl, .inl rfl, .inl rfl, .inl rfl, .inl rfl, trivial⟩
          · refine fu_go 1 (pc' := 69) (ls' := [.ref 117, .int a1, .int ((85 : Int32) + ((9 : Int32) * a1)), .int (s4.1 122 (Int32.toNatClampNeg ((85 : Int32) + ((9 : Int32) * a1)))), am_U]) (st' := [.int (1 : Int32), .int (s4.1 117 35), .ref 117]) (s' := r8.2) rfl ?_
            exact fu_leaf rfl ⟨.inl rfl, .inl rfl, .inl rfl, .inl rfl, .inl rfl, trivial⟩
        show fu_J _ _ (fr_X d none k_X12_doOne 69 [am_U, am_U, am_U, am_U, am_U] [.int (fu_b j9), .int (s4.1 117 35), .ref 117] r8.2)
        refine fu_go 1 (pc' := 70) (ls' := [am_U, am_U, am_U, am_U, am_U]) (st' := [.int ((s4.1 117 35) + (fu_b j9)), .ref 117]) (s' := r8.2) rfl ?_
        refine fu_lets (b := (fu_pi r8.2 117 35 ((s4.1 117 35) + (fu_b j9)))) (fu_putI rfl fr_117 rfl rfl) (fun s11 => ?_)
        refine fu_go 1 (pc' := 171) (ls' := [am_U, am_U, am_U, am_U, am_U]) (st' := []) (s' := s11) rfl ?_
        exact fu_leaf rfl ⟨.inl rfl, .inl rfl, .inl rfl, .inl rfl, .inl rfl, trivial⟩
      · refine fu_go 2 (pc' := 78) (ls' := [.ref 117, .int a1, .int ((85 : Int32) + ((9 : Int32) * a1)), .int (s4.1 122 (Int32.toNatClampNeg ((85 : Int32) + ((9 : Int32) * a1)))), am_U]) (st' := [.int (4 : Int32), .int (s4.1 122 (Int32.toNatClampNeg ((85 : Int32) + ((9 : Int32) * a1))))]) (s' := s4) rfl ?_
        refine fu_ite (fun h12 => fu_step (fu_ic_ne_t rfl h12) ?_) (fun h12 => fu_step (fu_ic_ne_f rfl h12) ?_)
        · refine fu_go 2 (pc' := 83) (ls' := [.ref 117, .int a1, .int ((85 : Int32) + ((9 : Int32) * a1)), .int (s4.1 122 (Int32.toNatClampNeg ((85 : Int32) + ((9 : Int32) * a1)))), am_U]) (st' := [.int ((85 : Int32) + ((9 : Int32) * a1)), .ref 117]) (s' := s4) rfl ?_
          refine fu_bind (fu_cVJ rfl rfl rfl rfl rfl (fu_recv fr_117 am_at_X12_holds rfl) (e_X12_holds d (by omega) s4 ((85 : Int32) + ((9 : Int32) * a1)))) (fun r13 => ?_)
          show fu_J _ _ (fr_X d none k_X12_doOne 86 [.ref 117, .int a1, .int ((85 : Int32) + ((9 : Int32) * a1)), .int (s4.1 122 (Int32.toNatClampNeg ((85 : Int32) + ((9 : Int32) * a1)))), am_U] [.int (fu_b r13)] s4)
          refine fu_ite (fun h14 => fu_step (fu_ib_eq_t rfl h14) ?_) (fun h14 => fu_step (fu_ib_eq_f rfl h14) ?_)
          · refine fu_go 5 (pc' := 94) (ls' := [.ref 117, .int a1, .int ((85 : Int32) + ((9 : Int32) * a1)), .int (s4.1 122 (Int32.toNatClampNeg ((85 : Int32) + ((9 : Int32) * a1)))), am_U]) (st' := [.ref 117, .int (a1 + (1 : Int32)), .ref 117]) (s' := s4) rfl ?_
            refine fu_step (fu_getR rfl fr_117 rfl rfl) ?_
            refine fu_go 3 (pc' := 101) (ls' := [.ref 117, .int a1, .int ((85 : Int32) + ((9 : Int32) * a1)), .int (s4.1 122 (Int32.toNatClampNeg ((85 : Int32) + ((9 : Int32) * a1)))), am_U]) (st' := [.int (((85 : Int32) + ((9 : Int32) * a1)) + (8 : Int32)), .ref 122, .int (a1 + (1 : Int32)), .ref 117]) (s' := s4) rfl ?_
            refine fu_guard (fun h15 => fu_step (fu_ldI rfl fr_122 h15) ?_)
            refine fu_bind (fu_cVJ rfl rfl rfl rfl rfl (fu_recv fr_117 am_at_X12_doAll rfl) (hK d (by omega) s4 (a1 + (1 : Int32)) (s4.1 122 (Int32.toNatClampNeg (((85 : Int32) + ((9 : Int32) * a1)) + (8 : Int32)))))) (fun r16 => ?_)
            show fu_J _ _ (fr_X d none k_X12_doOne 105 [.ref 117, .int a1, .int ((85 : Int32) + ((9 : Int32) * a1)), .int (s4.1 122 (Int32.toNatClampNeg ((85 : Int32) + ((9 : Int32) * a1)))), am_U] [] r16)
            refine fu_go 1 (pc' := 171) (ls' := [.ref 117, .int a1, .int ((85 : Int32) + ((9 : Int32) * a1)), .int (s4.1 122 (Int32.toNatClampNeg ((85 : Int32) + ((9 : Int32) * a1)))), am_U]) (st' := []) (s' := r16) rfl ?_
            exact fu_leaf rfl ⟨.inl rfl, .inl rfl, .inl rfl, .inl rfl, .inl rfl, trivial⟩
          · refine fu_go 2 (pc' := 110) (ls' := [.ref 117, .int a1, .int ((85 : Int32) + ((9 : Int32) * a1)), .int (s4.1 122 (Int32.toNatClampNeg ((85 : Int32) + ((9 : Int32) * a1)))), am_U]) (st' := [.int (5 : Int32), .int (s4.1 122 (Int32.toNatClampNeg ((85 : Int32) + ((9 : Int32) * a1))))]) (s' := s4) rfl ?_
            refine fu_ite (fun h17 => fu_step (fu_ic_ne_t rfl h17) ?_) (fun h17 => fu_step (fu_ic_ne_f rfl h17) ?_)
            · refine fu_go 2 (pc' := 116) (ls' := [.ref 117, .int a1, .int ((85 : Int32) + ((9 : Int32) * a1)), .int (s4.1 122 (Int32.toNatClampNeg ((85 : Int32) + ((9 : Int32) * a1)))), .int (0 : Int32)]) (st' := []) (s' := s4) rfl ?_
              refine fu_drop (ls' := [.ref 117, .int a1, .int ((85 : Int32) + ((9 : Int32) * a1)), am_U, .int (0 : Int32)]) ⟨.inr rfl, .inr rfl, .inr rfl, .inl rfl, .inr rfl, trivial⟩ ?_
              refine fu_bind (el_X12_doOne_116 K D0 hK d (by omega) (by omega) fu_N s4 a1 ((85 : Int32) + ((9 : Int32) * a1)) (0 : Int32)) (fun r23 => ?_)
              show fu_J _ _ (fr_X d none k_X12_doOne 158 [am_U, am_U, am_U, am_U, am_U] [] r23)
              refine fu_go 1 (pc' := 171) (ls' := [am_U, am_U, am_U, am_U, am_U]) (st' := []) (s' := r23) rfl ?_
              exact fu_leaf rfl ⟨.inl rfl, .inl rfl, .inl rfl, .inl rfl, .inl rfl, trivial⟩
            · refine fu_go 2 (pc' := 163) (ls' := [.ref 117, .int a1, .int ((85 : Int32) + ((9 : Int32) * a1)), .int (s4.1 122 (Int32.toNatClampNeg ((85 : Int32) + ((9 : Int32) * a1)))), am_U]) (st' := [.int (5 : Int32), .int (s4.1 122 (Int32.toNatClampNeg ((85 : Int32) + ((9 : Int32) * a1))))]) (s' := s4) rfl ?_
              refine fu_ite (fun h24 => fu_step (fu_ic_le_t rfl h24) ?_) (fun h24 => fu_step (fu_ic_le_f rfl h24) ?_)
              · exact fu_leaf rfl ⟨.inl rfl, .inl rfl, .inl rfl, .inl rfl, .inl rfl, trivial⟩
              · refine fu_go 2 (pc' := 168) (ls' := [.ref 117, .int a1, .int ((85 : Int32) + ((9 : Int32) * a1)), .int (s4.1 122 (Int32.toNatClampNeg ((85 : Int32) + ((9 : Int32) * a1)))), am_U]) (st' := [.int (1 : Int32), .ref 117]) (s' := s4) rfl ?_
                refine fu_lets (b := (fu_pi s4 117 32 (fu_b true))) (fu_putB rfl true fr_117 rfl rfl) (fun s25 => ?_)
                exact fu_leaf rfl ⟨.inl rfl, .inl rfl, .inl rfl, .inl rfl, .inl rfl, trivial⟩
        · refine fu_go 2 (pc' := 110) (ls' := [.ref 117, .int a1, .int ((85 : Int32) + ((9 : Int32) * a1)), .int (s4.1 122 (Int32.toNatClampNeg ((85 : Int32) + ((9 : Int32) * a1)))), am_U]) (st' := [.int (5 : Int32), .int (s4.1 122 (Int32.toNatClampNeg ((85 : Int32) + ((9 : Int32) * a1))))]) (s' := s4) rfl ?_
          refine fu_ite (fun h26 => fu_step (fu_ic_ne_t rfl h26) ?_) (fun h26 => fu_step (fu_ic_ne_f rfl h26) ?_)
          · refine fu_go 2 (pc' := 116) (ls' := [.ref 117, .int a1, .int ((85 : Int32) + ((9 : Int32) * a1)), .int (s4.1 122 (Int32.toNatClampNeg ((85 : Int32) + ((9 : Int32) * a1)))), .int (0 : Int32)]) (st' := []) (s' := s4) rfl ?_
            refine fu_drop (ls' := [.ref 117, .int a1, .int ((85 : Int32) + ((9 : Int32) * a1)), am_U, .int (0 : Int32)]) ⟨.inr rfl, .inr rfl, .inr rfl, .inl rfl, .inr rfl, trivial⟩ ?_
            refine fu_bind (el_X12_doOne_116 K D0 hK d (by omega) (by omega) fu_N s4 a1 ((85 : Int32) + ((9 : Int32) * a1)) (0 : Int32)) (fun r32 => ?_)
            show fu_J _ _ (fr_X d none k_X12_doOne 158 [am_U, am_U, am_U, am_U, am_U] [] r32)
            refine fu_go 1 (pc' := 171) (ls' := [am_U, am_U, am_U, am_U, am_U]) (st' := []) (s' := r32) rfl ?_
            exact fu_leaf rfl ⟨.inl rfl, .inl rfl, .inl rfl, .inl rfl, .inl rfl, trivial⟩
          · refine fu_go 2 (pc' := 163) (ls' := [.ref 117, .int a1, .int ((85 : Int32) + ((9 : Int32) * a1)), .int (s4.1 122 (Int32.toNatClampNeg ((85 : Int32) + ((9 : Int32) * a1)))), am_U]) (st' := [.int (5 : Int32), .int (s4.1 122 (Int32.toNatClampNeg ((85 : Int32) + ((9 : Int32) * a1))))]) (s' := s4) rfl ?_
            refine fu_ite (fun h33 => fu_step (fu_ic_le_t rfl h33) ?_) (fun h33 => fu_step (fu_ic_le_f rfl h33) ?_)
            · exact fu_leaf rfl ⟨.inl rfl, .inl rfl, .inl rfl, .inl rfl, .inl rfl, trivial⟩
            · refine fu_go 2 (pc' := 168) (ls' := [.ref 117, .int a1, .int ((85 : Int32) + ((9 : Int32) * a1)), .int (s4.1 122 (Int32.toNatClampNeg ((85 : Int32) + ((9 : Int32) * a1)))), am_U]) (st' := [.int (1 : Int32), .ref 117]) (s' := s4) rfl ?_
              refine fu_lets (b := (fu_pi s4 117 32 (fu_b true))) (fu_putB rfl true fr_117 rfl rfl) (fun s34 => ?_)
              exact fu_leaf rfl ⟨.inl rfl, .inl rfl, .inl rfl, .inl rfl, .inl rfl, trivial⟩
    show fu_J _ _ (fr_X d none k_X12_doOne 171 [am_U, am_U, am_U, am_U, am_U] [] j6)
    exact fu_vret rfl rfl
/-! X12_doAll -/
theorem el_X12_doAll_2 (K : fu_S → Int32 → Int32 → Option fu_S) (D0 : Nat) (hK : ∀ d, D0 ≤ d → ∀ (s : fu_S) (a1 : Int32) (a2 : Int32), fu_J (K s a1 a2) (fun r => some (none, r)) (am_D (fu_ho fr_sh) am_m d 377 [.ref 117, .int a1, .int a2] s)) (d : Nat) (hd0 : D0 + 1 ≤ d) (hd : 10 ≤ d) : ∀ (n : Nat) (s : fu_S) (x2 : Int32) (x3 : Int32), fu_J (l_X12_doAll_2 K n s x2 x3) (fun r => fr_X d none k_X12_doAll 38 [am_U, am_U, am_U, am_U] [] r) (fr_X d none k_X12_doAll 2 [.ref 117, am_U, .int x2, .int x3] [] s) := by
  intro n
  induction n with
  | zero => intros; exact fu_none
  | succ n ih =>
    intro s x2 x3
    rw [l_X12_doAll_2]
    refine fu_go 2 (pc' := 4) (ls' := [.ref 117, am_U, .int x2, .int x3]) (st' := [.int x2, .int x3]) (s' := s) rfl ?_
    refine fu_ite (fun h1 => fu_step (fu_ic_ge_t rfl h1) ?_) (fun h1 => fu_step (fu_ic_ge_f rfl h1) ?_)
    · refine fu_go 1 (pc' := 8) (ls' := [.ref 117, am_U, .int x2, .int x3]) (st' := [.ref 117]) (s' := s) rfl ?_
      refine fu_step (fu_getB rfl fr_117 rfl rfl) ?_
      refine fu_ite (fun h2 => fu_step (fu_ib_ne_t rfl h2) ?_) (fun h2 => fu_step (fu_ib_ne_f rfl h2) ?_)
      · exact fu_leaf rfl ⟨.inl rfl, .inl rfl, .inl rfl, .inl rfl, trivial⟩
      · refine fu_go 2 (pc' := 16) (ls' := [.ref 117, am_U, .int x2, .int x3]) (st' := [.int x3, .ref 117]) (s' := s) rfl ?_
        refine fu_bind (fu_cVJ rfl rfl rfl rfl rfl (fu_recv fr_117 am_at_X12_doOne rfl) (e_X12_doOne K D0 hK d (by omega) (by omega) s x3)) (fun r3 => ?_)
        show fu_J _ _ (fr_X d none k_X12_doAll 19 [.ref 117, am_U, .int x2, .int x3] [] r3)
        refine fu_go 1 (pc' := 20) (ls' := [.ref 117, am_U, .int x2, .int x3]) (st' := [.ref 117]) (s' := r3) rfl ?_
        refine fu_step (fu_getR rfl fr_117 rfl rfl) ?_
        refine fu_go 7 (pc' := 33) (ls' := [.ref 117, am_U, .int x2, .int x3]) (st' := [.int (((85 : Int32) + ((9 : Int32) * x3)) + (8 : Int32)), .ref 122]) (s' := r3) rfl ?_
        refine fu_guard (fun h4 => fu_step (fu_ldI rfl fr_122 h4) ?_)
        refine fu_go 2 (pc' := 2) (ls' := [.ref 117, am_U, .int x2, .int (r3.1 122 (Int32.toNatClampNeg (((85 : Int32) + ((9 : Int32) * x3)) + (8 : Int32))))]) (st' := []) (s' := r3) rfl ?_
        exact fu_drop (ls' := [.ref 117, am_U, .int x2, .int (r3.1 122 (Int32.toNatClampNeg (((85 : Int32) + ((9 : Int32) * x3)) + (8 : Int32))))]) ⟨.inr rfl, .inl rfl, .inr rfl, .inr rfl, trivial⟩ (ih r3 x2 (r3.1 122 (Int32.toNatClampNeg (((85 : Int32) + ((9 : Int32) * x3)) + (8 : Int32)))))
    · exact fu_leaf rfl ⟨.inl rfl, .inl rfl, .inl rfl, .inl rfl, trivial⟩
set_option maxRecDepth 100000 in
theorem eb_X12_doAll (K : fu_S → Int32 → Int32 → Option fu_S) (D0 : Nat) (hK : ∀ d, D0 ≤ d → ∀ (s : fu_S) (a1 : Int32) (a2 : Int32), fu_J (K s a1 a2) (fun r => some (none, r)) (am_D (fu_ho fr_sh) am_m d 377 [.ref 117, .int a1, .int a2] s)) (d : Nat) (hd0 : D0 + 2 ≤ d) (hd : 11 ≤ d) (s : fu_S) (a1 : Int32) (a2 : Int32) : fu_J (fb_X12_doAll K s a1 a2) (fun r => some (none, r)) (am_D (fu_ho fr_sh) am_m d 377 [.ref 117, .int a1, .int a2] s) := by
  obtain ⟨d, rfl⟩ : ∃ e, d = e + 1 := ⟨d - 1, by omega⟩
  refine fu_enter (ls := [.ref 117, .int a1, .int a2, am_U]) am_at_X12_doAll rfl rfl ?_
  show fu_J _ _ (fr_X d none k_X12_doAll 0 [.ref 117, .int a1, .int a2, am_U] [] s)
  unfold fb_X12_doAll
  refine fu_go 2 (pc' := 2) (ls' := [.ref 117, .int a1, .int a2, .int a1]) (st' := []) (s' := s) rfl ?_
  refine fu_drop (ls' := [.ref 117, am_U, .int a2, .int a1]) ⟨.inr rfl, .inl rfl, .inr rfl, .inr rfl, trivial⟩ ?_
  refine fu_bind (el_X12_doAll_2 K D0 hK d (by omega) (by omega) fu_N s a2 a1) (fun r5 => ?_)
  show fu_J _ _ (fr_X d none k_X12_doAll 38 [am_U, am_U, am_U, am_U] [] r5)
  exact fu_vret rfl rfl
theorem e_X12_doAll : ∀ (n d : Nat) (_ : 11 + 2 * n ≤ d) (s : fu_S) (a1 : Int32) (a2 : Int32), fu_J (f_X12_doAll n s a1 a2) (fun r => some (none, r)) (am_D (fu_ho fr_sh) am_m d 377 [.ref 117, .int a1, .int a2] s)
  | 0 => fun d _ _ _ _ => fu_none
  | n + 1 => fun d hd s a1 a2 => eb_X12_doAll (f_X12_doAll n) (11 + 2 * n) (fun d hd => e_X12_doAll n d hd) d (by omega) (by omega) s a1 a2
/-! X12_runsDays -/
set_option maxRecDepth 100000 in
theorem e_X12_runsDays (d : Nat) (hd : 44 ≤ d) (s : fu_S) (a1 : Int32) : fu_J (f_X12_runsDays s a1) (fun r => some (none, r)) (am_D (fu_ho fr_sh) am_m d 378 [.ref 117, .int a1] s) := by
  obtain ⟨d, rfl⟩ : ∃ e, d = e + 1 := ⟨d - 1, by omega⟩
  refine fu_enter (ls := [.ref 117, .int a1]) am_at_X12_runsDays rfl rfl ?_
  show fu_J _ _ (fr_X d none k_X12_runsDays 0 [.ref 117, .int a1] [] s)
  unfold f_X12_runsDays
  refine fu_go 2 (pc' := 2) (ls' := [.ref 117, .int a1]) (st' := [.int a1, .ref 117]) (s' := s) rfl ?_
  refine fu_lets (b := (fu_pi s 117 33 a1)) (fu_putI rfl fr_117 rfl rfl) (fun s1 => ?_)
  refine fu_go 2 (pc' := 7) (ls' := [.ref 117, .int a1]) (st' := [.int (0 : Int32), .ref 117]) (s' := s1) rfl ?_
  refine fu_lets (b := (fu_pi s1 117 34 (0 : Int32))) (fu_putI rfl fr_117 rfl rfl) (fun s2 => ?_)
  refine fu_go 2 (pc' := 12) (ls' := [.ref 117, .int a1]) (st' := [.int (0 : Int32), .ref 117]) (s' := s2) rfl ?_
  refine fu_lets (b := (fu_pi s2 117 35 (0 : Int32))) (fu_putI rfl fr_117 rfl rfl) (fun s3 => ?_)
  refine fu_go 2 (pc' := 17) (ls' := [.ref 117, .int a1]) (st' := [.ref 117, .ref 117]) (s' := s3) rfl ?_
  refine fu_step (fu_getR rfl fr_117 rfl rfl) ?_
  refine fu_go 1 (pc' := 21) (ls' := [.ref 117, .int a1]) (st' := [.int (5 : Int32), .ref 122, .ref 117]) (s' := s3) rfl ?_
  refine fu_step (fu_ldIk (k := 5) rfl fr_122 (by decide) (by decide)) ?_
  refine fu_lets (b := (fu_pi s3 117 36 (s3.1 122 5))) (fu_putI rfl fr_117 rfl rfl) (fun s4 => ?_)
  refine fu_go 2 (pc' := 27) (ls' := [.ref 117, .int a1]) (st' := [.int (0 : Int32), .ref 117]) (s' := s4) rfl ?_
  refine fu_lets (b := (fu_pi s4 117 37 (0 : Int32))) (fu_putI rfl fr_117 rfl rfl) (fun s5 => ?_)
  refine fu_go 2 (pc' := 32) (ls' := [.ref 117, .int a1]) (st' := [.int (0 : Int32), .ref 117]) (s' := s5) rfl ?_
  refine fu_lets (b := (fu_pi s5 117 38 (0 : Int32))) (fu_putI rfl fr_117 rfl rfl) (fun s6 => ?_)
  refine fu_go 2 (pc' := 37) (ls' := [.ref 117, .int a1]) (st' := [.int (0 : Int32), .ref 117]) (s' := s6) rfl ?_
  refine fu_lets (b := (fu_pi s6 117 39 (0 : Int32))) (fu_putI rfl fr_117 rfl rfl) (fun s7 => ?_)
  refine fu_go 2 (pc' := 42) (ls' := [.ref 117, .int a1]) (st' := [.int (0 : Int32), .ref 117]) (s' := s7) rfl ?_
  refine fu_lets (b := (fu_pi s7 117 32 (fu_b false))) (fu_putB rfl false fr_117 rfl rfl) (fun s8 => ?_)
  refine fu_go 3 (pc' := 48) (ls' := [.ref 117, .int a1]) (st' := [.ref 117, .int (0 : Int32), .ref 117]) (s' := s8) rfl ?_
  refine fu_step (fu_getR rfl fr_117 rfl rfl) ?_
  refine fu_go 1 (pc' := 53) (ls' := [.ref 117, .int a1]) (st' := [.int (84 : Int32), .ref 122, .int (0 : Int32), .ref 117]) (s' := s8) rfl ?_
  refine fu_step (fu_ldIk (k := 84) rfl fr_122 (by decide) (by decide)) ?_
  refine fu_bind (fu_cVJ rfl rfl rfl rfl rfl (fu_recv fr_117 am_at_X12_doAll rfl) (e_X12_doAll 16 d (by omega) s8 (0 : Int32) (s8.1 122 84))) (fun r9 => ?_)
  show fu_J _ _ (fr_X d none k_X12_runsDays 57 [.ref 117, .int a1] [] r9)
  exact fu_vret rfl rfl
/-! X12_live -/
set_option maxRecDepth 100000 in
theorem e_X12_live (d : Nat) (hd : 45 ≤ d) (s : fu_S) (a1 : Int32) : fu_J (f_X12_live s a1) (fun r => some (some (.int r.1), r.2)) (am_D (fu_ho fr_sh) am_m d 379 [.ref 117, .int a1] s) := by
  obtain ⟨d, rfl⟩ : ∃ e, d = e + 1 := ⟨d - 1, by omega⟩
  refine fu_enter (ls := [.ref 117, .int a1]) am_at_X12_live rfl rfl ?_
  show fu_J _ _ (fr_X d (some .int) k_X12_live 0 [.ref 117, .int a1] [] s)
  unfold f_X12_live
  refine fu_go 2 (pc' := 2) (ls' := [.ref 117, .int a1]) (st' := [.int (0 : Int32), .ref 117]) (s' := s) rfl ?_
  refine fu_lets (b := (fu_pi s 117 1 (0 : Int32))) (fu_putI rfl fr_117 rfl rfl) (fun s1 => ?_)
  refine fu_go 2 (pc' := 7) (ls' := [.ref 117, .int a1]) (st' := [.int (0 : Int32), .ref 117]) (s' := s1) rfl ?_
  refine fu_lets (b := (fu_pi s1 117 0 (0 : Int32))) (fu_putI rfl fr_117 rfl rfl) (fun s2 => ?_)
  refine fu_go 4 (pc' := 16) (ls' := [.ref 117, .int a1]) (st' := [.long (9999 : Int64), .long (0 : Int64), .long (Int32.toInt64 a1)]) (s' := s2) rfl ?_
  refine fu_step (fu_cS rfl rfl rfl rfl rfl rfl (fu_eq (e_X12_isIn d (by omega) s2 (Int32.toInt64 a1) (0 : Int64) (9999 : Int64)) rfl)) ?_
  show fu_J _ _ (fr_X d (some .int) k_X12_live 19 [.ref 117, .int a1] [.int (fu_b (f_X12_isIn (Int32.toInt64 a1) (0 : Int64) (9999 : Int64)))] s2)
  refine fu_ite (fun h3 => fu_step (fu_ib_ne_t rfl h3) ?_) (fun h3 => fu_step (fu_ib_ne_f rfl h3) ?_)
  · refine fu_go 1 (pc' := 29) (ls' := [.ref 117, .int a1]) (st' := [.ref 117]) (s' := s2) rfl ?_
    refine fu_step (fu_getR rfl fr_117 rfl rfl) ?_
    refine fu_go 1 (pc' := 34) (ls' := [.ref 117, .int a1]) (st' := [.int (83 : Int32), .ref 122]) (s' := s2) rfl ?_
    refine fu_step (fu_ldIk (k := 83) rfl fr_122 (by decide) (by decide)) ?_
    refine fu_ite (fun h4 => fu_step (fu_if_ne_t rfl h4) ?_) (fun h4 => fu_step (fu_if_ne_f rfl h4) ?_)
    · refine fu_go 2 (pc' := 41) (ls' := [.ref 117, .int a1]) (st' := [.int (8 : Int32), .ref 117]) (s' := s2) rfl ?_
      refine fu_let (fu_cVJ rfl rfl rfl rfl rfl (fu_recv fr_117 am_at_X12_refuse rfl) (e_X12_refuse d (by omega) s2 (8 : Int32))) (fun r5 => ?_)
      show fu_J _ _ (fr_X d (some .int) k_X12_live 44 [.ref 117, .int a1] [.int r5.1] r5.2)
      exact fu_iret rfl rfl
    · refine fu_go 2 (pc' := 47) (ls' := [.ref 117, .int a1]) (st' := [.int a1, .ref 117]) (s' := s2) rfl ?_
      refine fu_bind (fu_cVJ rfl rfl rfl rfl rfl (fu_recv fr_117 am_at_X12_runsDays rfl) (e_X12_runsDays d (by omega) s2 a1)) (fun r6 => ?_)
      show fu_J _ _ (fr_X d (some .int) k_X12_live 50 [.ref 117, .int a1] [] r6)
      refine fu_go 1 (pc' := 51) (ls' := [.ref 117, .int a1]) (st' := [.ref 117]) (s' := r6) rfl ?_
      refine fu_step (fu_getR rfl fr_117 rfl rfl) ?_
      refine fu_go 2 (pc' := 56) (ls' := [.ref 117, .int a1]) (st' := [.ref 117, .int (0 : Int32), .ref 127]) (s' := r6) rfl ?_
      refine fu_step (fu_getI rfl fr_117 rfl rfl) ?_
      refine fu_lets (b := (fu_pi r6 127 0 (r6.1 117 35))) (fu_stIk rfl fr_127 (by decide) (by decide)) (fun s7 => ?_)
      refine fu_go 1 (pc' := 61) (ls' := [.ref 117, .int a1]) (st' := [.ref 117]) (s' := s7) rfl ?_
      refine fu_step (fu_getR rfl fr_117 rfl rfl) ?_
      refine fu_go 2 (pc' := 66) (ls' := [.ref 117, .int a1]) (st' := [.ref 117, .int (1 : Int32), .ref 127]) (s' := s7) rfl ?_
      refine fu_step (fu_getR rfl fr_117 rfl rfl) ?_
      refine fu_go 1 (pc' := 70) (ls' := [.ref 117, .int a1]) (st' := [.int (5 : Int32), .ref 122, .int (1 : Int32), .ref 127]) (s' := s7) rfl ?_
      refine fu_step (fu_ldIk (k := 5) rfl fr_122 (by decide) (by decide)) ?_
      refine fu_go 1 (pc' := 72) (ls' := [.ref 117, .int a1]) (st' := [.ref 117, .int (s7.1 122 5), .int (1 : Int32), .ref 127]) (s' := s7) rfl ?_
      refine fu_step (fu_getI rfl fr_117 rfl rfl) ?_
      refine fu_go 1 (pc' := 76) (ls' := [.ref 117, .int a1]) (st' := [.int ((s7.1 122 5) - (s7.1 117 36)), .int (1 : Int32), .ref 127]) (s' := s7) rfl ?_
      refine fu_lets (b := (fu_pi s7 127 1 ((s7.1 122 5) - (s7.1 117 36)))) (fu_stIk rfl fr_127 (by decide) (by decide)) (fun s8 => ?_)
      refine fu_go 1 (pc' := 78) (ls' := [.ref 117, .int a1]) (st' := [.ref 117]) (s' := s8) rfl ?_
      refine fu_step (fu_getR rfl fr_117 rfl rfl) ?_
      refine fu_go 2 (pc' := 83) (ls' := [.ref 117, .int a1]) (st' := [.ref 117, .int (2 : Int32), .ref 127]) (s' := s8) rfl ?_
      refine fu_step (fu_getI rfl fr_117 rfl rfl) ?_
      refine fu_lets (b := (fu_pi s8 127 2 (s8.1 117 37))) (fu_stIk rfl fr_127 (by decide) (by decide)) (fun s9 => ?_)
      refine fu_go 1 (pc' := 88) (ls' := [.ref 117, .int a1]) (st' := [.ref 117]) (s' := s9) rfl ?_
      refine fu_step (fu_getR rfl fr_117 rfl rfl) ?_
      refine fu_go 2 (pc' := 93) (ls' := [.ref 117, .int a1]) (st' := [.ref 117, .int (3 : Int32), .ref 127]) (s' := s9) rfl ?_
      refine fu_step (fu_getI rfl fr_117 rfl rfl) ?_
      refine fu_lets (b := (fu_pi s9 127 3 (s9.1 117 38))) (fu_stIk rfl fr_127 (by decide) (by decide)) (fun s10 => ?_)
      refine fu_go 1 (pc' := 98) (ls' := [.ref 117, .int a1]) (st' := [.ref 117]) (s' := s10) rfl ?_
      refine fu_step (fu_getR rfl fr_117 rfl rfl) ?_
      refine fu_go 2 (pc' := 103) (ls' := [.ref 117, .int a1]) (st' := [.ref 117, .int (4 : Int32), .ref 127]) (s' := s10) rfl ?_
      refine fu_step (fu_getI rfl fr_117 rfl rfl) ?_
      refine fu_lets (b := (fu_pi s10 127 4 (s10.1 117 39))) (fu_stIk rfl fr_127 (by decide) (by decide)) (fun s11 => ?_)
      refine fu_go 2 (pc' := 109) (ls' := [.ref 117, .int a1]) (st' := [.int (1 : Int32), .ref 117]) (s' := s11) rfl ?_
      refine fu_lets (b := (fu_pi s11 117 31 (fu_b true))) (fu_putB rfl true fr_117 rfl rfl) (fun s12 => ?_)
      refine fu_go 1 (pc' := 113) (ls' := [.ref 117, .int a1]) (st' := [.ref 117]) (s' := s12) rfl ?_
      refine fu_step (fu_getI rfl fr_117 rfl rfl) ?_
      exact fu_iret rfl rfl
  · refine fu_go 2 (pc' := 24) (ls' := [.ref 117, .int a1]) (st' := [.int (5 : Int32), .ref 117]) (s' := s2) rfl ?_
    refine fu_let (fu_cVJ rfl rfl rfl rfl rfl (fu_recv fr_117 am_at_X12_refuse rfl) (e_X12_refuse d (by omega) s2 (5 : Int32))) (fun r13 => ?_)
    show fu_J _ _ (fr_X d (some .int) k_X12_live 27 [.ref 117, .int a1] [.int r13.1] r13.2)
    exact fu_iret rfl rfl
/-! X12_lived -/
set_option maxRecDepth 100000 in
theorem e_X12_lived (d : Nat) (hd : 2 ≤ d) (s : fu_S) (a1 : Int32) : fu_J (f_X12_lived s a1) (fun r => some (some (.int r.1), r.2)) (am_D (fu_ho fr_sh) am_m d 380 [.ref 117, .int a1] s) := by
  obtain ⟨d, rfl⟩ : ∃ e, d = e + 1 := ⟨d - 1, by omega⟩
  refine fu_enter (ls := [.ref 117, .int a1]) am_at_X12_lived rfl rfl ?_
  show fu_J _ _ (fr_X d (some .int) k_X12_lived 0 [.ref 117, .int a1] [] s)
  unfold f_X12_lived
  refine fu_go 2 (pc' := 2) (ls' := [.ref 117, .int a1]) (st' := [.int (0 : Int32), .ref 117]) (s' := s) rfl ?_
  refine fu_lets (b := (fu_pi s 117 1 (0 : Int32))) (fu_putI rfl fr_117 rfl rfl) (fun s1 => ?_)
  refine fu_go 2 (pc' := 7) (ls' := [.ref 117, .int a1]) (st' := [.int (0 : Int32), .ref 117]) (s' := s1) rfl ?_
  refine fu_lets (b := (fu_pi s1 117 0 (0 : Int32))) (fu_putI rfl fr_117 rfl rfl) (fun s2 => ?_)
  refine fu_go 4 (pc' := 16) (ls' := [.ref 117, .int a1]) (st' := [.long (4 : Int64), .long (0 : Int64), .long (Int32.toInt64 a1)]) (s' := s2) rfl ?_
  refine fu_step (fu_cS rfl rfl rfl rfl rfl rfl (fu_eq (e_X12_isIn d (by omega) s2 (Int32.toInt64 a1) (0 : Int64) (4 : Int64)) rfl)) ?_
  show fu_J _ _ (fr_X d (some .int) k_X12_lived 19 [.ref 117, .int a1] [.int (fu_b (f_X12_isIn (Int32.toInt64 a1) (0 : Int64) (4 : Int64)))] s2)
  refine fu_ite (fun h3 => fu_step (fu_ib_ne_t rfl h3) ?_) (fun h3 => fu_step (fu_ib_ne_f rfl h3) ?_)
  · refine fu_go 1 (pc' := 29) (ls' := [.ref 117, .int a1]) (st' := [.ref 117]) (s' := s2) rfl ?_
    refine fu_step (fu_getB rfl fr_117 rfl rfl) ?_
    refine fu_bind (V := fun j4 : Int32 × fu_S => fr_X d (some .int) k_X12_lived 50 [am_U, am_U] [.int j4.1] j4.2) ?_ (fun j4 => ?_)
    · refine fu_ite (fun h5 => fu_step (fu_ib_eq_t rfl h5) ?_) (fun h5 => fu_step (fu_ib_eq_f rfl h5) ?_)
      · refine fu_go 1 (pc' := 36) (ls' := [.ref 117, .int a1]) (st' := [.ref 117]) (s' := s2) rfl ?_
        refine fu_step (fu_getR rfl fr_117 rfl rfl) ?_
        refine fu_go 1 (pc' := 40) (ls' := [.ref 117, .int a1]) (st' := [.int a1, .ref 127]) (s' := s2) rfl ?_
        refine fu_guard (fun h6 => fu_step (fu_ldI rfl fr_127 h6) ?_)
        refine fu_go 1 (pc' := 50) (ls' := [.ref 117, .int a1]) (st' := [.int (s2.1 127 (Int32.toNatClampNeg a1))]) (s' := s2) rfl ?_
        exact fu_leaf rfl ⟨.inl rfl, .inl rfl, trivial⟩
      · refine fu_go 2 (pc' := 47) (ls' := [.ref 117, .int a1]) (st' := [.int (8 : Int32), .ref 117]) (s' := s2) rfl ?_
        refine fu_let (fu_cVJ rfl rfl rfl rfl rfl (fu_recv fr_117 am_at_X12_refuse rfl) (e_X12_refuse d (by omega) s2 (8 : Int32))) (fun r7 => ?_)
        show fu_J _ _ (fr_X d (some .int) k_X12_lived 50 [.ref 117, .int a1] [.int r7.1] r7.2)
        exact fu_leaf rfl ⟨.inl rfl, .inl rfl, trivial⟩
    show fu_J _ _ (fr_X d (some .int) k_X12_lived 50 [am_U, am_U] [.int j4.1] j4.2)
    exact fu_iret rfl rfl
  · refine fu_go 2 (pc' := 24) (ls' := [.ref 117, .int a1]) (st' := [.int (5 : Int32), .ref 117]) (s' := s2) rfl ?_
    refine fu_let (fu_cVJ rfl rfl rfl rfl rfl (fu_recv fr_117 am_at_X12_refuse rfl) (e_X12_refuse d (by omega) s2 (5 : Int32))) (fun r8 => ?_)
    show fu_J _ _ (fr_X d (some .int) k_X12_lived 27 [.ref 117, .int a1] [.int r8.1] r8.2)
    exact fu_iret rfl rfl
/-! X12_mean -/
theorem el_X12_mean_62 (d : Nat) (hd : 0 ≤ d) : ∀ (n : Nat) (s : fu_S) (x1 : Int32) (x2 : Int32) (x3 : Int32), fu_J (l_X12_mean_62 n s x1 x2 x3) (fun r => fr_X d (some .boolean) k_X12_mean 86 [.ref 117, .int x1, .int x2, am_U, am_U, am_U, am_U] [] r) (fr_X d (some .boolean) k_X12_mean 62 [.ref 117, .int x1, .int x2, .int x3, am_U, am_U, am_U] [] s) := by
  intro n
  induction n with
  | zero => intros; exact fu_none
  | succ n ih =>
    intro s x1 x2 x3
    rw [l_X12_mean_62]
    refine fu_go 2 (pc' := 65) (ls' := [.ref 117, .int x1, .int x2, .int x3, am_U, am_U, am_U]) (st' := [.int (83 : Int32), .int x3]) (s' := s) rfl ?_
    refine fu_ite (fun h7 => fu_step (fu_ic_ge_t rfl h7) ?_) (fun h7 => fu_step (fu_ic_ge_f rfl h7) ?_)
    · refine fu_go 1 (pc' := 69) (ls' := [.ref 117, .int x1, .int x2, .int x3, am_U, am_U, am_U]) (st' := [.ref 117]) (s' := s) rfl ?_
      refine fu_step (fu_getR rfl fr_117 rfl rfl) ?_
      refine fu_go 2 (pc' := 74) (ls' := [.ref 117, .int x1, .int x2, .int x3, am_U, am_U, am_U]) (st' := [.ref 117, .int x3, .ref 123]) (s' := s) rfl ?_
      refine fu_step (fu_getR rfl fr_117 rfl rfl) ?_
      refine fu_go 1 (pc' := 78) (ls' := [.ref 117, .int x1, .int x2, .int x3, am_U, am_U, am_U]) (st' := [.int x3, .ref 122, .int x3, .ref 123]) (s' := s) rfl ?_
      refine fu_guard (fun h8 => fu_step (fu_ldI rfl fr_122 h8) ?_)
      refine fu_guard (fun h10 => fu_lets (b := (fu_pi s 123 (Int32.toNatClampNeg x3) (s.1 122 (Int32.toNatClampNeg x3)))) (fu_stI rfl fr_123 h10) (fun s9 => ?_))
      refine fu_go 2 (pc' := 62) (ls' := [.ref 117, .int x1, .int x2, .int (x3 + (1 : Int32)), am_U, am_U, am_U]) (st' := []) (s' := s9) rfl ?_
      exact fu_drop (ls' := [.ref 117, .int x1, .int x2, .int (x3 + (1 : Int32)), am_U, am_U, am_U]) ⟨.inr rfl, .inr rfl, .inr rfl, .inr rfl, .inl rfl, .inl rfl, .inl rfl, trivial⟩ (ih s9 x1 x2 (x3 + (1 : Int32)))
    · exact fu_leaf rfl ⟨.inr rfl, .inr rfl, .inr rfl, .inl rfl, .inl rfl, .inl rfl, .inl rfl, trivial⟩
theorem el_X12_mean_120 (d : Nat) (hd : 0 ≤ d) : ∀ (n : Nat) (s : fu_S) (x1 : Int32) (x2 : Int32) (x3 : Int64) (x5 : Int32) (x6 : Int32), fu_J (l_X12_mean_120 n s x1 x2 x3 x5 x6) (fun r => fr_X d (some .boolean) k_X12_mean 147 [.ref 117, .int x1, .int x2, .long x3, am_U, .int x5, am_U] [] r) (fr_X d (some .boolean) k_X12_mean 120 [.ref 117, .int x1, .int x2, .long x3, am_U, .int x5, .int x6] [] s) := by
  intro n
  induction n with
  | zero => intros; exact fu_none
  | succ n ih =>
    intro s x1 x2 x3 x5 x6
    rw [l_X12_mean_120]
    refine fu_go 2 (pc' := 124) (ls' := [.ref 117, .int x1, .int x2, .long x3, am_U, .int x5, .int x6]) (st' := [.int (83 : Int32), .int x6]) (s' := s) rfl ?_
    refine fu_ite (fun h16 => fu_step (fu_ic_ge_t rfl h16) ?_) (fun h16 => fu_step (fu_ic_ge_f rfl h16) ?_)
    · refine fu_go 1 (pc' := 128) (ls' := [.ref 117, .int x1, .int x2, .long x3, am_U, .int x5, .int x6]) (st' := [.ref 117]) (s' := s) rfl ?_
      refine fu_step (fu_getR rfl fr_117 rfl rfl) ?_
      refine fu_go 2 (pc' := 134) (ls' := [.ref 117, .int x1, .int x2, .long x3, am_U, .int x5, .int x6]) (st' := [.ref 117, .int x6, .ref 122]) (s' := s) rfl ?_
      refine fu_step (fu_getR rfl fr_117 rfl rfl) ?_
      refine fu_go 1 (pc' := 139) (ls' := [.ref 117, .int x1, .int x2, .long x3, am_U, .int x5, .int x6]) (st' := [.int x6, .ref 123, .int x6, .ref 122]) (s' := s) rfl ?_
      refine fu_guard (fun h17 => fu_step (fu_ldI rfl fr_123 h17) ?_)
      refine fu_guard (fun h19 => fu_lets (b := (fu_pi s 122 (Int32.toNatClampNeg x6) (s.1 123 (Int32.toNatClampNeg x6)))) (fu_stI rfl fr_122 h19) (fun s18 => ?_))
      refine fu_go 2 (pc' := 120) (ls' := [.ref 117, .int x1, .int x2, .long x3, am_U, .int x5, .int (x6 + (1 : Int32))]) (st' := []) (s' := s18) rfl ?_
      exact fu_drop (ls' := [.ref 117, .int x1, .int x2, .long x3, am_U, .int x5, .int (x6 + (1 : Int32))]) ⟨.inr rfl, .inr rfl, .inr rfl, .inr rfl, .inl rfl, .inr rfl, .inr rfl, trivial⟩ (ih s18 x1 x2 x3 x5 (x6 + (1 : Int32)))
    · exact fu_leaf rfl ⟨.inr rfl, .inr rfl, .inr rfl, .inr rfl, .inl rfl, .inr rfl, .inl rfl, trivial⟩
theorem el_X12_mean_91 (d : Nat) (hd : 44 ≤ d) : ∀ (n : Nat) (s : fu_S) (x1 : Int32) (x2 : Int32) (x3 : Int64) (x5 : Int32), fu_J (l_X12_mean_91 n s x1 x2 x3 x5) (fun r => fr_X d (some .boolean) k_X12_mean 153 [.ref 117, am_U, .int x2, .long r.1, am_U, am_U, am_U] [] r.2) (fr_X d (some .boolean) k_X12_mean 91 [.ref 117, .int x1, .int x2, .long x3, am_U, .int x5, am_U] [] s) := by
  intro n
  induction n with
  | zero => intros; exact fu_none
  | succ n ih =>
    intro s x1 x2 x3 x5
    rw [l_X12_mean_91]
    refine fu_go 2 (pc' := 94) (ls' := [.ref 117, .int x1, .int x2, .long x3, am_U, .int x5, am_U]) (st' := [.int x2, .int x5]) (s' := s) rfl ?_
    refine fu_ite (fun h12 => fu_step (fu_ic_ge_t rfl h12) ?_) (fun h12 => fu_step (fu_ic_ge_f rfl h12) ?_)
    · refine fu_go 4 (pc' := 102) (ls' := [.ref 117, .int x1, .int x2, .long x3, am_U, .int x5, am_U]) (st' := [.int (x1 + x5), .ref 117]) (s' := s) rfl ?_
      refine fu_bind (fu_cVJ rfl rfl rfl rfl rfl (fu_recv fr_117 am_at_X12_runsDays rfl) (e_X12_runsDays d (by omega) s (x1 + x5))) (fun r13 => ?_)
      show fu_J _ _ (fr_X d (some .boolean) k_X12_mean 105 [.ref 117, .int x1, .int x2, .long x3, am_U, .int x5, am_U] [] r13)
      refine fu_go 3 (pc' := 108) (ls' := [.ref 117, .int x1, .int x2, .long x3, am_U, .int x5, am_U]) (st' := [.int (2 : Int32), .ref 117, .long x3]) (s' := r13) rfl ?_
      refine fu_bind (fu_cVJ rfl rfl rfl rfl rfl (fu_recv fr_117 am_at_X12_things rfl) (e_X12_things d (by omega) r13 (2 : Int32))) (fun r14 => ?_)
      show fu_J _ _ (fr_X d (some .boolean) k_X12_mean 111 [.ref 117, .int x1, .int x2, .long x3, am_U, .int x5, am_U] [.int r14, .long x3] r13)
      refine fu_bind (fu_cSJ rfl rfl rfl rfl rfl rfl (e_X12_sizeOf d (by omega) r13 r14)) (fun r15 => ?_)
      show fu_J _ _ (fr_X d (some .boolean) k_X12_mean 114 [.ref 117, .int x1, .int x2, .long x3, am_U, .int x5, am_U] [.int r15, .long x3] r13)
      refine fu_go 5 (pc' := 120) (ls' := [.ref 117, .int x1, .int x2, .long (x3 + (Int32.toInt64 r15)), am_U, .int x5, .int (0 : Int32)]) (st' := []) (s' := r13) rfl ?_
      refine fu_drop (ls' := [.ref 117, .int x1, .int x2, .long (x3 + (Int32.toInt64 r15)), am_U, .int x5, .int (0 : Int32)]) ⟨.inr rfl, .inr rfl, .inr rfl, .inr rfl, .inl rfl, .inr rfl, .inr rfl, trivial⟩ ?_
      refine fu_bind (el_X12_mean_120 d (by omega) fu_N r13 x1 x2 (x3 + (Int32.toInt64 r15)) x5 (0 : Int32)) (fun r20 => ?_)
      show fu_J _ _ (fr_X d (some .boolean) k_X12_mean 147 [.ref 117, .int x1, .int x2, .long (x3 + (Int32.toInt64 r15)), am_U, .int x5, am_U] [] r20)
      refine fu_go 2 (pc' := 91) (ls' := [.ref 117, .int x1, .int x2, .long (x3 + (Int32.toInt64 r15)), am_U, .int (x5 + (1 : Int32)), am_U]) (st' := []) (s' := r20) rfl ?_
      exact fu_drop (ls' := [.ref 117, .int x1, .int x2, .long (x3 + (Int32.toInt64 r15)), am_U, .int (x5 + (1 : Int32)), am_U]) ⟨.inr rfl, .inr rfl, .inr rfl, .inr rfl, .inl rfl, .inr rfl, .inl rfl, trivial⟩ (ih r20 x1 x2 (x3 + (Int32.toInt64 r15)) (x5 + (1 : Int32)))
    · exact fu_leaf rfl ⟨.inr rfl, .inl rfl, .inr rfl, .inr rfl, .inl rfl, .inl rfl, .inl rfl, trivial⟩
set_option maxRecDepth 100000 in
theorem e_X12_mean (d : Nat) (hd : 45 ≤ d) (s : fu_S) (a1 : Int32) (a2 : Int32) : fu_J (f_X12_mean s a1 a2) (fun r => some (some (.int (fu_b r.1)), r.2)) (am_D (fu_ho fr_sh) am_m d 381 [.ref 117, .int a1, .int a2] s) := by
  obtain ⟨d, rfl⟩ : ∃ e, d = e + 1 := ⟨d - 1, by omega⟩
  refine fu_enter (ls := [.ref 117, .int a1, .int a2, am_U, am_U, am_U, am_U]) am_at_X12_mean rfl rfl ?_
  show fu_J _ _ (fr_X d (some .boolean) k_X12_mean 0 [.ref 117, .int a1, .int a2, am_U, am_U, am_U, am_U] [] s)
  unfold f_X12_mean
  refine fu_go 2 (pc' := 2) (ls' := [.ref 117, .int a1, .int a2, am_U, am_U, am_U, am_U]) (st' := [.int (0 : Int32), .ref 117]) (s' := s) rfl ?_
  refine fu_lets (b := (fu_pi s 117 1 (0 : Int32))) (fu_putI rfl fr_117 rfl rfl) (fun s1 => ?_)
  refine fu_go 2 (pc' := 7) (ls' := [.ref 117, .int a1, .int a2, am_U, am_U, am_U, am_U]) (st' := [.int (0 : Int32), .ref 117]) (s' := s1) rfl ?_
  refine fu_lets (b := (fu_pi s1 117 0 (0 : Int32))) (fu_putI rfl fr_117 rfl rfl) (fun s2 => ?_)
  refine fu_go 4 (pc' := 16) (ls' := [.ref 117, .int a1, .int a2, am_U, am_U, am_U, am_U]) (st' := [.long (20 : Int64), .long (1 : Int64), .long (Int32.toInt64 a2)]) (s' := s2) rfl ?_
  refine fu_step (fu_cS rfl rfl rfl rfl rfl rfl (fu_eq (e_X12_isIn d (by omega) s2 (Int32.toInt64 a2) (1 : Int64) (20 : Int64)) rfl)) ?_
  show fu_J _ _ (fr_X d (some .boolean) k_X12_mean 19 [.ref 117, .int a1, .int a2, am_U, am_U, am_U, am_U] [.int (fu_b (f_X12_isIn (Int32.toInt64 a2) (1 : Int64) (20 : Int64)))] s2)
  refine fu_ite (fun h3 => fu_step (fu_ib_eq_t rfl h3) ?_) (fun h3 => fu_step (fu_ib_eq_f rfl h3) ?_)
  · refine fu_go 7 (pc' := 31) (ls' := [.ref 117, .int a1, .int a2, am_U, am_U, am_U, am_U]) (st' := [.long (Int32.toInt64 ((10000 : Int32) - a2)), .long (0 : Int64), .long (Int32.toInt64 a1)]) (s' := s2) rfl ?_
    refine fu_step (fu_cS rfl rfl rfl rfl rfl rfl (fu_eq (e_X12_isIn d (by omega) s2 (Int32.toInt64 a1) (0 : Int64) (Int32.toInt64 ((10000 : Int32) - a2))) rfl)) ?_
    show fu_J _ _ (fr_X d (some .boolean) k_X12_mean 34 [.ref 117, .int a1, .int a2, am_U, am_U, am_U, am_U] [.int (fu_b (f_X12_isIn (Int32.toInt64 a1) (0 : Int64) (Int32.toInt64 ((10000 : Int32) - a2))))] s2)
    refine fu_ite (fun h4 => fu_step (fu_ib_ne_t rfl h4) ?_) (fun h4 => fu_step (fu_ib_ne_f rfl h4) ?_)
    · refine fu_go 1 (pc' := 44) (ls' := [.ref 117, .int a1, .int a2, am_U, am_U, am_U, am_U]) (st' := [.ref 117]) (s' := s2) rfl ?_
      refine fu_step (fu_getR rfl fr_117 rfl rfl) ?_
      refine fu_go 1 (pc' := 49) (ls' := [.ref 117, .int a1, .int a2, am_U, am_U, am_U, am_U]) (st' := [.int (83 : Int32), .ref 122]) (s' := s2) rfl ?_
      refine fu_step (fu_ldIk (k := 83) rfl fr_122 (by decide) (by decide)) ?_
      refine fu_ite (fun h5 => fu_step (fu_if_ne_t rfl h5) ?_) (fun h5 => fu_step (fu_if_ne_f rfl h5) ?_)
      · refine fu_go 2 (pc' := 56) (ls' := [.ref 117, .int a1, .int a2, am_U, am_U, am_U, am_U]) (st' := [.int (8 : Int32), .ref 117]) (s' := s2) rfl ?_
        refine fu_let (fu_cVJ rfl rfl rfl rfl rfl (fu_recv fr_117 am_at_X12_no rfl) (e_X12_no d (by omega) s2 (8 : Int32))) (fun r6 => ?_)
        show fu_J _ _ (fr_X d (some .boolean) k_X12_mean 59 [.ref 117, .int a1, .int a2, am_U, am_U, am_U, am_U] [.int (fu_b r6.1)] r6.2)
        exact fu_bret (b := r6.1) rfl rfl
      · refine fu_go 2 (pc' := 62) (ls' := [.ref 117, .int a1, .int a2, .int (0 : Int32), am_U, am_U, am_U]) (st' := []) (s' := s2) rfl ?_
        refine fu_drop (ls' := [.ref 117, .int a1, .int a2, .int (0 : Int32), am_U, am_U, am_U]) ⟨.inr rfl, .inr rfl, .inr rfl, .inr rfl, .inl rfl, .inl rfl, .inl rfl, trivial⟩ ?_
        refine fu_bind (el_X12_mean_62 d (by omega) fu_N s2 a1 a2 (0 : Int32)) (fun r11 => ?_)
        show fu_J _ _ (fr_X d (some .boolean) k_X12_mean 86 [.ref 117, .int a1, .int a2, am_U, am_U, am_U, am_U] [] r11)
        refine fu_go 4 (pc' := 91) (ls' := [.ref 117, .int a1, .int a2, .long (0 : Int64), am_U, .int (0 : Int32), am_U]) (st' := []) (s' := r11) rfl ?_
        refine fu_drop (ls' := [.ref 117, .int a1, .int a2, .long (0 : Int64), am_U, .int (0 : Int32), am_U]) ⟨.inr rfl, .inr rfl, .inr rfl, .inr rfl, .inl rfl, .inr rfl, .inl rfl, trivial⟩ ?_
        refine fu_bind (el_X12_mean_91 d (by omega) fu_N r11 a1 a2 (0 : Int64) (0 : Int32)) (fun r21 => ?_)
        show fu_J _ _ (fr_X d (some .boolean) k_X12_mean 153 [.ref 117, am_U, .int a2, .long r21.1, am_U, am_U, am_U] [] r21.2)
        refine fu_go 4 (pc' := 157) (ls' := [.ref 117, am_U, .int a2, .long r21.1, am_U, am_U, am_U]) (st' := [.long (Int32.toInt64 a2), .long r21.1, .ref 117]) (s' := r21.2) rfl ?_
        refine fu_bind (fu_cVJ rfl rfl rfl rfl rfl (fu_recv fr_117 am_at_X12_fraction rfl) (e_X12_fraction d (by omega) r21.2 r21.1 (Int32.toInt64 a2))) (fun r22 => ?_)
        show fu_J _ _ (fr_X d (some .boolean) k_X12_mean 160 [.ref 117, am_U, .int a2, .long r21.1, am_U, am_U, am_U] [.int (fu_b r22.1)] r22.2)
        exact fu_bret (b := r22.1) rfl rfl
    · refine fu_go 2 (pc' := 39) (ls' := [.ref 117, .int a1, .int a2, am_U, am_U, am_U, am_U]) (st' := [.int (5 : Int32), .ref 117]) (s' := s2) rfl ?_
      refine fu_let (fu_cVJ rfl rfl rfl rfl rfl (fu_recv fr_117 am_at_X12_no rfl) (e_X12_no d (by omega) s2 (5 : Int32))) (fun r23 => ?_)
      show fu_J _ _ (fr_X d (some .boolean) k_X12_mean 42 [.ref 117, .int a1, .int a2, am_U, am_U, am_U, am_U] [.int (fu_b r23.1)] r23.2)
      exact fu_bret (b := r23.1) rfl rfl
  · refine fu_go 2 (pc' := 39) (ls' := [.ref 117, .int a1, .int a2, am_U, am_U, am_U, am_U]) (st' := [.int (5 : Int32), .ref 117]) (s' := s2) rfl ?_
    refine fu_let (fu_cVJ rfl rfl rfl rfl rfl (fu_recv fr_117 am_at_X12_no rfl) (e_X12_no d (by omega) s2 (5 : Int32))) (fun r24 => ?_)
    show fu_J _ _ (fr_X d (some .boolean) k_X12_mean 42 [.ref 117, .int a1, .int a2, am_U, am_U, am_U, am_U] [.int (fu_b r24.1)] r24.2)
    exact fu_bret (b := r24.1) rfl rfl
/-! X12_mark -/
set_option maxRecDepth 100000 in
theorem e_X12_mark (d : Nat) (hd : 2 ≤ d) (s : fu_S) : fu_J (f_X12_mark s) (fun r => some (some (.int r.1), r.2)) (am_D (fu_ho fr_sh) am_m d 383 [.ref 117] s) := by
  obtain ⟨d, rfl⟩ : ∃ e, d = e + 1 := ⟨d - 1, by omega⟩
  refine fu_enter (ls := [.ref 117]) am_at_X12_mark rfl rfl ?_
  show fu_J _ _ (fr_X d (some .int) k_X12_mark 0 [.ref 117] [] s)
  unfold f_X12_mark
  refine fu_go 2 (pc' := 2) (ls' := [.ref 117]) (st' := [.int (0 : Int32), .ref 117]) (s' := s) rfl ?_
  refine fu_lets (b := (fu_pi s 117 1 (0 : Int32))) (fu_putI rfl fr_117 rfl rfl) (fun s1 => ?_)
  refine fu_go 2 (pc' := 7) (ls' := [.ref 117]) (st' := [.int (0 : Int32), .ref 117]) (s' := s1) rfl ?_
  refine fu_lets (b := (fu_pi s1 117 0 (0 : Int32))) (fu_putI rfl fr_117 rfl rfl) (fun s2 => ?_)
  refine fu_go 1 (pc' := 11) (ls' := [.ref 117]) (st' := [.ref 117]) (s' := s2) rfl ?_
  refine fu_step (fu_getI rfl fr_117 rfl rfl) ?_
  refine fu_go 1 (pc' := 15) (ls' := [.ref 117]) (st' := [.int (3 : Int32), .int (s2.1 117 23)]) (s' := s2) rfl ?_
  refine fu_ite (fun h3 => fu_step (fu_ic_ne_t rfl h3) ?_) (fun h3 => fu_step (fu_ic_ne_f rfl h3) ?_)
  · refine fu_go 2 (pc' := 21) (ls' := [.ref 117]) (st' := [.int (7 : Int32), .ref 117]) (s' := s2) rfl ?_
    refine fu_let (fu_cVJ rfl rfl rfl rfl rfl (fu_recv fr_117 am_at_X12_refuse rfl) (e_X12_refuse d (by omega) s2 (7 : Int32))) (fun r4 => ?_)
    show fu_J _ _ (fr_X d (some .int) k_X12_mark 24 [.ref 117] [.int r4.1] r4.2)
    exact fu_iret rfl rfl
  · refine fu_go 2 (pc' := 27) (ls' := [.ref 117]) (st' := [.ref 117, .ref 117]) (s' := s2) rfl ?_
    refine fu_step (fu_getI rfl fr_117 rfl rfl) ?_
    refine fu_go 2 (pc' := 32) (ls' := [.ref 117]) (st' := [.int ((s2.1 117 23) + (1 : Int32)), .ref 117]) (s' := s2) rfl ?_
    refine fu_lets (b := (fu_pi s2 117 23 ((s2.1 117 23) + (1 : Int32)))) (fu_putI rfl fr_117 rfl rfl) (fun s5 => ?_)
    refine fu_go 3 (pc' := 38) (ls' := [.ref 117]) (st' := [.ref 117, .int (0 : Int32), .ref 117]) (s' := s5) rfl ?_
    refine fu_step (fu_getI rfl fr_117 rfl rfl) ?_
    refine fu_bind (fu_cVJ rfl rfl rfl rfl rfl (fu_recv fr_117 am_at_X12_copy rfl) (e_X12_copy d (by omega) s5 (0 : Int32) (s5.1 117 23))) (fun r6 => ?_)
    show fu_J _ _ (fr_X d (some .int) k_X12_mark 44 [.ref 117] [] r6)
    refine fu_go 1 (pc' := 45) (ls' := [.ref 117]) (st' := [.ref 117]) (s' := r6) rfl ?_
    refine fu_step (fu_getI rfl fr_117 rfl rfl) ?_
    exact fu_iret rfl rfl
/-! X12_back -/
set_option maxRecDepth 100000 in
theorem e_X12_back (d : Nat) (hd : 2 ≤ d) (s : fu_S) : fu_J (f_X12_back s) (fun r => some (some (.int r.1), r.2)) (am_D (fu_ho fr_sh) am_m d 384 [.ref 117] s) := by
  obtain ⟨d, rfl⟩ : ∃ e, d = e + 1 := ⟨d - 1, by omega⟩
  refine fu_enter (ls := [.ref 117]) am_at_X12_back rfl rfl ?_
  show fu_J _ _ (fr_X d (some .int) k_X12_back 0 [.ref 117] [] s)
  unfold f_X12_back
  refine fu_go 2 (pc' := 2) (ls' := [.ref 117]) (st' := [.int (0 : Int32), .ref 117]) (s' := s) rfl ?_
  refine fu_lets (b := (fu_pi s 117 1 (0 : Int32))) (fu_putI rfl fr_117 rfl rfl) (fun s1 => ?_)
  refine fu_go 2 (pc' := 7) (ls' := [.ref 117]) (st' := [.int (0 : Int32), .ref 117]) (s' := s1) rfl ?_
  refine fu_lets (b := (fu_pi s1 117 0 (0 : Int32))) (fu_putI rfl fr_117 rfl rfl) (fun s2 => ?_)
  refine fu_go 1 (pc' := 11) (ls' := [.ref 117]) (st' := [.ref 117]) (s' := s2) rfl ?_
  refine fu_step (fu_getI rfl fr_117 rfl rfl) ?_
  refine fu_ite (fun h3 => fu_step (fu_if_ne_t rfl h3) ?_) (fun h3 => fu_step (fu_if_ne_f rfl h3) ?_)
  · refine fu_go 2 (pc' := 20) (ls' := [.ref 117]) (st' := [.int (8 : Int32), .ref 117]) (s' := s2) rfl ?_
    refine fu_let (fu_cVJ rfl rfl rfl rfl rfl (fu_recv fr_117 am_at_X12_refuse rfl) (e_X12_refuse d (by omega) s2 (8 : Int32))) (fun r4 => ?_)
    show fu_J _ _ (fr_X d (some .int) k_X12_back 23 [.ref 117] [.int r4.1] r4.2)
    exact fu_iret rfl rfl
  · refine fu_go 2 (pc' := 26) (ls' := [.ref 117]) (st' := [.ref 117, .ref 117]) (s' := s2) rfl ?_
    refine fu_step (fu_getI rfl fr_117 rfl rfl) ?_
    refine fu_go 1 (pc' := 30) (ls' := [.ref 117]) (st' := [.int (0 : Int32), .int (s2.1 117 23), .ref 117]) (s' := s2) rfl ?_
    refine fu_bind (fu_cVJ rfl rfl rfl rfl rfl (fu_recv fr_117 am_at_X12_copy rfl) (e_X12_copy d (by omega) s2 (s2.1 117 23) (0 : Int32))) (fun r5 => ?_)
    show fu_J _ _ (fr_X d (some .int) k_X12_back 33 [.ref 117] [] r5)
    refine fu_go 2 (pc' := 35) (ls' := [.ref 117]) (st' := [.ref 117, .ref 117]) (s' := r5) rfl ?_
    refine fu_step (fu_getI rfl fr_117 rfl rfl) ?_
    refine fu_go 2 (pc' := 40) (ls' := [.ref 117]) (st' := [.int ((r5.1 117 23) - (1 : Int32)), .ref 117]) (s' := r5) rfl ?_
    refine fu_lets (b := (fu_pi r5 117 23 ((r5.1 117 23) - (1 : Int32)))) (fu_putI rfl fr_117 rfl rfl) (fun s6 => ?_)
    refine fu_go 1 (pc' := 44) (ls' := [.ref 117]) (st' := [.ref 117]) (s' := s6) rfl ?_
    refine fu_step (fu_getI rfl fr_117 rfl rfl) ?_
    exact fu_iret rfl rfl
