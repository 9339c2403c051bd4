/-! printed by wip/whole/lift/lift.py: the small machine comes to what the functions answer -/
/-! X6_takeRest -/
set_option maxRecDepth 100000 in
theorem e_X6_takeRest (d : Nat) (hd : 5 ≤ d) (s : fu_S) (a1 : Int32) : fu_J (f_X6_takeRest s a1) (fun r => some (some (.int (fu_b r.1)), r.2)) (am_D (fu_ho fc_sh) am_m d 122 [.ref 48, .int a1] s) := by
  obtain ⟨d, rfl⟩ : ∃ e, d = e + 1 := ⟨d - 1, by omega⟩
  refine fu_enter (ls := [.ref 48, .int a1]) am_at_X6_takeRest rfl rfl ?_
  show fu_J _ _ (fc_X d (some .boolean) k_X6_takeRest 0 [.ref 48, .int a1] [] s)
  unfold f_X6_takeRest
  refine fu_go 1 (pc' := 1) (ls' := [.ref 48, .int a1]) (st' := [.int a1]) (s' := s) rfl ?_
  refine fu_ite (fun h1 => fu_step (fu_tsw_at (t := 58) rfl h1 (by decide)) ?_) (fun h1 => ?_)
  · refine fu_go 3 (pc' := 61) (ls' := [.ref 48, .int a1]) (st' := [.ref 48, .int a1, .ref 48]) (s' := s) rfl ?_
    refine fu_step (fu_getR rfl fc_48 rfl rfl) ?_
    refine fu_step (fu_cV rfl rfl rfl rfl rfl (fu_recv fc_11 am_at_X4_kinds rfl) (fu_eq (e_X4_kinds d (by omega) s 11 fc_is3_11) rfl)) ?_
    show fu_J _ _ (fc_X d (some .boolean) k_X6_takeRest 67 [.ref 48, .int a1] [.int (f_X4_kinds s 11), .int a1, .ref 48] s)
    refine fu_go 2 (pc' := 69) (ls' := [.ref 48, .int a1]) (st' := [.int ((f_X4_kinds s 11) - (1 : Int32)), .int a1, .ref 48]) (s' := s) rfl ?_
    refine fu_bind (fu_cVJ rfl rfl rfl rfl rfl (fu_recv fc_48 am_at_X6_takeDeedOf rfl) (e_X6_takeDeedOf d (by omega) s a1 ((f_X4_kinds s 11) - (1 : Int32)))) (fun r2 => ?_)
    show fu_J _ _ (fc_X d (some .boolean) k_X6_takeRest 72 [.ref 48, .int a1] [.int (fu_b r2.1)] r2.2)
    exact fu_bret (b := r2.1) rfl rfl
  refine fu_ite (fun h3 => fu_step (fu_tsw_at (t := 52) rfl h3 (by decide)) ?_) (fun h3 => ?_)
  · refine fu_go 2 (pc' := 54) (ls' := [.ref 48, .int a1]) (st' := [.int a1, .ref 48]) (s' := s) rfl ?_
    refine fu_bind (fu_cVJ rfl rfl rfl rfl rfl (fu_recv fc_48 am_at_X6_takeCount rfl) (e_X6_takeCount d (by omega) s a1)) (fun r4 => ?_)
    show fu_J _ _ (fc_X d (some .boolean) k_X6_takeRest 57 [.ref 48, .int a1] [.int (fu_b r4.1)] r4.2)
    exact fu_bret (b := r4.1) rfl rfl
  refine fu_ite (fun h5 => fu_step (fu_tsw_at (t := 73) rfl h5 (by decide)) ?_) (fun h5 => ?_)
  · refine fu_go 3 (pc' := 77) (ls' := [.ref 48, .int a1]) (st' := [.int (7 : Int32), .int a1, .ref 48]) (s' := s) rfl ?_
    refine fu_bind (fu_cVJ rfl rfl rfl rfl rfl (fu_recv fc_48 am_at_X6_takeDeedOf rfl) (e_X6_takeDeedOf d (by omega) s a1 (7 : Int32))) (fun r6 => ?_)
    show fu_J _ _ (fc_X d (some .boolean) k_X6_takeRest 80 [.ref 48, .int a1] [.int (fu_b r6.1)] r6.2)
    exact fu_bret (b := r6.1) rfl rfl
  refine fu_ite (fun h7 => fu_step (fu_tsw_at (t := 81) rfl h7 (by decide)) ?_) (fun h7 => ?_)
  · refine fu_go 2 (pc' := 83) (ls' := [.ref 48, .int a1]) (st' := [.int a1, .ref 48]) (s' := s) rfl ?_
    refine fu_bind (fu_cVJ rfl rfl rfl rfl rfl (fu_recv fc_48 am_at_X6_takeTest rfl) (e_X6_takeTest d (by omega) s a1)) (fun r8 => ?_)
    show fu_J _ _ (fc_X d (some .boolean) k_X6_takeRest 86 [.ref 48, .int a1] [.int (fu_b r8.1)] r8.2)
    exact fu_bret (b := r8.1) rfl rfl
  refine fu_ite (fun h9 => fu_step (fu_tsw_at (t := 52) rfl h9 (by decide)) ?_) (fun h9 => ?_)
  · refine fu_go 2 (pc' := 54) (ls' := [.ref 48, .int a1]) (st' := [.int a1, .ref 48]) (s' := s) rfl ?_
    refine fu_bind (fu_cVJ rfl rfl rfl rfl rfl (fu_recv fc_48 am_at_X6_takeCount rfl) (e_X6_takeCount d (by omega) s a1)) (fun r10 => ?_)
    show fu_J _ _ (fc_X d (some .boolean) k_X6_takeRest 57 [.ref 48, .int a1] [.int (fu_b r10.1)] r10.2)
    exact fu_bret (b := r10.1) rfl rfl
  refine fu_step (fu_tsw_d (t := 87) [111, 112, 113, 115, 119] rfl (by decide) (fu_allc (fu_ne h1 (by decide)) (fu_allc (fu_ne h3 (by decide)) (fu_allc (fu_ne h5 (by decide)) (fu_allc (fu_ne h7 (by decide)) (fu_allc (fu_ne h9 (by decide)) fu_all))))) (by decide)) ?_
  refine fu_go 1 (pc' := 88) (ls' := [.ref 48, .int a1]) (st' := [.ref 48]) (s' := s) rfl ?_
  refine fu_step (fu_getR rfl fc_48 rfl rfl) ?_
  refine fu_go 3 (pc' := 94) (ls' := [.ref 48, .int a1]) (st' := [.int (0 : Int32), .int (0 : Int32), .int a1, .ref 42]) (s' := s) rfl ?_
  refine fu_bind (fu_cVJ rfl rfl rfl rfl rfl (fu_recv fc_42 am_at_X5_addStep rfl) (e_X5_addStep d (by omega) s 42 fc_is4_42 a1 (0 : Int32) (0 : Int32))) (fun r11 => ?_)
  show fu_J _ _ (fc_X d (some .boolean) k_X6_takeRest 97 [.ref 48, .int a1] [] r11)
  refine fu_go 1 (pc' := 98) (ls' := [.ref 48, .int a1]) (st' := [.int (1 : Int32)]) (s' := r11) rfl ?_
  exact fu_bret (b := true) rfl rfl
/-! X6_takeStep -/
set_option maxRecDepth 100000 in
theorem e_X6_takeStep (d : Nat) (hd : 6 ≤ d) (s : fu_S) : fu_J (f_X6_takeStep s) (fun r => some (some (.int (fu_b r.1)), r.2)) (am_D (fu_ho fc_sh) am_m d 120 [.ref 48] s) := by
  obtain ⟨d, rfl⟩ : ∃ e, d = e + 1 := ⟨d - 1, by omega⟩
  refine fu_enter (ls := [.ref 48, am_U, am_U]) am_at_X6_takeStep rfl rfl ?_
  show fu_J _ _ (fc_X d (some .boolean) k_X6_takeStep 0 [.ref 48, am_U, am_U] [] s)
  unfold f_X6_takeStep
  refine fu_go 1 (pc' := 1) (ls' := [.ref 48, am_U, am_U]) (st' := [.ref 48]) (s' := s) rfl ?_
  refine fu_step (fu_getR rfl fc_48 rfl rfl) ?_
  refine fu_bind (fu_cVJ rfl rfl rfl rfl rfl (fu_recv fc_5 am_at_X8_sortHere rfl) (e_X8_sortHere d (by omega) s)) (fun r1 => ?_)
  show fu_J _ _ (fc_X d (some .boolean) k_X6_takeStep 7 [.ref 48, am_U, am_U] [.int r1] s)
  refine fu_go 2 (pc' := 9) (ls' := [.ref 48, .int r1, am_U]) (st' := [.int r1]) (s' := s) rfl ?_
  refine fu_step (fu_cS rfl rfl rfl rfl rfl rfl (fu_eq (e_X6_isDeed d (by omega) s r1) rfl)) ?_
  show fu_J _ _ (fc_X d (some .boolean) k_X6_takeStep 12 [.ref 48, .int r1, am_U] [.int (fu_b (f_X6_isDeed r1))] s)
  refine fu_ite (fun h2 => fu_step (fu_ib_ne_t rfl h2) ?_) (fun h2 => fu_step (fu_ib_ne_f rfl h2) ?_)
  · refine fu_go 1 (pc' := 25) (ls' := [.ref 48, .int r1, am_U]) (st' := [.ref 48]) (s' := s) rfl ?_
    refine fu_step (fu_getR rfl fc_48 rfl rfl) ?_
    refine fu_step (fu_cV rfl rfl rfl rfl rfl (fu_recv fc_42 am_at_X5_steps rfl) (fu_eq (e_X5_steps d (by omega) s 42 fc_is4_42) rfl)) ?_
    show fu_J _ _ (fc_X d (some .boolean) k_X6_takeStep 31 [.ref 48, .int r1, am_U] [.int (f_X5_steps s 42)] s)
    refine fu_go 1 (pc' := 33) (ls' := [.ref 48, .int r1, am_U]) (st' := [.int (30 : Int32), .int (f_X5_steps s 42)]) (s' := s) rfl ?_
    refine fu_ite (fun h3 => fu_step (fu_ic_lt_t rfl h3) ?_) (fun h3 => fu_step (fu_ic_lt_f rfl h3) ?_)
    · refine fu_go 2 (pc' := 49) (ls' := [.ref 48, .int r1, am_U]) (st' := [.int (115 : Int32), .int r1]) (s' := s) rfl ?_
      refine fu_bind (V := fun j4 : Bool => fc_X d (some .boolean) k_X6_takeStep 63 [.ref 48, .int r1, am_U] [.int (fu_b j4)] s) ?_ (fun j4 => ?_)
      · refine fu_ite (fun h5 => fu_step (fu_ic_eq_t rfl h5) ?_) (fun h5 => fu_step (fu_ic_eq_f rfl h5) ?_)
        · refine fu_go 2 (pc' := 63) (ls' := [.ref 48, .int r1, am_U]) (st' := [.int (1 : Int32)]) (s' := s) rfl ?_
          exact fu_leaf rfl ⟨.inr rfl, .inr rfl, .inl rfl, trivial⟩
        · refine fu_go 2 (pc' := 55) (ls' := [.ref 48, .int r1, am_U]) (st' := [.int (119 : Int32), .int r1]) (s' := s) rfl ?_
          refine fu_ite (fun h6 => fu_step (fu_ic_ne_t rfl h6) ?_) (fun h6 => fu_step (fu_ic_ne_f rfl h6) ?_)
          · refine fu_go 2 (pc' := 63) (ls' := [.ref 48, .int r1, am_U]) (st' := [.int (1 : Int32)]) (s' := s) rfl ?_
            exact fu_leaf rfl ⟨.inr rfl, .inr rfl, .inl rfl, trivial⟩
          · refine fu_go 1 (pc' := 63) (ls' := [.ref 48, .int r1, am_U]) (st' := [.int (0 : Int32)]) (s' := s) rfl ?_
            exact fu_leaf rfl ⟨.inr rfl, .inr rfl, .inl rfl, trivial⟩
      show fu_J _ _ (fc_X d (some .boolean) k_X6_takeStep 63 [.ref 48, .int r1, am_U] [.int (fu_b j4)] s)
      refine fu_go 2 (pc' := 65) (ls' := [.ref 48, .int r1, .int (fu_b j4)]) (st' := [.int (fu_b j4)]) (s' := s) rfl ?_
      refine fu_ite (fun h7 => fu_step (fu_ib_eq_t rfl h7) ?_) (fun h7 => fu_step (fu_ib_eq_f rfl h7) ?_)
      · refine fu_go 1 (pc' := 69) (ls' := [.ref 48, .int r1, .int (fu_b j4)]) (st' := [.ref 48]) (s' := s) rfl ?_
        refine fu_step (fu_getI rfl fc_48 rfl rfl) ?_
        refine fu_go 1 (pc' := 73) (ls' := [.ref 48, .int r1, .int (fu_b j4)]) (st' := [.int (3 : Int32), .int (s.1 48 4)]) (s' := s) rfl ?_
        refine fu_ite (fun h8 => fu_step (fu_ic_lt_t rfl h8) ?_) (fun h8 => fu_step (fu_ic_lt_f rfl h8) ?_)
        · refine fu_go 1 (pc' := 87) (ls' := [.ref 48, .int r1, .int (fu_b j4)]) (st' := [.int (fu_b j4)]) (s' := s) rfl ?_
          refine fu_bind (V := fun j9 : fu_S => fc_X d (some .boolean) k_X6_takeStep 123 [.ref 48, .int r1, am_U] [] j9) ?_ (fun j9 => ?_)
          · refine fu_ite (fun h10 => fu_step (fu_ib_eq_t rfl h10) ?_) (fun h10 => fu_step (fu_ib_eq_f rfl h10) ?_)
            · refine fu_go 1 (pc' := 91) (ls' := [.ref 48, .int r1, .int (fu_b j4)]) (st' := [.ref 48]) (s' := s) rfl ?_
              refine fu_step (fu_getI rfl fc_48 rfl rfl) ?_
              refine fu_ite (fun h11 => fu_step (fu_if_lt_t rfl h11) ?_) (fun h11 => fu_step (fu_if_lt_f rfl h11) ?_)
              · exact fu_leaf rfl ⟨.inr rfl, .inr rfl, .inl rfl, trivial⟩
              · refine fu_go 1 (pc' := 98) (ls' := [.ref 48, .int r1, .int (fu_b j4)]) (st' := [.ref 48]) (s' := s) rfl ?_
                refine fu_step (fu_getR rfl fc_48 rfl rfl) ?_
                refine fu_go 1 (pc' := 102) (ls' := [.ref 48, .int r1, .int (fu_b j4)]) (st' := [.ref 48, .ref 49]) (s' := s) rfl ?_
                refine fu_step (fu_getI rfl fc_48 rfl rfl) ?_
                refine fu_go 1 (pc' := 106) (ls' := [.ref 48, .int r1, .int (fu_b j4)]) (st' := [.ref 48, .int (s.1 48 4), .ref 49]) (s' := s) rfl ?_
                refine fu_step (fu_getR rfl fc_48 rfl rfl) ?_
                refine fu_step (fu_cV rfl rfl rfl rfl rfl (fu_recv fc_42 am_at_X5_lines rfl) (fu_eq (e_X5_lines d (by omega) s 42 fc_is4_42) rfl)) ?_
                show fu_J _ _ (fc_X d (some .boolean) k_X6_takeStep 112 [.ref 48, .int r1, .int (fu_b j4)] [.int (f_X5_lines s 42), .int (s.1 48 4), .ref 49] s)
                refine fu_guard (fun h13 => fu_lets (b := (fu_pi s 49 (Int32.toNatClampNeg (s.1 48 4)) (f_X5_lines s 42))) (fu_stI rfl fc_49 h13) (fun s12 => ?_))
                refine fu_go 2 (pc' := 115) (ls' := [.ref 48, .int r1, .int (fu_b j4)]) (st' := [.ref 48, .ref 48]) (s' := s12) rfl ?_
                refine fu_step (fu_getI rfl fc_48 rfl rfl) ?_
                refine fu_go 2 (pc' := 120) (ls' := [.ref 48, .int r1, .int (fu_b j4)]) (st' := [.int ((s12.1 48 4) + (1 : Int32)), .ref 48]) (s' := s12) rfl ?_
                refine fu_lets (b := (fu_pi s12 48 4 ((s12.1 48 4) + (1 : Int32)))) (fu_putI rfl fc_48 rfl rfl) (fun s14 => ?_)
                exact fu_leaf rfl ⟨.inr rfl, .inr rfl, .inl rfl, trivial⟩
            · exact fu_leaf rfl ⟨.inr rfl, .inr rfl, .inl rfl, trivial⟩
          show fu_J _ _ (fc_X d (some .boolean) k_X6_takeStep 123 [.ref 48, .int r1, am_U] [] j9)
          refine fu_go 1 (pc' := 124) (ls' := [.ref 48, .int r1, am_U]) (st' := [.ref 48]) (s' := j9) rfl ?_
          refine fu_step (fu_getR rfl fc_48 rfl rfl) ?_
          refine fu_let (fu_cVJ rfl rfl rfl rfl rfl (fu_recv fc_5 am_at_X8_next rfl) (e_X8_next d (by omega) j9)) (fun r15 => ?_)
          show fu_J _ _ (fc_X d (some .boolean) k_X6_takeStep 130 [.ref 48, .int r1, am_U] [] r15)
          refine fu_go 2 (pc' := 132) (ls' := [.ref 48, .int r1, am_U]) (st' := [.int r1, .ref 48]) (s' := r15) rfl ?_
          refine fu_bind (fu_cVJ rfl rfl rfl rfl rfl (fu_recv fc_48 am_at_X6_takeRest rfl) (e_X6_takeRest d (by omega) r15 r1)) (fun r16 => ?_)
          show fu_J _ _ (fc_X d (some .boolean) k_X6_takeStep 135 [.ref 48, .int r1, am_U] [.int (fu_b r16.1)] r16.2)
          exact fu_bret (b := r16.1) rfl rfl
        · refine fu_go 1 (pc' := 77) (ls' := [.ref 48, .int r1, .int (fu_b j4)]) (st' := [.ref 48]) (s' := s) rfl ?_
          refine fu_step (fu_getR rfl fc_48 rfl rfl) ?_
          refine fu_go 1 (pc' := 82) (ls' := [.ref 48, .int r1, .int (fu_b j4)]) (st' := [.int (7 : Int32), .ref 5]) (s' := s) rfl ?_
          refine fu_bind (fu_cVJ rfl rfl rfl rfl rfl (fu_recv fc_5 am_at_X8_refuse rfl) (e_X8_refuse d (by omega) s (7 : Int32))) (fun r17 => ?_)
          show fu_J _ _ (fc_X d (some .boolean) k_X6_takeStep 85 [.ref 48, .int r1, .int (fu_b j4)] [.int (fu_b r17.1)] r17.2)
          exact fu_bret (b := r17.1) rfl rfl
      · refine fu_go 1 (pc' := 87) (ls' := [.ref 48, .int r1, .int (fu_b j4)]) (st' := [.int (fu_b j4)]) (s' := s) rfl ?_
        refine fu_bind (V := fun j18 : fu_S => fc_X d (some .boolean) k_X6_takeStep 123 [.ref 48, .int r1, am_U] [] j18) ?_ (fun j18 => ?_)
        · refine fu_ite (fun h19 => fu_step (fu_ib_eq_t rfl h19) ?_) (fun h19 => fu_step (fu_ib_eq_f rfl h19) ?_)
          · refine fu_go 1 (pc' := 91) (ls' := [.ref 48, .int r1, .int (fu_b j4)]) (st' := [.ref 48]) (s' := s) rfl ?_
            refine fu_step (fu_getI rfl fc_48 rfl rfl) ?_
            refine fu_ite (fun h20 => fu_step (fu_if_lt_t rfl h20) ?_) (fun h20 => fu_step (fu_if_lt_f rfl h20) ?_)
            · exact fu_leaf rfl ⟨.inr rfl, .inr rfl, .inl rfl, trivial⟩
            · refine fu_go 1 (pc' := 98) (ls' := [.ref 48, .int r1, .int (fu_b j4)]) (st' := [.ref 48]) (s' := s) rfl ?_
              refine fu_step (fu_getR rfl fc_48 rfl rfl) ?_
              refine fu_go 1 (pc' := 102) (ls' := [.ref 48, .int r1, .int (fu_b j4)]) (st' := [.ref 48, .ref 49]) (s' := s) rfl ?_
              refine fu_step (fu_getI rfl fc_48 rfl rfl) ?_
              refine fu_go 1 (pc' := 106) (ls' := [.ref 48, .int r1, .int (fu_b j4)]) (st' := [.ref 48, .int (s.1 48 4), .ref 49]) (s' := s) rfl ?_
              refine fu_step (fu_getR rfl fc_48 rfl rfl) ?_
              refine fu_step (fu_cV rfl rfl rfl rfl rfl (fu_recv fc_42 am_at_X5_lines rfl) (fu_eq (e_X5_lines d (by omega) s 42 fc_is4_42) rfl)) ?_
              show fu_J _ _ (fc_X d (some .boolean) k_X6_takeStep 112 [.ref 48, .int r1, .int (fu_b j4)] [.int (f_X5_lines s 42), .int (s.1 48 4), .ref 49] s)
              refine fu_guard (fun h22 => fu_lets (b := (fu_pi s 49 (Int32.toNatClampNeg (s.1 48 4)) (f_X5_lines s 42))) (fu_stI rfl fc_49 h22) (fun s21 => ?_))
              refine fu_go 2 (pc' := 115) (ls' := [.ref 48, .int r1, .int (fu_b j4)]) (st' := [.ref 48, .ref 48]) (s' := s21) rfl ?_
              refine fu_step (fu_getI rfl fc_48 rfl rfl) ?_
              refine fu_go 2 (pc' := 120) (ls' := [.ref 48, .int r1, .int (fu_b j4)]) (st' := [.int ((s21.1 48 4) + (1 : Int32)), .ref 48]) (s' := s21) rfl ?_
              refine fu_lets (b := (fu_pi s21 48 4 ((s21.1 48 4) + (1 : Int32)))) (fu_putI rfl fc_48 rfl rfl) (fun s23 => ?_)
              exact fu_leaf rfl ⟨.inr rfl, .inr rfl, .inl rfl, trivial⟩
          · exact fu_leaf rfl ⟨.inr rfl, .inr rfl, .inl rfl, trivial⟩
        show fu_J _ _ (fc_X d (some .boolean) k_X6_takeStep 123 [.ref 48, .int r1, am_U] [] j18)
        refine fu_go 1 (pc' := 124) (ls' := [.ref 48, .int r1, am_U]) (st' := [.ref 48]) (s' := j18) rfl ?_
        refine fu_step (fu_getR rfl fc_48 rfl rfl) ?_
        refine fu_let (fu_cVJ rfl rfl rfl rfl rfl (fu_recv fc_5 am_at_X8_next rfl) (e_X8_next d (by omega) j18)) (fun r24 => ?_)
        show fu_J _ _ (fc_X d (some .boolean) k_X6_takeStep 130 [.ref 48, .int r1, am_U] [] r24)
        refine fu_go 2 (pc' := 132) (ls' := [.ref 48, .int r1, am_U]) (st' := [.int r1, .ref 48]) (s' := r24) rfl ?_
        refine fu_bind (fu_cVJ rfl rfl rfl rfl rfl (fu_recv fc_48 am_at_X6_takeRest rfl) (e_X6_takeRest d (by omega) r24 r1)) (fun r25 => ?_)
        show fu_J _ _ (fc_X d (some .boolean) k_X6_takeStep 135 [.ref 48, .int r1, am_U] [.int (fu_b r25.1)] r25.2)
        exact fu_bret (b := r25.1) rfl rfl
    · refine fu_go 1 (pc' := 37) (ls' := [.ref 48, .int r1, am_U]) (st' := [.ref 48]) (s' := s) rfl ?_
      refine fu_step (fu_getR rfl fc_48 rfl rfl) ?_
      refine fu_go 1 (pc' := 42) (ls' := [.ref 48, .int r1, am_U]) (st' := [.int (6 : Int32), .ref 5]) (s' := s) rfl ?_
      refine fu_bind (fu_cVJ rfl rfl rfl rfl rfl (fu_recv fc_5 am_at_X8_refuse rfl) (e_X8_refuse d (by omega) s (6 : Int32))) (fun r26 => ?_)
      show fu_J _ _ (fc_X d (some .boolean) k_X6_takeStep 45 [.ref 48, .int r1, am_U] [.int (fu_b r26.1)] r26.2)
      exact fu_bret (b := r26.1) rfl rfl
  · refine fu_go 1 (pc' := 16) (ls' := [.ref 48, .int r1, am_U]) (st' := [.ref 48]) (s' := s) rfl ?_
    refine fu_step (fu_getR rfl fc_48 rfl rfl) ?_
    refine fu_go 1 (pc' := 20) (ls' := [.ref 48, .int r1, am_U]) (st' := [.int (2 : Int32), .ref 5]) (s' := s) rfl ?_
    refine fu_bind (fu_cVJ rfl rfl rfl rfl rfl (fu_recv fc_5 am_at_X8_refuse rfl) (e_X8_refuse d (by omega) s (2 : Int32))) (fun r27 => ?_)
    show fu_J _ _ (fc_X d (some .boolean) k_X6_takeStep 23 [.ref 48, .int r1, am_U] [.int (fu_b r27.1)] r27.2)
    exact fu_bret (b := r27.1) rfl rfl
/-! X6_takeAll -/
theorem el_X6_takeAll_14 (d : Nat) (hd : 6 ≤ d) : ∀ (n : Nat) (s : fu_S) (x1 : Int32), fu_J (l_X6_takeAll_14 n s x1) (fun u => Sum.elim (fun r => some (some (.int (fu_b r.1)), r.2)) (fun r => fc_X d (some .boolean) k_X6_takeAll 79 [.ref 48, am_U, am_U] [] r) u) (fc_X d (some .boolean) k_X6_takeAll 14 [.ref 48, .int x1, am_U] [] s) := by
  intro n
  induction n with
  | zero => intros; exact fu_none
  | succ n ih =>
    intro s x1
    rw [l_X6_takeAll_14]
    refine fu_go 2 (pc' := 18) (ls' := [.ref 48, .int x1, am_U]) (st' := [.int (900 : Int32), .int x1]) (s' := s) rfl ?_
    refine fu_ite (fun h3 => fu_step (fu_ic_ge_t rfl h3) ?_) (fun h3 => fu_step (fu_ic_ge_f rfl h3) ?_)
    · refine fu_go 1 (pc' := 22) (ls' := [.ref 48, .int x1, am_U]) (st' := [.ref 48]) (s' := s) rfl ?_
      refine fu_step (fu_getR rfl fc_48 rfl rfl) ?_
      refine fu_bind (fu_cVJ rfl rfl rfl rfl rfl (fu_recv fc_5 am_at_X8_isAtEnd rfl) (e_X8_isAtEnd d (by omega) s)) (fun r4 => ?_)
      show fu_J _ _ (fc_X d (some .boolean) k_X6_takeAll 28 [.ref 48, .int x1, am_U] [.int (fu_b r4)] s)
      refine fu_ite (fun h5 => fu_step (fu_ib_ne_t rfl h5) ?_) (fun h5 => fu_step (fu_ib_ne_f rfl h5) ?_)
      · exact fu_leaf rfl ⟨.inr rfl, .inl rfl, .inl rfl, trivial⟩
      · refine fu_go 1 (pc' := 32) (ls' := [.ref 48, .int x1, am_U]) (st' := [.ref 48]) (s' := s) rfl ?_
        refine fu_step (fu_getR rfl fc_48 rfl rfl) ?_
        refine fu_bind (fu_cVJ rfl rfl rfl rfl rfl (fu_recv fc_5 am_at_X8_sortHere rfl) (e_X8_sortHere d (by omega) s)) (fun r6 => ?_)
        show fu_J _ _ (fc_X d (some .boolean) k_X6_takeAll 38 [.ref 48, .int x1, am_U] [.int r6] s)
        refine fu_go 1 (pc' := 40) (ls' := [.ref 48, .int x1, am_U]) (st' := [.int (120 : Int32), .int r6]) (s' := s) rfl ?_
        refine fu_bind (V := fun j7 : Bool × fu_S => fc_X d (some .boolean) k_X6_takeAll 54 [.ref 48, .int x1, am_U] [.int (fu_b j7.1)] j7.2) ?_ (fun j7 => ?_)
        · refine fu_ite (fun h8 => fu_step (fu_ic_ne_t rfl h8) ?_) (fun h8 => fu_step (fu_ic_ne_f rfl h8) ?_)
          · refine fu_go 1 (pc' := 44) (ls' := [.ref 48, .int x1, am_U]) (st' := [.ref 48]) (s' := s) rfl ?_
            refine fu_bind (fu_cVJ rfl rfl rfl rfl rfl (fu_recv fc_48 am_at_X6_takeEnd rfl) (e_X6_takeEnd d (by omega) s)) (fun r9 => ?_)
            show fu_J _ _ (fc_X d (some .boolean) k_X6_takeAll 47 [.ref 48, .int x1, am_U] [.int (fu_b r9.1)] r9.2)
            refine fu_go 1 (pc' := 54) (ls' := [.ref 48, .int x1, am_U]) (st' := [.int (fu_b r9.1)]) (s' := r9.2) rfl ?_
            exact fu_leaf rfl ⟨.inr rfl, .inr rfl, .inl rfl, trivial⟩
          · refine fu_go 1 (pc' := 51) (ls' := [.ref 48, .int x1, am_U]) (st' := [.ref 48]) (s' := s) rfl ?_
            refine fu_bind (fu_cVJ rfl rfl rfl rfl rfl (fu_recv fc_48 am_at_X6_takeStep rfl) (e_X6_takeStep d (by omega) s)) (fun r10 => ?_)
            show fu_J _ _ (fc_X d (some .boolean) k_X6_takeAll 54 [.ref 48, .int x1, am_U] [.int (fu_b r10.1)] r10.2)
            exact fu_leaf rfl ⟨.inr rfl, .inr rfl, .inl rfl, trivial⟩
        show fu_J _ _ (fc_X d (some .boolean) k_X6_takeAll 54 [.ref 48, .int x1, am_U] [.int (fu_b j7.1)] j7.2)
        refine fu_go 2 (pc' := 56) (ls' := [.ref 48, .int x1, .int (fu_b j7.1)]) (st' := [.int (fu_b j7.1)]) (s' := j7.2) rfl ?_
        refine fu_ite (fun h11 => fu_step (fu_ib_eq_t rfl h11) ?_) (fun h11 => fu_step (fu_ib_eq_f rfl h11) ?_)
        · refine fu_go 1 (pc' := 60) (ls' := [.ref 48, .int x1, .int (fu_b j7.1)]) (st' := [.ref 48]) (s' := j7.2) rfl ?_
          refine fu_step (fu_getR rfl fc_48 rfl rfl) ?_
          refine fu_go 1 (pc' := 65) (ls' := [.ref 48, .int x1, .int (fu_b j7.1)]) (st' := [.int (59 : Int32), .ref 5]) (s' := j7.2) rfl ?_
          refine fu_bind (fu_cVJ rfl rfl rfl rfl rfl (fu_recv fc_5 am_at_X8_take rfl) (e_X8_take d (by omega) j7.2 (59 : Int32))) (fun r12 => ?_)
          show fu_J _ _ (fc_X d (some .boolean) k_X6_takeAll 68 [.ref 48, .int x1, .int (fu_b j7.1)] [.int (fu_b r12.1)] r12.2)
          refine fu_ite (fun h13 => fu_step (fu_ib_ne_t rfl h13) ?_) (fun h13 => fu_step (fu_ib_ne_f rfl h13) ?_)
          · refine fu_go 2 (pc' := 14) (ls' := [.ref 48, .int (x1 + (1 : Int32)), .int (fu_b j7.1)]) (st' := []) (s' := r12.2) rfl ?_
            exact fu_drop (ls' := [.ref 48, .int (x1 + (1 : Int32)), am_U]) ⟨.inr rfl, .inr rfl, .inl rfl, trivial⟩ (ih r12.2 (x1 + (1 : Int32)))
          · refine fu_go 1 (pc' := 72) (ls' := [.ref 48, .int x1, .int (fu_b j7.1)]) (st' := [.int (0 : Int32)]) (s' := r12.2) rfl ?_
            exact fu_bret (b := false) rfl rfl
        · refine fu_go 1 (pc' := 72) (ls' := [.ref 48, .int x1, .int (fu_b j7.1)]) (st' := [.int (0 : Int32)]) (s' := j7.2) rfl ?_
          exact fu_bret (b := false) rfl rfl
    · exact fu_leaf rfl ⟨.inr rfl, .inl rfl, .inl rfl, trivial⟩
set_option maxRecDepth 100000 in
theorem e_X6_takeAll (d : Nat) (hd : 7 ≤ d) (s : fu_S) : fu_J (f_X6_takeAll s) (fun r => some (some (.int (fu_b r.1)), r.2)) (am_D (fu_ho fc_sh) am_m d 118 [.ref 48] s) := by
  obtain ⟨d, rfl⟩ : ∃ e, d = e + 1 := ⟨d - 1, by omega⟩
  refine fu_enter (ls := [.ref 48, am_U, am_U]) am_at_X6_takeAll rfl rfl ?_
  show fu_J _ _ (fc_X d (some .boolean) k_X6_takeAll 0 [.ref 48, am_U, am_U] [] s)
  unfold f_X6_takeAll
  refine fu_go 2 (pc' := 2) (ls' := [.ref 48, am_U, am_U]) (st' := [.int (0 : Int32), .ref 48]) (s' := s) rfl ?_
  refine fu_lets (b := (fu_pi s 48 4 (0 : Int32))) (fu_putI rfl fc_48 rfl rfl) (fun s1 => ?_)
  refine fu_go 1 (pc' := 6) (ls' := [.ref 48, am_U, am_U]) (st' := [.ref 48]) (s' := s1) rfl ?_
  refine fu_step (fu_getR rfl fc_48 rfl rfl) ?_
  refine fu_let (fu_cVJ rfl rfl rfl rfl rfl (fu_recv fc_42 am_at_X5_begin rfl) (e_X5_begin d (by omega) s1 42 fc_is4_42)) (fun r2 => ?_)
  show fu_J _ _ (fc_X d (some .boolean) k_X6_takeAll 12 [.ref 48, am_U, am_U] [] r2)
  refine fu_go 2 (pc' := 14) (ls' := [.ref 48, .int (0 : Int32), am_U]) (st' := []) (s' := r2) rfl ?_
  refine fu_drop (ls' := [.ref 48, .int (0 : Int32), am_U]) ⟨.inr rfl, .inr rfl, .inl rfl, trivial⟩ ?_
  refine fu_bind (el_X6_takeAll_14 d (by omega) fu_N r2 (0 : Int32)) (fun u => fu_sum (fun a => ?_) (fun r14 => ?_))
  · exact fu_ret rfl
  show fu_J _ _ (fc_X d (some .boolean) k_X6_takeAll 79 [.ref 48, am_U, am_U] [] r14)
  refine fu_go 1 (pc' := 80) (ls' := [.ref 48, am_U, am_U]) (st' := [.ref 48]) (s' := r14) rfl ?_
  refine fu_step (fu_getI rfl fc_48 rfl rfl) ?_
  refine fu_bind (V := fun j15 : Bool × fu_S => fc_X d (some .boolean) k_X6_takeAll 102 [am_U, am_U, am_U] [.int (fu_b j15.1)] j15.2) ?_ (fun j15 => ?_)
  · refine fu_ite (fun h16 => fu_step (fu_if_eq_t rfl h16) ?_) (fun h16 => fu_step (fu_if_eq_f rfl h16) ?_)
    · refine fu_go 2 (pc' := 102) (ls' := [.ref 48, am_U, am_U]) (st' := [.int (1 : Int32)]) (s' := r14) rfl ?_
      exact fu_leaf rfl ⟨.inl rfl, .inl rfl, .inl rfl, trivial⟩
    · refine fu_go 1 (pc' := 87) (ls' := [.ref 48, am_U, am_U]) (st' := [.ref 48]) (s' := r14) rfl ?_
      refine fu_step (fu_getR rfl fc_48 rfl rfl) ?_
      refine fu_go 1 (pc' := 91) (ls' := [.ref 48, am_U, am_U]) (st' := [.int (2 : Int32), .ref 5]) (s' := r14) rfl ?_
      refine fu_bind (fu_cVJ rfl rfl rfl rfl rfl (fu_recv fc_5 am_at_X8_refuse rfl) (e_X8_refuse d (by omega) r14 (2 : Int32))) (fun r17 => ?_)
      show fu_J _ _ (fc_X d (some .boolean) k_X6_takeAll 94 [.ref 48, am_U, am_U] [.int (fu_b r17.1)] r17.2)
      refine fu_ite (fun h18 => fu_step (fu_ib_eq_t rfl h18) ?_) (fun h18 => fu_step (fu_ib_eq_f rfl h18) ?_)
      · refine fu_go 2 (pc' := 102) (ls' := [.ref 48, am_U, am_U]) (st' := [.int (1 : Int32)]) (s' := r17.2) rfl ?_
        exact fu_leaf rfl ⟨.inl rfl, .inl rfl, .inl rfl, trivial⟩
      · refine fu_go 1 (pc' := 102) (ls' := [.ref 48, am_U, am_U]) (st' := [.int (0 : Int32)]) (s' := r17.2) rfl ?_
        exact fu_leaf rfl ⟨.inl rfl, .inl rfl, .inl rfl, trivial⟩
  show fu_J _ _ (fc_X d (some .boolean) k_X6_takeAll 102 [am_U, am_U, am_U] [.int (fu_b j15.1)] j15.2)
  exact fu_bret (b := j15.1) rfl rfl
/-! X7_isSort -/
set_option maxRecDepth 100000 in
theorem e_X7_isSort (d : Nat) (hd : 1 ≤ d) (s : fu_S) (a1 : Int32) : fu_J (some (f_X7_isSort a1)) (fun r => some (some (.int (fu_b r)), s)) (am_D (fu_ho fc_sh) am_m d 128 [.ref 1, .int a1] s) := by
  obtain ⟨d, rfl⟩ : ∃ e, d = e + 1 := ⟨d - 1, by omega⟩
  refine fu_enter (ls := [.ref 1, .int a1]) am_at_X7_isSort rfl rfl ?_
  show fu_J _ _ (fc_X d (some .boolean) k_X7_isSort 0 [.ref 1, .int a1] [] s)
  unfold f_X7_isSort
  refine fu_go 1 (pc' := 1) (ls' := [.ref 1, .int a1]) (st' := [.int a1]) (s' := s) rfl ?_
  refine fu_letS (V := fun j1 : Bool => fc_X d (some .boolean) k_X7_isSort 14 [am_U, am_U] [.int (fu_b j1)] s) ?_ (fun j1 => ?_)
  · refine fu_iteS (fun h2 => fu_step (fu_if_lt_t rfl h2) ?_) (fun h2 => fu_step (fu_if_lt_f rfl h2) ?_)
    · refine fu_go 1 (pc' := 14) (ls' := [.ref 1, .int a1]) (st' := [.int (0 : Int32)]) (s' := s) rfl ?_
      exact fu_leaf rfl ⟨.inl rfl, .inl rfl, trivial⟩
    · refine fu_go 2 (pc' := 6) (ls' := [.ref 1, .int a1]) (st' := [.int (4 : Int32), .int a1]) (s' := s) rfl ?_
      refine fu_iteS (fun h3 => fu_step (fu_ic_ge_t rfl h3) ?_) (fun h3 => fu_step (fu_ic_ge_f rfl h3) ?_)
      · refine fu_go 2 (pc' := 14) (ls' := [.ref 1, .int a1]) (st' := [.int (1 : Int32)]) (s' := s) rfl ?_
        exact fu_leaf rfl ⟨.inl rfl, .inl rfl, trivial⟩
      · refine fu_go 1 (pc' := 14) (ls' := [.ref 1, .int a1]) (st' := [.int (0 : Int32)]) (s' := s) rfl ?_
        exact fu_leaf rfl ⟨.inl rfl, .inl rfl, trivial⟩
  show fu_J _ _ (fc_X d (some .boolean) k_X7_isSort 14 [am_U, am_U] [.int (fu_b j1)] s)
  exact fu_bret (b := j1) rfl rfl
/-! X7_lengthOf -/
set_option maxRecDepth 100000 in
theorem e_X7_lengthOf (d : Nat) (hd : 3 ≤ d) (s : fu_S) (a1 : Int32) : fu_J (f_X7_lengthOf s a1) (fun r => some (some (.int r), s)) (am_D (fu_ho fc_sh) am_m d 130 [.ref 1, .int a1] s) := by
  obtain ⟨d, rfl⟩ : ∃ e, d = e + 1 := ⟨d - 1, by omega⟩
  refine fu_enter (ls := [.ref 1, .int a1]) am_at_X7_lengthOf rfl rfl ?_
  show fu_J _ _ (fc_X d (some .int) k_X7_lengthOf 0 [.ref 1, .int a1] [] s)
  unfold f_X7_lengthOf
  refine fu_go 2 (pc' := 2) (ls' := [.ref 1, .int a1]) (st' := [.int a1, .ref 1]) (s' := s) rfl ?_
  refine fu_bind (fu_cVJ rfl rfl rfl rfl rfl (fu_recv fc_1 am_at_X7_isThere rfl) (e_X7_isThere d (by omega) s a1)) (fun r1 => ?_)
  show fu_J _ _ (fc_X d (some .int) k_X7_lengthOf 5 [.ref 1, .int a1] [.int (fu_b r1)] s)
  refine fu_bind (V := fun j2 : Int32 => fc_X d (some .int) k_X7_lengthOf 18 [am_U, am_U] [.int j2] s) ?_ (fun j2 => ?_)
  · refine fu_ite (fun h3 => fu_step (fu_ib_eq_t rfl h3) ?_) (fun h3 => fu_step (fu_ib_eq_f rfl h3) ?_)
    · refine fu_go 1 (pc' := 9) (ls' := [.ref 1, .int a1]) (st' := [.ref 1]) (s' := s) rfl ?_
      refine fu_step (fu_getR rfl fc_1 rfl rfl) ?_
      refine fu_go 1 (pc' := 13) (ls' := [.ref 1, .int a1]) (st' := [.int a1, .ref 4]) (s' := s) rfl ?_
      refine fu_guard (fun h4 => fu_step (fu_ldI rfl fc_4 h4) ?_)
      refine fu_go 1 (pc' := 18) (ls' := [.ref 1, .int a1]) (st' := [.int (s.1 4 (Int32.toNatClampNeg a1))]) (s' := s) rfl ?_
      exact fu_leaf rfl ⟨.inl rfl, .inl rfl, trivial⟩
    · refine fu_go 1 (pc' := 18) (ls' := [.ref 1, .int a1]) (st' := [.int (0 : Int32)]) (s' := s) rfl ?_
      exact fu_leaf rfl ⟨.inl rfl, .inl rfl, trivial⟩
  show fu_J _ _ (fc_X d (some .int) k_X7_lengthOf 18 [am_U, am_U] [.int j2] s)
  exact fu_iret rfl rfl
/-! X7_sortOf -/
set_option maxRecDepth 100000 in
theorem e_X7_sortOf (d : Nat) (hd : 3 ≤ d) (s : fu_S) (a1 : Int32) : fu_J (f_X7_sortOf s a1) (fun r => some (some (.int r), s)) (am_D (fu_ho fc_sh) am_m d 131 [.ref 1, .int a1] s) := by
  obtain ⟨d, rfl⟩ : ∃ e, d = e + 1 := ⟨d - 1, by omega⟩
  refine fu_enter (ls := [.ref 1, .int a1]) am_at_X7_sortOf rfl rfl ?_
  show fu_J _ _ (fc_X d (some .int) k_X7_sortOf 0 [.ref 1, .int a1] [] s)
  unfold f_X7_sortOf
  refine fu_go 2 (pc' := 2) (ls' := [.ref 1, .int a1]) (st' := [.int a1, .ref 1]) (s' := s) rfl ?_
  refine fu_bind (fu_cVJ rfl rfl rfl rfl rfl (fu_recv fc_1 am_at_X7_isThere rfl) (e_X7_isThere d (by omega) s a1)) (fun r1 => ?_)
  show fu_J _ _ (fc_X d (some .int) k_X7_sortOf 5 [.ref 1, .int a1] [.int (fu_b r1)] s)
  refine fu_bind (V := fun j2 : Int32 => fc_X d (some .int) k_X7_sortOf 18 [am_U, am_U] [.int j2] s) ?_ (fun j2 => ?_)
  · refine fu_ite (fun h3 => fu_step (fu_ib_eq_t rfl h3) ?_) (fun h3 => fu_step (fu_ib_eq_f rfl h3) ?_)
    · refine fu_go 1 (pc' := 9) (ls' := [.ref 1, .int a1]) (st' := [.ref 1]) (s' := s) rfl ?_
      refine fu_step (fu_getR rfl fc_1 rfl rfl) ?_
      refine fu_go 1 (pc' := 13) (ls' := [.ref 1, .int a1]) (st' := [.int a1, .ref 3]) (s' := s) rfl ?_
      refine fu_guard (fun h4 => fu_step (fu_ldI rfl fc_3 h4) ?_)
      refine fu_go 1 (pc' := 18) (ls' := [.ref 1, .int a1]) (st' := [.int (s.1 3 (Int32.toNatClampNeg a1))]) (s' := s) rfl ?_
      exact fu_leaf rfl ⟨.inl rfl, .inl rfl, trivial⟩
    · refine fu_go 1 (pc' := 18) (ls' := [.ref 1, .int a1]) (st' := [.int (-1 : Int32)]) (s' := s) rfl ?_
      exact fu_leaf rfl ⟨.inl rfl, .inl rfl, trivial⟩
  show fu_J _ _ (fc_X d (some .int) k_X7_sortOf 18 [am_U, am_U] [.int j2] s)
  exact fu_iret rfl rfl
/-! X7_make -/
theorem el_X7_make_44 (d : Nat) (hd : 0 ≤ d) : ∀ (n : Nat) (s : fu_S) (x1 : Int32) (x4 : Int32), fu_J (l_X7_make_44 n s x1 x4) (fun r => fc_X d none k_X7_make 70 [am_U, am_U, am_U, am_U, am_U] [] r) (fc_X d none k_X7_make 44 [.ref 1, .int x1, am_U, am_U, .int x4] [] s) := by
  intro n
  induction n with
  | zero => intros; exact fu_none
  | succ n ih =>
    intro s x1 x4
    rw [l_X7_make_44]
    refine fu_go 2 (pc' := 48) (ls' := [.ref 1, .int x1, am_U, am_U, .int x4]) (st' := [.int (60 : Int32), .int x4]) (s' := s) rfl ?_
    refine fu_ite (fun h9 => fu_step (fu_ic_ge_t rfl h9) ?_) (fun h9 => fu_step (fu_ic_ge_f rfl h9) ?_)
    · refine fu_go 1 (pc' := 52) (ls' := [.ref 1, .int x1, am_U, am_U, .int x4]) (st' := [.ref 1]) (s' := s) rfl ?_
      refine fu_step (fu_getR rfl fc_1 rfl rfl) ?_
      refine fu_go 6 (pc' := 63) (ls' := [.ref 1, .int x1, am_U, am_U, .int x4]) (st' := [.long (0 : Int64), .int ((x1 * (60 : Int32)) + x4), .ref 2]) (s' := s) rfl ?_
      refine fu_guard (fun h11 => fu_lets (b := (fu_pl s 2 (Int32.toNatClampNeg ((x1 * (60 : Int32)) + x4)) (0 : Int64))) (fu_stL rfl fc_2 h11) (fun s10 => ?_))
      refine fu_go 2 (pc' := 44) (ls' := [.ref 1, .int x1, am_U, am_U, .int (x4 + (1 : Int32))]) (st' := []) (s' := s10) rfl ?_
      exact fu_drop (ls' := [.ref 1, .int x1, am_U, am_U, .int (x4 + (1 : Int32))]) ⟨.inr rfl, .inr rfl, .inl rfl, .inl rfl, .inr rfl, trivial⟩ (ih s10 x1 (x4 + (1 : Int32)))
    · exact fu_leaf rfl ⟨.inl rfl, .inl rfl, .inl rfl, .inl rfl, .inl rfl, trivial⟩
set_option maxRecDepth 100000 in
theorem e_X7_make (d : Nat) (hd : 2 ≤ d) (s : fu_S) (a1 : Int32) (a2 : Int32) (a3 : Int32) : fu_J (f_X7_make s a1 a2 a3) (fun r => some (none, r)) (am_D (fu_ho fc_sh) am_m d 133 [.ref 1, .int a1, .int a2, .int a3] s) := by
  obtain ⟨d, rfl⟩ : ∃ e, d = e + 1 := ⟨d - 1, by omega⟩
  refine fu_enter (ls := [.ref 1, .int a1, .int a2, .int a3, am_U]) am_at_X7_make rfl rfl ?_
  show fu_J _ _ (fc_X d none k_X7_make 0 [.ref 1, .int a1, .int a2, .int a3, am_U] [] s)
  unfold f_X7_make
  refine fu_go 2 (pc' := 2) (ls' := [.ref 1, .int a1, .int a2, .int a3, am_U]) (st' := [.int a1, .ref 1]) (s' := s) rfl ?_
  refine fu_step (fu_cV rfl rfl rfl rfl rfl (fu_recv fc_1 am_at_X7_isTray rfl) (fu_eq (e_X7_isTray d (by omega) s a1) rfl)) ?_
  show fu_J _ _ (fc_X d none k_X7_make 5 [.ref 1, .int a1, .int a2, .int a3, am_U] [.int (fu_b (f_X7_isTray a1))] s)
  refine fu_ite (fun h1 => fu_step (fu_ib_eq_t rfl h1) ?_) (fun h1 => fu_step (fu_ib_eq_f rfl h1) ?_)
  · refine fu_go 2 (pc' := 10) (ls' := [.ref 1, .int a1, .int a2, .int a3, am_U]) (st' := [.int a2, .ref 1]) (s' := s) rfl ?_
    refine fu_step (fu_cV rfl rfl rfl rfl rfl (fu_recv fc_1 am_at_X7_isSort rfl) (fu_eq (e_X7_isSort d (by omega) s a2) rfl)) ?_
    show fu_J _ _ (fc_X d none k_X7_make 13 [.ref 1, .int a1, .int a2, .int a3, am_U] [.int (fu_b (f_X7_isSort a2))] s)
    refine fu_ite (fun h2 => fu_step (fu_ib_eq_t rfl h2) ?_) (fun h2 => fu_step (fu_ib_eq_f rfl h2) ?_)
    · refine fu_go 1 (pc' := 17) (ls' := [.ref 1, .int a1, .int a2, .int a3, am_U]) (st' := [.int a3]) (s' := s) rfl ?_
      refine fu_ite (fun h3 => fu_step (fu_if_lt_t rfl h3) ?_) (fun h3 => fu_step (fu_if_lt_f rfl h3) ?_)
      · exact fu_vret rfl rfl
      · refine fu_go 2 (pc' := 23) (ls' := [.ref 1, .int a1, .int a2, .int a3, am_U]) (st' := [.int (60 : Int32), .int a3]) (s' := s) rfl ?_
        refine fu_ite (fun h4 => fu_step (fu_ic_le_t rfl h4) ?_) (fun h4 => fu_step (fu_ic_le_f rfl h4) ?_)
        · refine fu_go 1 (pc' := 28) (ls' := [.ref 1, .int a1, .int a2, .int a3, am_U]) (st' := [.ref 1]) (s' := s) rfl ?_
          refine fu_step (fu_getR rfl fc_1 rfl rfl) ?_
          refine fu_go 2 (pc' := 33) (ls' := [.ref 1, .int a1, .int a2, .int a3, am_U]) (st' := [.int a2, .int a1, .ref 3]) (s' := s) rfl ?_
          refine fu_guard (fun h6 => fu_lets (b := (fu_pi s 3 (Int32.toNatClampNeg a1) a2)) (fu_stI rfl fc_3 h6) (fun s5 => ?_))
          refine fu_go 1 (pc' := 35) (ls' := [.ref 1, .int a1, .int a2, .int a3, am_U]) (st' := [.ref 1]) (s' := s5) rfl ?_
          refine fu_step (fu_getR rfl fc_1 rfl rfl) ?_
          refine fu_go 2 (pc' := 40) (ls' := [.ref 1, .int a1, .int a2, .int a3, am_U]) (st' := [.int a3, .int a1, .ref 4]) (s' := s5) rfl ?_
          refine fu_guard (fun h8 => fu_lets (b := (fu_pi s5 4 (Int32.toNatClampNeg a1) a3)) (fu_stI rfl fc_4 h8) (fun s7 => ?_))
          refine fu_go 2 (pc' := 44) (ls' := [.ref 1, .int a1, .int a2, .int a3, .int (0 : Int32)]) (st' := []) (s' := s7) rfl ?_
          refine fu_drop (ls' := [.ref 1, .int a1, am_U, am_U, .int (0 : Int32)]) ⟨.inr rfl, .inr rfl, .inl rfl, .inl rfl, .inr rfl, trivial⟩ ?_
          refine fu_bind (el_X7_make_44 d (by omega) fu_N s7 a1 (0 : Int32)) (fun r12 => ?_)
          show fu_J _ _ (fc_X d none k_X7_make 70 [am_U, am_U, am_U, am_U, am_U] [] r12)
          exact fu_vret rfl rfl
        · exact fu_vret rfl rfl
    · exact fu_vret rfl rfl
  · exact fu_vret rfl rfl
/-! X7_cut -/
set_option maxRecDepth 100000 in
theorem e_X7_cut (d : Nat) (hd : 1 ≤ d) (s : fu_S) (a1 : Int32) (a2 : Int64) : fu_J (some (f_X7_cut a1 a2)) (fun r => some (some (.long r), s)) (am_D (fu_ho fc_sh) am_m d 136 [.ref 1, .int a1, .long a2] s) := by
  obtain ⟨d, rfl⟩ : ∃ e, d = e + 1 := ⟨d - 1, by omega⟩
  refine fu_enter (ls := [.ref 1, .int a1, .long a2, am_U]) am_at_X7_cut rfl rfl ?_
  show fu_J _ _ (fc_X d (some .long) k_X7_cut 0 [.ref 1, .int a1, .long a2, am_U] [] s)
  unfold f_X7_cut
  refine fu_go 1 (pc' := 1) (ls' := [.ref 1, .int a1, .long a2, am_U]) (st' := [.int a1]) (s' := s) rfl ?_
  refine fu_iteS (fun h1 => fu_step (fu_tsw_at (t := 28) rfl h1 (by decide)) ?_) (fun h1 => ?_)
  · refine fu_go 4 (pc' := 32) (ls' := [.ref 1, .int a1, .long a2, am_U]) (st' := [.long (Int32.toInt64 (Int8.toInt32 (Int32.toInt8 (Int64.toInt32 a2))))]) (s' := s) rfl ?_
    exact fu_lret rfl rfl
  refine fu_iteS (fun h2 => fu_step (fu_tsw_at (t := 33) rfl h2 (by decide)) ?_) (fun h2 => ?_)
  · refine fu_go 4 (pc' := 37) (ls' := [.ref 1, .int a1, .long a2, am_U]) (st' := [.long (Int32.toInt64 (Int16.toInt32 (Int32.toInt16 (Int64.toInt32 a2))))]) (s' := s) rfl ?_
    exact fu_lret rfl rfl
  refine fu_iteS (fun h3 => fu_step (fu_tsw_at (t := 38) rfl h3 (by decide)) ?_) (fun h3 => ?_)
  · refine fu_go 3 (pc' := 41) (ls' := [.ref 1, .int a1, .long a2, am_U]) (st' := [.long (Int32.toInt64 (Int64.toInt32 a2))]) (s' := s) rfl ?_
    exact fu_lret rfl rfl
  refine fu_step (fu_tsw_d (t := 42) [0, 1, 2] rfl (by decide) (fu_allc (fu_ne h1 (by decide)) (fu_allc (fu_ne h2 (by decide)) (fu_allc (fu_ne h3 (by decide)) fu_all))) (by decide)) ?_
  refine fu_go 1 (pc' := 43) (ls' := [.ref 1, .int a1, .long a2, am_U]) (st' := [.long a2]) (s' := s) rfl ?_
  exact fu_lret rfl rfl
/-! X7_put -/
set_option maxRecDepth 100000 in
theorem e_X7_put (d : Nat) (hd : 4 ≤ d) (s : fu_S) (a1 : Int32) (a2 : Int32) (a3 : Int64) : fu_J (f_X7_put s a1 a2 a3) (fun r => some (none, r)) (am_D (fu_ho fc_sh) am_m d 135 [.ref 1, .int a1, .int a2, .long a3] s) := by
  obtain ⟨d, rfl⟩ : ∃ e, d = e + 1 := ⟨d - 1, by omega⟩
  refine fu_enter (ls := [.ref 1, .int a1, .int a2, .long a3, am_U]) am_at_X7_put rfl rfl ?_
  show fu_J _ _ (fc_X d none k_X7_put 0 [.ref 1, .int a1, .int a2, .long a3, am_U] [] s)
  unfold f_X7_put
  refine fu_go 4 (pc' := 4) (ls' := [.ref 1, .int a1, .int a2, .long a3, am_U]) (st' := [.int (1 : Int32), .int a2, .int a1, .ref 1]) (s' := s) rfl ?_
  refine fu_bind (fu_cVJ rfl rfl rfl rfl rfl (fu_recv fc_1 am_at_X7_hasPlaces rfl) (e_X7_hasPlaces d (by omega) s a1 a2 (1 : Int32))) (fun r1 => ?_)
  show fu_J _ _ (fc_X d none k_X7_put 7 [.ref 1, .int a1, .int a2, .long a3, am_U] [.int (fu_b r1)] s)
  refine fu_bind (V := fun j2 : fu_S => fc_X d none k_X7_put 32 [am_U, am_U, am_U, am_U, am_U] [] j2) ?_ (fun j2 => ?_)
  · refine fu_ite (fun h3 => fu_step (fu_ib_eq_t rfl h3) ?_) (fun h3 => fu_step (fu_ib_eq_f rfl h3) ?_)
    · refine fu_go 1 (pc' := 11) (ls' := [.ref 1, .int a1, .int a2, .long a3, am_U]) (st' := [.ref 1]) (s' := s) rfl ?_
      refine fu_step (fu_getR rfl fc_1 rfl rfl) ?_
      refine fu_go 7 (pc' := 22) (ls' := [.ref 1, .int a1, .int a2, .long a3, am_U]) (st' := [.ref 1, .ref 1, .int ((a1 * (60 : Int32)) + a2), .ref 2]) (s' := s) rfl ?_
      refine fu_step (fu_getR rfl fc_1 rfl rfl) ?_
      refine fu_go 1 (pc' := 26) (ls' := [.ref 1, .int a1, .int a2, .long a3, am_U]) (st' := [.int a1, .ref 3, .ref 1, .int ((a1 * (60 : Int32)) + a2), .ref 2]) (s' := s) rfl ?_
      refine fu_guard (fun h4 => fu_step (fu_ldI rfl fc_3 h4) ?_)
      refine fu_go 1 (pc' := 28) (ls' := [.ref 1, .int a1, .int a2, .long a3, am_U]) (st' := [.long a3, .int (s.1 3 (Int32.toNatClampNeg a1)), .ref 1, .int ((a1 * (60 : Int32)) + a2), .ref 2]) (s' := s) rfl ?_
      refine fu_step (fu_cV rfl rfl rfl rfl rfl (fu_recv fc_1 am_at_X7_cut rfl) (fu_eq (e_X7_cut d (by omega) s (s.1 3 (Int32.toNatClampNeg a1)) a3) rfl)) ?_
      show fu_J _ _ (fc_X d none k_X7_put 31 [.ref 1, .int a1, .int a2, .long a3, am_U] [.long (f_X7_cut (s.1 3 (Int32.toNatClampNeg a1)) a3), .int ((a1 * (60 : Int32)) + a2), .ref 2] s)
      refine fu_guard (fun h6 => fu_lets (b := (fu_pl s 2 (Int32.toNatClampNeg ((a1 * (60 : Int32)) + a2)) (f_X7_cut (s.1 3 (Int32.toNatClampNeg a1)) a3))) (fu_stL rfl fc_2 h6) (fun s5 => ?_))
      exact fu_leaf rfl ⟨.inl rfl, .inl rfl, .inl rfl, .inl rfl, .inl rfl, trivial⟩
    · exact fu_leaf rfl ⟨.inl rfl, .inl rfl, .inl rfl, .inl rfl, .inl rfl, trivial⟩
  show fu_J _ _ (fc_X d none k_X7_put 32 [am_U, am_U, am_U, am_U, am_U] [] j2)
  exact fu_vret rfl rfl
/-! X7_transfer -/
set_option maxRecDepth 100000 in
theorem e_X7_transfer (d : Nat) (hd : 4 ≤ d) (s : fu_S) (a1 : Int32) (a2 : Int32) (a3 : Int32) (a4 : Int32) (a5 : Int32) : fu_J (f_X7_transfer s a1 a2 a3 a4 a5) (fun r => some (none, r)) (am_D (fu_ho fc_sh) am_m d 137 [.ref 1, .int a1, .int a2, .int a3, .int a4, .int a5] s) := by
  obtain ⟨d, rfl⟩ : ∃ e, d = e + 1 := ⟨d - 1, by omega⟩
  refine fu_enter (ls := [.ref 1, .int a1, .int a2, .int a3, .int a4, .int a5]) am_at_X7_transfer rfl rfl ?_
  show fu_J _ _ (fc_X d none k_X7_transfer 0 [.ref 1, .int a1, .int a2, .int a3, .int a4, .int a5] [] s)
  unfold f_X7_transfer
  refine fu_go 4 (pc' := 5) (ls' := [.ref 1, .int a1, .int a2, .int a3, .int a4, .int a5]) (st' := [.int a5, .int a2, .int a1, .ref 1]) (s' := s) rfl ?_
  refine fu_bind (fu_cVJ rfl rfl rfl rfl rfl (fu_recv fc_1 am_at_X7_hasPlaces rfl) (e_X7_hasPlaces d (by omega) s a1 a2 a5)) (fun r1 => ?_)
  show fu_J _ _ (fc_X d none k_X7_transfer 8 [.ref 1, .int a1, .int a2, .int a3, .int a4, .int a5] [.int (fu_b r1)] s)
  refine fu_bind (V := fun j2 : fu_S => fc_X d none k_X7_transfer 49 [am_U, am_U, am_U, am_U, am_U, am_U] [] j2) ?_ (fun j2 => ?_)
  · refine fu_ite (fun h3 => fu_step (fu_ib_eq_t rfl h3) ?_) (fun h3 => fu_step (fu_ib_eq_f rfl h3) ?_)
    · refine fu_go 4 (pc' := 17) (ls' := [.ref 1, .int a1, .int a2, .int a3, .int a4, .int a5]) (st' := [.int a5, .int a4, .int a3, .ref 1]) (s' := s) rfl ?_
      refine fu_bind (fu_cVJ rfl rfl rfl rfl rfl (fu_recv fc_1 am_at_X7_hasPlaces rfl) (e_X7_hasPlaces d (by omega) s a3 a4 a5)) (fun r4 => ?_)
      show fu_J _ _ (fc_X d none k_X7_transfer 20 [.ref 1, .int a1, .int a2, .int a3, .int a4, .int a5] [.int (fu_b r4)] s)
      refine fu_ite (fun h5 => fu_step (fu_ib_eq_t rfl h5) ?_) (fun h5 => fu_step (fu_ib_eq_f rfl h5) ?_)
      · refine fu_go 1 (pc' := 24) (ls' := [.ref 1, .int a1, .int a2, .int a3, .int a4, .int a5]) (st' := [.ref 1]) (s' := s) rfl ?_
        refine fu_step (fu_getR rfl fc_1 rfl rfl) ?_
        refine fu_go 6 (pc' := 34) (ls' := [.ref 1, .int a1, .int a2, .int a3, .int a4, .int a5]) (st' := [.ref 1, .int ((a1 * (60 : Int32)) + a2), .ref 2]) (s' := s) rfl ?_
        refine fu_step (fu_getR rfl fc_1 rfl rfl) ?_
        refine fu_go 6 (pc' := 46) (ls' := [.ref 1, .int a1, .int a2, .int a3, .int a4, .int a5]) (st' := [.int a5, .int ((a3 * (60 : Int32)) + a4), .ref 2, .int ((a1 * (60 : Int32)) + a2), .ref 2]) (s' := s) rfl ?_
        refine fu_guard (fun h7 => fu_lets (b := (fu_cl s 2 (Int32.toNatClampNeg ((a1 * (60 : Int32)) + a2)) 2 (Int32.toNatClampNeg ((a3 * (60 : Int32)) + a4)) (Int32.toNatClampNeg a5))) (fu_prim rfl rfl rfl (fu_cpL fc_2 fc_2 h7)) (fun s6 => ?_))
        exact fu_leaf rfl ⟨.inl rfl, .inl rfl, .inl rfl, .inl rfl, .inl rfl, .inl rfl, trivial⟩
      · exact fu_leaf rfl ⟨.inl rfl, .inl rfl, .inl rfl, .inl rfl, .inl rfl, .inl rfl, trivial⟩
    · exact fu_leaf rfl ⟨.inl rfl, .inl rfl, .inl rfl, .inl rfl, .inl rfl, .inl rfl, trivial⟩
  show fu_J _ _ (fc_X d none k_X7_transfer 49 [am_U, am_U, am_U, am_U, am_U, am_U] [] j2)
  exact fu_vret rfl rfl
/-! X8_withLetter -/
set_option maxRecDepth 100000 in
theorem e_X8_withLetter (d : Nat) (hd : 1 ≤ d) (s : fu_S) (a0 : Int64) (a1 : Int32) : fu_J (some (f_X8_withLetter a0 a1)) (fun r => some (some (.long r), s)) (am_D (fu_ho fc_sh) am_m d 153 [.long a0, .int a1] s) := by
  obtain ⟨d, rfl⟩ : ∃ e, d = e + 1 := ⟨d - 1, by omega⟩
  refine fu_enter (ls := [.long a0, am_U, .int a1]) am_at_X8_withLetter rfl rfl ?_
  show fu_J _ _ (fc_X d (some .long) k_X8_withLetter 0 [.long a0, am_U, .int a1] [] s)
  unfold f_X8_withLetter
  refine fu_go 10 (pc' := 13) (ls' := [.long a0, am_U, .int a1]) (st' := [.long ((a0 * (32 : Int64)) + (Int32.toInt64 ((a1 - (97 : Int32)) + (1 : Int32))))]) (s' := s) rfl ?_
  exact fu_lret rfl rfl
/-! X8_size -/
set_option maxRecDepth 100000 in
theorem e_X8_size (d : Nat) (hd : 1 ≤ d) (s : fu_S) : fu_J (some (f_X8_size s)) (fun r => some (some (.int r), s)) (am_D (fu_ho fc_sh) am_m d 139 [.ref 5] s) := by
  obtain ⟨d, rfl⟩ : ∃ e, d = e + 1 := ⟨d - 1, by omega⟩
  refine fu_enter (ls := [.ref 5]) am_at_X8_size rfl rfl ?_
  show fu_J _ _ (fc_X d (some .int) k_X8_size 0 [.ref 5] [] s)
  unfold f_X8_size
  refine fu_go 1 (pc' := 1) (ls' := [.ref 5]) (st' := [.ref 5]) (s' := s) rfl ?_
  refine fu_step (fu_getI rfl fc_5 rfl rfl) ?_
  exact fu_iret rfl rfl
/-! X8_faultKind -/
set_option maxRecDepth 100000 in
theorem e_X8_faultKind (d : Nat) (hd : 1 ≤ d) (s : fu_S) : fu_J (some (f_X8_faultKind s)) (fun r => some (some (.int r), s)) (am_D (fu_ho fc_sh) am_m d 140 [.ref 5] s) := by
  obtain ⟨d, rfl⟩ : ∃ e, d = e + 1 := ⟨d - 1, by omega⟩
  refine fu_enter (ls := [.ref 5]) am_at_X8_faultKind rfl rfl ?_
  show fu_J _ _ (fc_X d (some .int) k_X8_faultKind 0 [.ref 5] [] s)
  unfold f_X8_faultKind
  refine fu_go 1 (pc' := 1) (ls' := [.ref 5]) (st' := [.ref 5]) (s' := s) rfl ?_
  refine fu_step (fu_getI rfl fc_5 rfl rfl) ?_
  exact fu_iret rfl rfl
/-! X8_faultPlace -/
set_option maxRecDepth 100000 in
theorem e_X8_faultPlace (d : Nat) (hd : 1 ≤ d) (s : fu_S) : fu_J (some (f_X8_faultPlace s)) (fun r => some (some (.int r), s)) (am_D (fu_ho fc_sh) am_m d 141 [.ref 5] s) := by
  obtain ⟨d, rfl⟩ : ∃ e, d = e + 1 := ⟨d - 1, by omega⟩
  refine fu_enter (ls := [.ref 5]) am_at_X8_faultPlace rfl rfl ?_
  show fu_J _ _ (fc_X d (some .int) k_X8_faultPlace 0 [.ref 5] [] s)
  unfold f_X8_faultPlace
  refine fu_go 1 (pc' := 1) (ls' := [.ref 5]) (st' := [.ref 5]) (s' := s) rfl ?_
  refine fu_step (fu_getI rfl fc_5 rfl rfl) ?_
  exact fu_iret rfl rfl
/-! X8_hasRoomFor -/
set_option maxRecDepth 100000 in
theorem e_X8_hasRoomFor (d : Nat) (hd : 1 ≤ d) (s : fu_S) (a1 : Int32) : fu_J (some (f_X8_hasRoomFor s a1)) (fun r => some (some (.int (fu_b r)), s)) (am_D (fu_ho fc_sh) am_m d 142 [.ref 5, .int a1] s) := by
  obtain ⟨d, rfl⟩ : ∃ e, d = e + 1 := ⟨d - 1, by omega⟩
  refine fu_enter (ls := [.ref 5, .int a1]) am_at_X8_hasRoomFor rfl rfl ?_
  show fu_J _ _ (fc_X d (some .boolean) k_X8_hasRoomFor 0 [.ref 5, .int a1] [] s)
  unfold f_X8_hasRoomFor
  refine fu_go 3 (pc' := 5) (ls' := [.ref 5, .int a1]) (st' := [.ref 5, .int (900 : Int32), .int a1]) (s' := s) rfl ?_
  refine fu_step (fu_getI rfl fc_5 rfl rfl) ?_
  refine fu_go 1 (pc' := 9) (ls' := [.ref 5, .int a1]) (st' := [.int ((900 : Int32) - (s.1 5 2)), .int a1]) (s' := s) rfl ?_
  refine fu_letS (V := fun j1 : Bool => fc_X d (some .boolean) k_X8_hasRoomFor 17 [am_U, am_U] [.int (fu_b j1)] s) ?_ (fun j1 => ?_)
  · refine fu_iteS (fun h2 => fu_step (fu_ic_gt_t rfl h2) ?_) (fun h2 => fu_step (fu_ic_gt_f rfl h2) ?_)
    · refine fu_go 2 (pc' := 17) (ls' := [.ref 5, .int a1]) (st' := [.int (1 : Int32)]) (s' := s) rfl ?_
      exact fu_leaf rfl ⟨.inl rfl, .inl rfl, trivial⟩
    · refine fu_go 1 (pc' := 17) (ls' := [.ref 5, .int a1]) (st' := [.int (0 : Int32)]) (s' := s) rfl ?_
      exact fu_leaf rfl ⟨.inl rfl, .inl rfl, trivial⟩
  show fu_J _ _ (fc_X d (some .boolean) k_X8_hasRoomFor 17 [am_U, am_U] [.int (fu_b j1)] s)
  exact fu_bret (b := j1) rfl rfl
/-! X8_append -/
theorem el_X8_append_3 (d : Nat) (hd : 0 ≤ d) : ∀ (n : Nat) (s : fu_S) (x1 : Int32) (x2 : Int32), fu_J (l_X8_append_3 n s x1 x2) (fun r => fc_X d none k_X8_append 46 [am_U, am_U, am_U] [] r) (fc_X d none k_X8_append 3 [.ref 5, .int x1, .int x2] [] s) := by
  intro n
  induction n with
  | zero => intros; exact fu_none
  | succ n ih =>
    intro s x1 x2
    rw [l_X8_append_3]
    refine fu_go 1 (pc' := 4) (ls' := [.ref 5, .int x1, .int x2]) (st' := [.int x2]) (s' := s) rfl ?_
    refine fu_ite (fun h1 => fu_step (fu_if_lt_t rfl h1) ?_) (fun h1 => fu_step (fu_if_lt_f rfl h1) ?_)
    · exact fu_leaf rfl ⟨.inl rfl, .inl rfl, .inl rfl, trivial⟩
    · refine fu_go 1 (pc' := 8) (ls' := [.ref 5, .int x1, .int x2]) (st' := [.ref 5]) (s' := s) rfl ?_
      refine fu_step (fu_getI rfl fc_5 rfl rfl) ?_
      refine fu_go 1 (pc' := 14) (ls' := [.ref 5, .int x1, .int x2]) (st' := [.int (900 : Int32), .int (s.1 5 2)]) (s' := s) rfl ?_
      refine fu_bind (V := fun j2 : fu_S => fc_X d none k_X8_append 40 [.ref 5, .int x1, .int x2] [] j2) ?_ (fun j2 => ?_)
      · refine fu_ite (fun h3 => fu_step (fu_ic_ge_t rfl h3) ?_) (fun h3 => fu_step (fu_ic_ge_f rfl h3) ?_)
        · refine fu_go 1 (pc' := 18) (ls' := [.ref 5, .int x1, .int x2]) (st' := [.ref 5]) (s' := s) rfl ?_
          refine fu_step (fu_getR rfl fc_5 rfl rfl) ?_
          refine fu_go 1 (pc' := 22) (ls' := [.ref 5, .int x1, .int x2]) (st' := [.ref 5, .ref 7]) (s' := s) rfl ?_
          refine fu_step (fu_getI rfl fc_5 rfl rfl) ?_
          refine fu_go 4 (pc' := 29) (ls' := [.ref 5, .int x1, .int x2]) (st' := [.int (Int8.toInt32 (Int32.toInt8 (x1 >>> (x2 &&& 31)))), .int (s.1 5 2), .ref 7]) (s' := s) rfl ?_
          refine fu_guard (fun h5 => fu_lets (b := (fu_pi s 7 (Int32.toNatClampNeg (s.1 5 2)) (fu_by (Int8.toInt32 (Int32.toInt8 (x1 >>> (x2 &&& 31))))))) (fu_stB rfl fc_7 h5) (fun s4 => ?_))
          refine fu_go 2 (pc' := 32) (ls' := [.ref 5, .int x1, .int x2]) (st' := [.ref 5, .ref 5]) (s' := s4) rfl ?_
          refine fu_step (fu_getI rfl fc_5 rfl rfl) ?_
          refine fu_go 2 (pc' := 37) (ls' := [.ref 5, .int x1, .int x2]) (st' := [.int ((s4.1 5 2) + (1 : Int32)), .ref 5]) (s' := s4) rfl ?_
          refine fu_lets (b := (fu_pi s4 5 2 ((s4.1 5 2) + (1 : Int32)))) (fu_putI rfl fc_5 rfl rfl) (fun s6 => ?_)
          exact fu_leaf rfl ⟨.inr rfl, .inr rfl, .inr rfl, trivial⟩
        · exact fu_leaf rfl ⟨.inr rfl, .inr rfl, .inr rfl, trivial⟩
      show fu_J _ _ (fc_X d none k_X8_append 40 [.ref 5, .int x1, .int x2] [] j2)
      refine fu_go 2 (pc' := 3) (ls' := [.ref 5, .int x1, .int (x2 + (-8 : Int32))]) (st' := []) (s' := j2) rfl ?_
      exact fu_drop (ls' := [.ref 5, .int x1, .int (x2 + (-8 : Int32))]) ⟨.inr rfl, .inr rfl, .inr rfl, trivial⟩ (ih j2 x1 (x2 + (-8 : Int32)))
set_option maxRecDepth 100000 in
theorem e_X8_append (d : Nat) (hd : 1 ≤ d) (s : fu_S) (a1 : Int32) : fu_J (f_X8_append s a1) (fun r => some (none, r)) (am_D (fu_ho fc_sh) am_m d 143 [.ref 5, .int a1] s) := by
  obtain ⟨d, rfl⟩ : ∃ e, d = e + 1 := ⟨d - 1, by omega⟩
  refine fu_enter (ls := [.ref 5, .int a1, am_U]) am_at_X8_append rfl rfl ?_
  show fu_J _ _ (fc_X d none k_X8_append 0 [.ref 5, .int a1, am_U] [] s)
  unfold f_X8_append
  refine fu_go 2 (pc' := 3) (ls' := [.ref 5, .int a1, .int (24 : Int32)]) (st' := []) (s' := s) rfl ?_
  refine fu_drop (ls' := [.ref 5, .int a1, .int (24 : Int32)]) ⟨.inr rfl, .inr rfl, .inr rfl, trivial⟩ ?_
  refine fu_bind (el_X8_append_3 d (by omega) fu_N s a1 (24 : Int32)) (fun r7 => ?_)
  show fu_J _ _ (fc_X d none k_X8_append 46 [am_U, am_U, am_U] [] r7)
  exact fu_vret rfl rfl
/-! X8_wipe -/
set_option maxRecDepth 100000 in
theorem e_X8_wipe (d : Nat) (hd : 1 ≤ d) (s : fu_S) : fu_J (some (f_X8_wipe s)) (fun r => some (none, r)) (am_D (fu_ho fc_sh) am_m d 144 [.ref 5] s) := by
  obtain ⟨d, rfl⟩ : ∃ e, d = e + 1 := ⟨d - 1, by omega⟩
  refine fu_enter (ls := [.ref 5]) am_at_X8_wipe rfl rfl ?_
  show fu_J _ _ (fc_X d none k_X8_wipe 0 [.ref 5] [] s)
  unfold f_X8_wipe
  refine fu_go 2 (pc' := 2) (ls' := [.ref 5]) (st' := [.int (0 : Int32), .ref 5]) (s' := s) rfl ?_
  refine fu_letsS (b := (fu_pi s 5 2 (0 : Int32))) (fu_putI rfl fc_5 rfl rfl) (fun s1 => ?_)
  exact fu_vret rfl rfl
/-! X8_isBlank -/
set_option maxRecDepth 100000 in
theorem e_X8_isBlank (d : Nat) (hd : 1 ≤ d) (s : fu_S) (a0 : Int32) : fu_J (some (f_X8_isBlank a0)) (fun r => some (some (.int (fu_b r)), s)) (am_D (fu_ho fc_sh) am_m d 152 [.int a0] s) := by
  obtain ⟨d, rfl⟩ : ∃ e, d = e + 1 := ⟨d - 1, by omega⟩
  refine fu_enter (ls := [.int a0]) am_at_X8_isBlank rfl rfl ?_
  show fu_J _ _ (fc_X d (some .boolean) k_X8_isBlank 0 [.int a0] [] s)
  unfold f_X8_isBlank
  refine fu_go 2 (pc' := 3) (ls' := [.int a0]) (st' := [.int (10 : Int32), .int a0]) (s' := s) rfl ?_
  refine fu_letS (V := fun j1 : Bool => fc_X d (some .boolean) k_X8_isBlank 17 [am_U] [.int (fu_b j1)] s) ?_ (fun j1 => ?_)
  · refine fu_iteS (fun h2 => fu_step (fu_ic_eq_t rfl h2) ?_) (fun h2 => fu_step (fu_ic_eq_f rfl h2) ?_)
    · refine fu_go 2 (pc' := 17) (ls' := [.int a0]) (st' := [.int (1 : Int32)]) (s' := s) rfl ?_
      exact fu_leaf rfl ⟨.inl rfl, trivial⟩
    · refine fu_go 2 (pc' := 9) (ls' := [.int a0]) (st' := [.int (32 : Int32), .int a0]) (s' := s) rfl ?_
      refine fu_iteS (fun h3 => fu_step (fu_ic_ne_t rfl h3) ?_) (fun h3 => fu_step (fu_ic_ne_f rfl h3) ?_)
      · refine fu_go 2 (pc' := 17) (ls' := [.int a0]) (st' := [.int (1 : Int32)]) (s' := s) rfl ?_
        exact fu_leaf rfl ⟨.inl rfl, trivial⟩
      · refine fu_go 1 (pc' := 17) (ls' := [.int a0]) (st' := [.int (0 : Int32)]) (s' := s) rfl ?_
        exact fu_leaf rfl ⟨.inl rfl, trivial⟩
  show fu_J _ _ (fc_X d (some .boolean) k_X8_isBlank 17 [am_U] [.int (fu_b j1)] s)
  exact fu_bret (b := j1) rfl rfl
/-! X8_isLetter -/
set_option maxRecDepth 100000 in
theorem e_X8_isLetter (d : Nat) (hd : 1 ≤ d) (s : fu_S) (a0 : Int32) : fu_J (some (f_X8_isLetter a0)) (fun r => some (some (.int (fu_b r)), s)) (am_D (fu_ho fc_sh) am_m d 150 [.int a0] s) := by
  obtain ⟨d, rfl⟩ : ∃ e, d = e + 1 := ⟨d - 1, by omega⟩
  refine fu_enter (ls := [.int a0]) am_at_X8_isLetter rfl rfl ?_
  show fu_J _ _ (fc_X d (some .boolean) k_X8_isLetter 0 [.int a0] [] s)
  unfold f_X8_isLetter
  refine fu_go 2 (pc' := 3) (ls' := [.int a0]) (st' := [.int (97 : Int32), .int a0]) (s' := s) rfl ?_
  refine fu_letS (V := fun j1 : Bool => fc_X d (some .boolean) k_X8_isLetter 17 [am_U] [.int (fu_b j1)] s) ?_ (fun j1 => ?_)
  · refine fu_iteS (fun h2 => fu_step (fu_ic_lt_t rfl h2) ?_) (fun h2 => fu_step (fu_ic_lt_f rfl h2) ?_)
    · refine fu_go 1 (pc' := 17) (ls' := [.int a0]) (st' := [.int (0 : Int32)]) (s' := s) rfl ?_
      exact fu_leaf rfl ⟨.inl rfl, trivial⟩
    · refine fu_go 2 (pc' := 9) (ls' := [.int a0]) (st' := [.int (122 : Int32), .int a0]) (s' := s) rfl ?_
      refine fu_iteS (fun h3 => fu_step (fu_ic_gt_t rfl h3) ?_) (fun h3 => fu_step (fu_ic_gt_f rfl h3) ?_)
      · refine fu_go 2 (pc' := 17) (ls' := [.int a0]) (st' := [.int (1 : Int32)]) (s' := s) rfl ?_
        exact fu_leaf rfl ⟨.inl rfl, trivial⟩
      · refine fu_go 1 (pc' := 17) (ls' := [.int a0]) (st' := [.int (0 : Int32)]) (s' := s) rfl ?_
        exact fu_leaf rfl ⟨.inl rfl, trivial⟩
  show fu_J _ _ (fc_X d (some .boolean) k_X8_isLetter 17 [am_U] [.int (fu_b j1)] s)
  exact fu_bret (b := j1) rfl rfl
/-! X8_add -/
set_option maxRecDepth 100000 in
theorem e_X8_add (d : Nat) (hd : 1 ≤ d) (s : fu_S) (a1 : Int32) (a2 : Int32) (a3 : Int64) : fu_J (f_X8_add s a1 a2 a3) (fun r => some (none, r)) (am_D (fu_ho fc_sh) am_m d 149 [.ref 5, .int a1, .int a2, .long a3] s) := by
  obtain ⟨d, rfl⟩ : ∃ e, d = e + 1 := ⟨d - 1, by omega⟩
  refine fu_enter (ls := [.ref 5, .int a1, .int a2, .long a3, am_U]) am_at_X8_add rfl rfl ?_
  show fu_J _ _ (fc_X d none k_X8_add 0 [.ref 5, .int a1, .int a2, .long a3, am_U] [] s)
  unfold f_X8_add
  refine fu_go 1 (pc' := 1) (ls' := [.ref 5, .int a1, .int a2, .long a3, am_U]) (st' := [.ref 5]) (s' := s) rfl ?_
  refine fu_step (fu_getI rfl fc_5 rfl rfl) ?_
  refine fu_go 1 (pc' := 7) (ls' := [.ref 5, .int a1, .int a2, .long a3, am_U]) (st' := [.int (900 : Int32), .int (s.1 5 6)]) (s' := s) rfl ?_
  refine fu_bind (V := fun j1 : fu_S => fc_X d none k_X8_add 50 [am_U, am_U, am_U, am_U, am_U] [] j1) ?_ (fun j1 => ?_)
  · refine fu_ite (fun h2 => fu_step (fu_ic_gt_t rfl h2) ?_) (fun h2 => fu_step (fu_ic_gt_f rfl h2) ?_)
    · refine fu_go 1 (pc' := 11) (ls' := [.ref 5, .int a1, .int a2, .long a3, am_U]) (st' := [.ref 5]) (s' := s) rfl ?_
      refine fu_step (fu_getR rfl fc_5 rfl rfl) ?_
      refine fu_go 1 (pc' := 15) (ls' := [.ref 5, .int a1, .int a2, .long a3, am_U]) (st' := [.ref 5, .ref 8]) (s' := s) rfl ?_
      refine fu_step (fu_getI rfl fc_5 rfl rfl) ?_
      refine fu_go 1 (pc' := 19) (ls' := [.ref 5, .int a1, .int a2, .long a3, am_U]) (st' := [.int a1, .int (s.1 5 6), .ref 8]) (s' := s) rfl ?_
      refine fu_guard (fun h4 => fu_lets (b := (fu_pi s 8 (Int32.toNatClampNeg (s.1 5 6)) a1)) (fu_stI rfl fc_8 h4) (fun s3 => ?_))
      refine fu_go 1 (pc' := 21) (ls' := [.ref 5, .int a1, .int a2, .long a3, am_U]) (st' := [.ref 5]) (s' := s3) rfl ?_
      refine fu_step (fu_getR rfl fc_5 rfl rfl) ?_
      refine fu_go 1 (pc' := 25) (ls' := [.ref 5, .int a1, .int a2, .long a3, am_U]) (st' := [.ref 5, .ref 9]) (s' := s3) rfl ?_
      refine fu_step (fu_getI rfl fc_5 rfl rfl) ?_
      refine fu_go 1 (pc' := 29) (ls' := [.ref 5, .int a1, .int a2, .long a3, am_U]) (st' := [.int a2, .int (s3.1 5 6), .ref 9]) (s' := s3) rfl ?_
      refine fu_guard (fun h6 => fu_lets (b := (fu_pi s3 9 (Int32.toNatClampNeg (s3.1 5 6)) a2)) (fu_stI rfl fc_9 h6) (fun s5 => ?_))
      refine fu_go 1 (pc' := 31) (ls' := [.ref 5, .int a1, .int a2, .long a3, am_U]) (st' := [.ref 5]) (s' := s5) rfl ?_
      refine fu_step (fu_getR rfl fc_5 rfl rfl) ?_
      refine fu_go 1 (pc' := 35) (ls' := [.ref 5, .int a1, .int a2, .long a3, am_U]) (st' := [.ref 5, .ref 10]) (s' := s5) rfl ?_
      refine fu_step (fu_getI rfl fc_5 rfl rfl) ?_
      refine fu_go 1 (pc' := 39) (ls' := [.ref 5, .int a1, .int a2, .long a3, am_U]) (st' := [.long a3, .int (s5.1 5 6), .ref 10]) (s' := s5) rfl ?_
      refine fu_guard (fun h8 => fu_lets (b := (fu_pl s5 10 (Int32.toNatClampNeg (s5.1 5 6)) a3)) (fu_stL rfl fc_10 h8) (fun s7 => ?_))
      refine fu_go 2 (pc' := 42) (ls' := [.ref 5, .int a1, .int a2, .long a3, am_U]) (st' := [.ref 5, .ref 5]) (s' := s7) rfl ?_
      refine fu_step (fu_getI rfl fc_5 rfl rfl) ?_
      refine fu_go 2 (pc' := 47) (ls' := [.ref 5, .int a1, .int a2, .long a3, am_U]) (st' := [.int ((s7.1 5 6) + (1 : Int32)), .ref 5]) (s' := s7) rfl ?_
      refine fu_lets (b := (fu_pi s7 5 6 ((s7.1 5 6) + (1 : Int32)))) (fu_putI rfl fc_5 rfl rfl) (fun s9 => ?_)
      exact fu_leaf rfl ⟨.inl rfl, .inl rfl, .inl rfl, .inl rfl, .inl rfl, trivial⟩
    · exact fu_leaf rfl ⟨.inl rfl, .inl rfl, .inl rfl, .inl rfl, .inl rfl, trivial⟩
  show fu_J _ _ (fc_X d none k_X8_add 50 [am_U, am_U, am_U, am_U, am_U] [] j1)
  exact fu_vret rfl rfl
/-! X8_takeWord -/
theorem el_X8_takeWord_5 (d : Nat) (hd : 1 ≤ d) : ∀ (n : Nat) (s : fu_S) (x1 : Int32) (x2 : Int32) (x3 : Int64) (x5 : Int32), fu_J (l_X8_takeWord_5 n s x1 x2 x3 x5) (fun r => fc_X d (some .int) k_X8_takeWord 57 [.ref 5, .int x1, am_U, .long r.1, am_U, .int r.2, am_U, am_U] [] s) (fc_X d (some .int) k_X8_takeWord 5 [.ref 5, .int x1, .int x2, .long x3, am_U, .int x5, am_U, am_U] [] s) := by
  intro n
  induction n with
  | zero => intros; exact fu_none
  | succ n ih =>
    intro s x1 x2 x3 x5
    rw [l_X8_takeWord_5]
    refine fu_go 2 (pc' := 8) (ls' := [.ref 5, .int x1, .int x2, .long x3, am_U, .int x5, am_U, am_U]) (st' := [.int x2, .int x5]) (s' := s) rfl ?_
    refine fu_ite (fun h1 => fu_step (fu_ic_ge_t rfl h1) ?_) (fun h1 => fu_step (fu_ic_ge_f rfl h1) ?_)
    · refine fu_go 1 (pc' := 12) (ls' := [.ref 5, .int x1, .int x2, .long x3, am_U, .int x5, am_U, am_U]) (st' := [.ref 5]) (s' := s) rfl ?_
      refine fu_step (fu_getR rfl fc_5 rfl rfl) ?_
      refine fu_go 1 (pc' := 17) (ls' := [.ref 5, .int x1, .int x2, .long x3, am_U, .int x5, am_U, am_U]) (st' := [.int x5, .ref 7]) (s' := s) rfl ?_
      refine fu_guard (fun h2 => fu_step (fu_ldB rfl fc_7 h2) ?_)
      refine fu_step (fu_cS rfl rfl rfl rfl rfl rfl (fu_eq (e_X8_isLetter d (by omega) s (s.1 7 (Int32.toNatClampNeg x5))) rfl)) ?_
      show fu_J _ _ (fc_X d (some .int) k_X8_takeWord 21 [.ref 5, .int x1, .int x2, .long x3, am_U, .int x5, am_U, am_U] [.int (fu_b (f_X8_isLetter (s.1 7 (Int32.toNatClampNeg x5))))] s)
      refine fu_ite (fun h3 => fu_step (fu_ib_eq_t rfl h3) ?_) (fun h3 => fu_step (fu_ib_eq_f rfl h3) ?_)
      · refine fu_go 4 (pc' := 30) (ls' := [.ref 5, .int x1, .int x2, .long x3, am_U, .int x5, am_U, am_U]) (st' := [.int (8 : Int32), .int (x5 - x1)]) (s' := s) rfl ?_
        refine fu_bind (V := fun j4 : Int64 => fc_X d (some .int) k_X8_takeWord 50 [.ref 5, .int x1, .int x2, am_U, am_U, .int x5, am_U, am_U] [.long j4] s) ?_ (fun j4 => ?_)
        · refine fu_ite (fun h5 => fu_step (fu_ic_ge_t rfl h5) ?_) (fun h5 => fu_step (fu_ic_ge_f rfl h5) ?_)
          · refine fu_go 2 (pc' := 35) (ls' := [.ref 5, .int x1, .int x2, .long x3, am_U, .int x5, am_U, am_U]) (st' := [.ref 5, .long x3]) (s' := s) rfl ?_
            refine fu_step (fu_getR rfl fc_5 rfl rfl) ?_
            refine fu_go 1 (pc' := 40) (ls' := [.ref 5, .int x1, .int x2, .long x3, am_U, .int x5, am_U, am_U]) (st' := [.int x5, .ref 7, .long x3]) (s' := s) rfl ?_
            refine fu_guard (fun h6 => fu_step (fu_ldB rfl fc_7 h6) ?_)
            refine fu_step (fu_cS rfl rfl rfl rfl rfl rfl (fu_eq (e_X8_withLetter d (by omega) s x3 (s.1 7 (Int32.toNatClampNeg x5))) rfl)) ?_
            show fu_J _ _ (fc_X d (some .int) k_X8_takeWord 44 [.ref 5, .int x1, .int x2, .long x3, am_U, .int x5, am_U, am_U] [.long (f_X8_withLetter x3 (s.1 7 (Int32.toNatClampNeg x5)))] s)
            refine fu_go 1 (pc' := 50) (ls' := [.ref 5, .int x1, .int x2, .long x3, am_U, .int x5, am_U, am_U]) (st' := [.long (f_X8_withLetter x3 (s.1 7 (Int32.toNatClampNeg x5)))]) (s' := s) rfl ?_
            exact fu_leaf rfl ⟨.inr rfl, .inr rfl, .inr rfl, .inl rfl, .inl rfl, .inr rfl, .inl rfl, .inl rfl, trivial⟩
          · refine fu_go 1 (pc' := 50) (ls' := [.ref 5, .int x1, .int x2, .long x3, am_U, .int x5, am_U, am_U]) (st' := [.long (-1 : Int64)]) (s' := s) rfl ?_
            exact fu_leaf rfl ⟨.inr rfl, .inr rfl, .inr rfl, .inl rfl, .inl rfl, .inr rfl, .inl rfl, .inl rfl, trivial⟩
        show fu_J _ _ (fc_X d (some .int) k_X8_takeWord 50 [.ref 5, .int x1, .int x2, am_U, am_U, .int x5, am_U, am_U] [.long j4] s)
        refine fu_go 3 (pc' := 5) (ls' := [.ref 5, .int x1, .int x2, .long j4, am_U, .int (x5 + (1 : Int32)), am_U, am_U]) (st' := []) (s' := s) rfl ?_
        exact fu_drop (ls' := [.ref 5, .int x1, .int x2, .long j4, am_U, .int (x5 + (1 : Int32)), am_U, am_U]) ⟨.inr rfl, .inr rfl, .inr rfl, .inr rfl, .inl rfl, .inr rfl, .inl rfl, .inl rfl, trivial⟩ (ih s x1 x2 j4 (x5 + (1 : Int32)))
      · exact fu_leaf rfl ⟨.inr rfl, .inr rfl, .inl rfl, .inr rfl, .inl rfl, .inr rfl, .inl rfl, .inl rfl, trivial⟩
    · exact fu_leaf rfl ⟨.inr rfl, .inr rfl, .inl rfl, .inr rfl, .inl rfl, .inr rfl, .inl rfl, .inl rfl, trivial⟩
theorem el_X8_takeWord_75 (d : Nat) (hd : 0 ≤ d) : ∀ (n : Nat) (s : fu_S) (x1 : Int32) (x3 : Int64) (x5 : Int32) (x6 : Int32) (x7 : Int32), fu_J (l_X8_takeWord_75 n s x1 x3 x5 x6 x7) (fun r => fc_X d (some .int) k_X8_takeWord 112 [.ref 5, .int x1, am_U, .long x3, am_U, .int x5, .int r, am_U] [] s) (fc_X d (some .int) k_X8_takeWord 75 [.ref 5, .int x1, am_U, .long x3, am_U, .int x5, .int x6, .int x7] [] s) := by
  intro n
  induction n with
  | zero => intros; exact fu_none
  | succ n ih =>
    intro s x1 x3 x5 x6 x7
    rw [l_X8_takeWord_75]
    refine fu_go 2 (pc' := 79) (ls' := [.ref 5, .int x1, am_U, .long x3, am_U, .int x5, .int x6, .int x7]) (st' := [.int (22 : Int32), .int x7]) (s' := s) rfl ?_
    refine fu_ite (fun h10 => fu_step (fu_ic_ge_t rfl h10) ?_) (fun h10 => fu_step (fu_ic_ge_f rfl h10) ?_)
    · refine fu_go 1 (pc' := 83) (ls' := [.ref 5, .int x1, am_U, .long x3, am_U, .int x5, .int x6, .int x7]) (st' := [.ref 5]) (s' := s) rfl ?_
      refine fu_step (fu_getR rfl fc_5 rfl rfl) ?_
      refine fu_go 1 (pc' := 88) (ls' := [.ref 5, .int x1, am_U, .long x3, am_U, .int x5, .int x6, .int x7]) (st' := [.int x7, .ref 6]) (s' := s) rfl ?_
      refine fu_guard (fun h11 => fu_step (fu_ldL rfl fc_6 h11) ?_)
      refine fu_go 1 (pc' := 90) (ls' := [.ref 5, .int x1, am_U, .long x3, am_U, .int x5, .int x6, .int x7]) (st' := [.long x3, .long (s.2 6 (Int32.toNatClampNeg x7))]) (s' := s) rfl ?_
      refine fu_bind (V := fun j12 : Int32 => fc_X d (some .int) k_X8_takeWord 104 [.ref 5, .int x1, am_U, .long x3, am_U, .int x5, am_U, .int x7] [.int j12] s) ?_ (fun j12 => ?_)
      · refine fu_ite (fun h13 => fu_step (fu_lc_ne_t rfl rfl h13) ?_) (fun h13 => fu_step (fu_lc_ne_f rfl rfl h13) ?_)
        · refine fu_go 4 (pc' := 104) (ls' := [.ref 5, .int x1, am_U, .long x3, am_U, .int x5, .int x6, .int x7]) (st' := [.int ((100 : Int32) + x7)]) (s' := s) rfl ?_
          exact fu_leaf rfl ⟨.inr rfl, .inr rfl, .inl rfl, .inr rfl, .inl rfl, .inr rfl, .inl rfl, .inr rfl, trivial⟩
        · refine fu_go 1 (pc' := 104) (ls' := [.ref 5, .int x1, am_U, .long x3, am_U, .int x5, .int x6, .int x7]) (st' := [.int x6]) (s' := s) rfl ?_
          exact fu_leaf rfl ⟨.inr rfl, .inr rfl, .inl rfl, .inr rfl, .inl rfl, .inr rfl, .inl rfl, .inr rfl, trivial⟩
      show fu_J _ _ (fc_X d (some .int) k_X8_takeWord 104 [.ref 5, .int x1, am_U, .long x3, am_U, .int x5, am_U, .int x7] [.int j12] s)
      refine fu_go 3 (pc' := 75) (ls' := [.ref 5, .int x1, am_U, .long x3, am_U, .int x5, .int j12, .int (x7 + (1 : Int32))]) (st' := []) (s' := s) rfl ?_
      exact fu_drop (ls' := [.ref 5, .int x1, am_U, .long x3, am_U, .int x5, .int j12, .int (x7 + (1 : Int32))]) ⟨.inr rfl, .inr rfl, .inl rfl, .inr rfl, .inl rfl, .inr rfl, .inr rfl, .inr rfl, trivial⟩ (ih s x1 x3 x5 j12 (x7 + (1 : Int32)))
    · exact fu_leaf rfl ⟨.inr rfl, .inr rfl, .inl rfl, .inr rfl, .inl rfl, .inr rfl, .inr rfl, .inl rfl, trivial⟩
set_option maxRecDepth 100000 in
theorem e_X8_takeWord (d : Nat) (hd : 2 ≤ d) (s : fu_S) (a1 : Int32) (a2 : Int32) : fu_J (f_X8_takeWord s a1 a2) (fun r => some (some (.int r.1), r.2)) (am_D (fu_ho fc_sh) am_m d 147 [.ref 5, .int a1, .int a2] s) := by
  obtain ⟨d, rfl⟩ : ∃ e, d = e + 1 := ⟨d - 1, by omega⟩
  refine fu_enter (ls := [.ref 5, .int a1, .int a2, am_U, am_U, am_U, am_U, am_U]) am_at_X8_takeWord rfl rfl ?_
  show fu_J _ _ (fc_X d (some .int) k_X8_takeWord 0 [.ref 5, .int a1, .int a2, am_U, am_U, am_U, am_U, am_U] [] s)
  unfold f_X8_takeWord
  refine fu_go 4 (pc' := 5) (ls' := [.ref 5, .int a1, .int a2, .long (0 : Int64), am_U, .int a1, am_U, am_U]) (st' := []) (s' := s) rfl ?_
  refine fu_drop (ls' := [.ref 5, .int a1, .int a2, .long (0 : Int64), am_U, .int a1, am_U, am_U]) ⟨.inr rfl, .inr rfl, .inr rfl, .inr rfl, .inl rfl, .inr rfl, .inl rfl, .inl rfl, trivial⟩ ?_
  refine fu_bind (el_X8_takeWord_5 d (by omega) fu_N s a1 a2 (0 : Int64) a1) (fun r7 => ?_)
  show fu_J _ _ (fc_X d (some .int) k_X8_takeWord 57 [.ref 5, .int a1, am_U, .long r7.1, am_U, .int r7.2, am_U, am_U] [] s)
  refine fu_go 2 (pc' := 61) (ls' := [.ref 5, .int a1, am_U, .long r7.1, am_U, .int r7.2, am_U, am_U]) (st' := [.long (-1 : Int64), .long r7.1]) (s' := s) rfl ?_
  refine fu_bind (V := fun j8 : Int32 => fc_X d (some .int) k_X8_takeWord 70 [.ref 5, .int a1, am_U, .long r7.1, am_U, .int r7.2, am_U, am_U] [.int j8] s) ?_ (fun j8 => ?_)
  · refine fu_ite (fun h9 => fu_step (fu_lc_ne_t rfl rfl h9) ?_) (fun h9 => fu_step (fu_lc_ne_f rfl rfl h9) ?_)
    · refine fu_go 2 (pc' := 70) (ls' := [.ref 5, .int a1, am_U, .long r7.1, am_U, .int r7.2, am_U, am_U]) (st' := [.int (4 : Int32)]) (s' := s) rfl ?_
      exact fu_leaf rfl ⟨.inr rfl, .inr rfl, .inl rfl, .inr rfl, .inl rfl, .inr rfl, .inl rfl, .inl rfl, trivial⟩
    · refine fu_go 1 (pc' := 70) (ls' := [.ref 5, .int a1, am_U, .long r7.1, am_U, .int r7.2, am_U, am_U]) (st' := [.int (3 : Int32)]) (s' := s) rfl ?_
      exact fu_leaf rfl ⟨.inr rfl, .inr rfl, .inl rfl, .inr rfl, .inl rfl, .inr rfl, .inl rfl, .inl rfl, trivial⟩
  show fu_J _ _ (fc_X d (some .int) k_X8_takeWord 70 [.ref 5, .int a1, am_U, .long r7.1, am_U, .int r7.2, am_U, am_U] [.int j8] s)
  refine fu_go 3 (pc' := 75) (ls' := [.ref 5, .int a1, am_U, .long r7.1, am_U, .int r7.2, .int j8, .int (0 : Int32)]) (st' := []) (s' := s) rfl ?_
  refine fu_drop (ls' := [.ref 5, .int a1, am_U, .long r7.1, am_U, .int r7.2, .int j8, .int (0 : Int32)]) ⟨.inr rfl, .inr rfl, .inl rfl, .inr rfl, .inl rfl, .inr rfl, .inr rfl, .inr rfl, trivial⟩ ?_
  refine fu_bind (el_X8_takeWord_75 d (by omega) fu_N s a1 r7.1 r7.2 j8 (0 : Int32)) (fun r14 => ?_)
  show fu_J _ _ (fc_X d (some .int) k_X8_takeWord 112 [.ref 5, .int a1, am_U, .long r7.1, am_U, .int r7.2, .int r14, am_U] [] s)
  refine fu_go 4 (pc' := 117) (ls' := [.ref 5, .int a1, am_U, .long r7.1, am_U, .int r7.2, .int r14, am_U]) (st' := [.long r7.1, .int a1, .int r14, .ref 5]) (s' := s) rfl ?_
  refine fu_bind (fu_cVJ rfl rfl rfl rfl rfl (fu_recv fc_5 am_at_X8_add rfl) (e_X8_add d (by omega) s r14 a1 r7.1)) (fun r15 => ?_)
  show fu_J _ _ (fc_X d (some .int) k_X8_takeWord 120 [.ref 5, .int a1, am_U, .long r7.1, am_U, .int r7.2, .int r14, am_U] [] r15)
  refine fu_go 1 (pc' := 122) (ls' := [.ref 5, .int a1, am_U, .long r7.1, am_U, .int r7.2, .int r14, am_U]) (st' := [.int r7.2]) (s' := r15) rfl ?_
  exact fu_iret rfl rfl
/-! X8_isDigit -/
set_option maxRecDepth 100000 in
theorem e_X8_isDigit (d : Nat) (hd : 1 ≤ d) (s : fu_S) (a0 : Int32) : fu_J (some (f_X8_isDigit a0)) (fun r => some (some (.int (fu_b r)), s)) (am_D (fu_ho fc_sh) am_m d 151 [.int a0] s) := by
  obtain ⟨d, rfl⟩ : ∃ e, d = e + 1 := ⟨d - 1, by omega⟩
  refine fu_enter (ls := [.int a0]) am_at_X8_isDigit rfl rfl ?_
  show fu_J _ _ (fc_X d (some .boolean) k_X8_isDigit 0 [.int a0] [] s)
  unfold f_X8_isDigit
  refine fu_go 2 (pc' := 3) (ls' := [.int a0]) (st' := [.int (48 : Int32), .int a0]) (s' := s) rfl ?_
  refine fu_letS (V := fun j1 : Bool => fc_X d (some .boolean) k_X8_isDigit 17 [am_U] [.int (fu_b j1)] s) ?_ (fun j1 => ?_)
  · refine fu_iteS (fun h2 => fu_step (fu_ic_lt_t rfl h2) ?_) (fun h2 => fu_step (fu_ic_lt_f rfl h2) ?_)
    · refine fu_go 1 (pc' := 17) (ls' := [.int a0]) (st' := [.int (0 : Int32)]) (s' := s) rfl ?_
      exact fu_leaf rfl ⟨.inl rfl, trivial⟩
    · refine fu_go 2 (pc' := 9) (ls' := [.int a0]) (st' := [.int (57 : Int32), .int a0]) (s' := s) rfl ?_
      refine fu_iteS (fun h3 => fu_step (fu_ic_gt_t rfl h3) ?_) (fun h3 => fu_step (fu_ic_gt_f rfl h3) ?_)
      · refine fu_go 2 (pc' := 17) (ls' := [.int a0]) (st' := [.int (1 : Int32)]) (s' := s) rfl ?_
        exact fu_leaf rfl ⟨.inl rfl, trivial⟩
      · refine fu_go 1 (pc' := 17) (ls' := [.int a0]) (st' := [.int (0 : Int32)]) (s' := s) rfl ?_
        exact fu_leaf rfl ⟨.inl rfl, trivial⟩
  show fu_J _ _ (fc_X d (some .boolean) k_X8_isDigit 17 [am_U] [.int (fu_b j1)] s)
  exact fu_bret (b := j1) rfl rfl
/-! X8_takeDigits -/
theorem el_X8_takeDigits_5 (d : Nat) (hd : 1 ≤ d) : ∀ (n : Nat) (s : fu_S) (x1 : Int32) (x2 : Int32) (x3 : Int32) (x4 : Int32), fu_J (l_X8_takeDigits_5 n s x1 x2 x3 x4) (fun r => fc_X d (some .int) k_X8_takeDigits 58 [.ref 5, .int x1, am_U, .int r.1, .int r.2] [] s) (fc_X d (some .int) k_X8_takeDigits 5 [.ref 5, .int x1, .int x2, .int x3, .int x4] [] s) := by
  intro n
  induction n with
  | zero => intros; exact fu_none
  | succ n ih =>
    intro s x1 x2 x3 x4
    rw [l_X8_takeDigits_5]
    refine fu_go 2 (pc' := 8) (ls' := [.ref 5, .int x1, .int x2, .int x3, .int x4]) (st' := [.int x2, .int x4]) (s' := s) rfl ?_
    refine fu_ite (fun h1 => fu_step (fu_ic_ge_t rfl h1) ?_) (fun h1 => fu_step (fu_ic_ge_f rfl h1) ?_)
    · refine fu_go 1 (pc' := 12) (ls' := [.ref 5, .int x1, .int x2, .int x3, .int x4]) (st' := [.ref 5]) (s' := s) rfl ?_
      refine fu_step (fu_getR rfl fc_5 rfl rfl) ?_
      refine fu_go 1 (pc' := 17) (ls' := [.ref 5, .int x1, .int x2, .int x3, .int x4]) (st' := [.int x4, .ref 7]) (s' := s) rfl ?_
      refine fu_guard (fun h2 => fu_step (fu_ldB rfl fc_7 h2) ?_)
      refine fu_step (fu_cS rfl rfl rfl rfl rfl rfl (fu_eq (e_X8_isDigit d (by omega) s (s.1 7 (Int32.toNatClampNeg x4))) rfl)) ?_
      show fu_J _ _ (fc_X d (some .int) k_X8_takeDigits 21 [.ref 5, .int x1, .int x2, .int x3, .int x4] [.int (fu_b (f_X8_isDigit (s.1 7 (Int32.toNatClampNeg x4))))] s)
      refine fu_ite (fun h3 => fu_step (fu_ib_eq_t rfl h3) ?_) (fun h3 => fu_step (fu_ib_eq_f rfl h3) ?_)
      · refine fu_go 4 (pc' := 29) (ls' := [.ref 5, .int x1, .int x2, .int x3, .int x4]) (st' := [.int (4 : Int32), .int (x4 - x1)]) (s' := s) rfl ?_
        refine fu_bind (V := fun j4 : Int32 => fc_X d (some .int) k_X8_takeDigits 51 [.ref 5, .int x1, .int x2, am_U, .int x4] [.int j4] s) ?_ (fun j4 => ?_)
        · refine fu_ite (fun h5 => fu_step (fu_ic_ge_t rfl h5) ?_) (fun h5 => fu_step (fu_ic_ge_f rfl h5) ?_)
          · refine fu_go 4 (pc' := 37) (ls' := [.ref 5, .int x1, .int x2, .int x3, .int x4]) (st' := [.ref 5, .int (x3 * (10 : Int32))]) (s' := s) rfl ?_
            refine fu_step (fu_getR rfl fc_5 rfl rfl) ?_
            refine fu_go 1 (pc' := 42) (ls' := [.ref 5, .int x1, .int x2, .int x3, .int x4]) (st' := [.int x4, .ref 7, .int (x3 * (10 : Int32))]) (s' := s) rfl ?_
            refine fu_guard (fun h6 => fu_step (fu_ldB rfl fc_7 h6) ?_)
            refine fu_go 4 (pc' := 51) (ls' := [.ref 5, .int x1, .int x2, .int x3, .int x4]) (st' := [.int (((x3 * (10 : Int32)) + (s.1 7 (Int32.toNatClampNeg x4))) - (48 : Int32))]) (s' := s) rfl ?_
            exact fu_leaf rfl ⟨.inr rfl, .inr rfl, .inr rfl, .inl rfl, .inr rfl, trivial⟩
          · refine fu_go 1 (pc' := 51) (ls' := [.ref 5, .int x1, .int x2, .int x3, .int x4]) (st' := [.int (0 : Int32)]) (s' := s) rfl ?_
            exact fu_leaf rfl ⟨.inr rfl, .inr rfl, .inr rfl, .inl rfl, .inr rfl, trivial⟩
        show fu_J _ _ (fc_X d (some .int) k_X8_takeDigits 51 [.ref 5, .int x1, .int x2, am_U, .int x4] [.int j4] s)
        refine fu_go 3 (pc' := 5) (ls' := [.ref 5, .int x1, .int x2, .int j4, .int (x4 + (1 : Int32))]) (st' := []) (s' := s) rfl ?_
        exact fu_drop (ls' := [.ref 5, .int x1, .int x2, .int j4, .int (x4 + (1 : Int32))]) ⟨.inr rfl, .inr rfl, .inr rfl, .inr rfl, .inr rfl, trivial⟩ (ih s x1 x2 j4 (x4 + (1 : Int32)))
      · exact fu_leaf rfl ⟨.inr rfl, .inr rfl, .inl rfl, .inr rfl, .inr rfl, trivial⟩
    · exact fu_leaf rfl ⟨.inr rfl, .inr rfl, .inl rfl, .inr rfl, .inr rfl, trivial⟩
set_option maxRecDepth 100000 in
theorem e_X8_takeDigits (d : Nat) (hd : 2 ≤ d) (s : fu_S) (a1 : Int32) (a2 : Int32) : fu_J (f_X8_takeDigits s a1 a2) (fun r => some (some (.int r.1), r.2)) (am_D (fu_ho fc_sh) am_m d 148 [.ref 5, .int a1, .int a2] s) := by
  obtain ⟨d, rfl⟩ : ∃ e, d = e + 1 := ⟨d - 1, by omega⟩
  refine fu_enter (ls := [.ref 5, .int a1, .int a2, am_U, am_U]) am_at_X8_takeDigits rfl rfl ?_
  show fu_J _ _ (fc_X d (some .int) k_X8_takeDigits 0 [.ref 5, .int a1, .int a2, am_U, am_U] [] s)
  unfold f_X8_takeDigits
  refine fu_go 4 (pc' := 5) (ls' := [.ref 5, .int a1, .int a2, .int (0 : Int32), .int a1]) (st' := []) (s' := s) rfl ?_
  refine fu_drop (ls' := [.ref 5, .int a1, .int a2, .int (0 : Int32), .int a1]) ⟨.inr rfl, .inr rfl, .inr rfl, .inr rfl, .inr rfl, trivial⟩ ?_
  refine fu_bind (el_X8_takeDigits_5 d (by omega) fu_N s a1 a2 (0 : Int32) a1) (fun r7 => ?_)
  show fu_J _ _ (fc_X d (some .int) k_X8_takeDigits 58 [.ref 5, .int a1, am_U, .int r7.1, .int r7.2] [] s)
  refine fu_go 5 (pc' := 64) (ls' := [.ref 5, .int a1, am_U, .int r7.1, .int r7.2]) (st' := [.int (4 : Int32), .int (r7.2 - a1), .ref 5]) (s' := s) rfl ?_
  refine fu_bind (V := fun j8 : Int32 => fc_X d (some .int) k_X8_takeDigits 72 [am_U, .int a1, am_U, .int r7.1, .int r7.2] [.int j8, .ref 5] s) ?_ (fun j8 => ?_)
  · refine fu_ite (fun h9 => fu_step (fu_ic_le_t rfl h9) ?_) (fun h9 => fu_step (fu_ic_le_f rfl h9) ?_)
    · refine fu_go 1 (pc' := 72) (ls' := [.ref 5, .int a1, am_U, .int r7.1, .int r7.2]) (st' := [.int (2 : Int32), .ref 5]) (s' := s) rfl ?_
      exact fu_leaf rfl ⟨.inl rfl, .inr rfl, .inl rfl, .inr rfl, .inr rfl, trivial⟩
    · refine fu_go 2 (pc' := 72) (ls' := [.ref 5, .int a1, am_U, .int r7.1, .int r7.2]) (st' := [.int (1 : Int32), .ref 5]) (s' := s) rfl ?_
      exact fu_leaf rfl ⟨.inl rfl, .inr rfl, .inl rfl, .inr rfl, .inr rfl, trivial⟩
  show fu_J _ _ (fc_X d (some .int) k_X8_takeDigits 72 [am_U, .int a1, am_U, .int r7.1, .int r7.2] [.int j8, .ref 5] s)
  refine fu_go 3 (pc' := 75) (ls' := [am_U, .int a1, am_U, .int r7.1, .int r7.2]) (st' := [.long (Int32.toInt64 r7.1), .int a1, .int j8, .ref 5]) (s' := s) rfl ?_
  refine fu_bind (fu_cVJ rfl rfl rfl rfl rfl (fu_recv fc_5 am_at_X8_add rfl) (e_X8_add d (by omega) s j8 a1 (Int32.toInt64 r7.1))) (fun r10 => ?_)
  show fu_J _ _ (fc_X d (some .int) k_X8_takeDigits 78 [am_U, .int a1, am_U, .int r7.1, .int r7.2] [] r10)
  refine fu_go 1 (pc' := 80) (ls' := [am_U, .int a1, am_U, .int r7.1, .int r7.2]) (st' := [.int r7.2]) (s' := r10) rfl ?_
  exact fu_iret rfl rfl
/-! X8_takeToken -/
set_option maxRecDepth 100000 in
theorem e_X8_takeToken (d : Nat) (hd : 3 ≤ d) (s : fu_S) (a1 : Int32) (a2 : Int32) : fu_J (f_X8_takeToken s a1 a2) (fun r => some (some (.int r.1), r.2)) (am_D (fu_ho fc_sh) am_m d 146 [.ref 5, .int a1, .int a2] s) := by
  obtain ⟨d, rfl⟩ : ∃ e, d = e + 1 := ⟨d - 1, by omega⟩
  refine fu_enter (ls := [.ref 5, .int a1, .int a2, am_U]) am_at_X8_takeToken rfl rfl ?_
  show fu_J _ _ (fc_X d (some .int) k_X8_takeToken 0 [.ref 5, .int a1, .int a2, am_U] [] s)
  unfold f_X8_takeToken
  refine fu_go 1 (pc' := 1) (ls' := [.ref 5, .int a1, .int a2, am_U]) (st' := [.int a1]) (s' := s) rfl ?_
  refine fu_ite (fun h1 => fu_step (fu_if_lt_t rfl h1) ?_) (fun h1 => fu_step (fu_if_lt_f rfl h1) ?_)
  · refine fu_go 1 (pc' := 17) (ls' := [.ref 5, .int a1, .int a2, am_U]) (st' := [.int a2]) (s' := s) rfl ?_
    exact fu_iret rfl rfl
  · refine fu_go 2 (pc' := 6) (ls' := [.ref 5, .int a1, .int a2, am_U]) (st' := [.int a2, .int a1]) (s' := s) rfl ?_
    refine fu_ite (fun h2 => fu_step (fu_ic_ge_t rfl h2) ?_) (fun h2 => fu_step (fu_ic_ge_f rfl h2) ?_)
    · refine fu_go 2 (pc' := 13) (ls' := [.ref 5, .int a1, .int a2, am_U]) (st' := [.int (900 : Int32), .int a2]) (s' := s) rfl ?_
      refine fu_ite (fun h3 => fu_step (fu_ic_le_t rfl h3) ?_) (fun h3 => fu_step (fu_ic_le_f rfl h3) ?_)
      · refine fu_go 1 (pc' := 19) (ls' := [.ref 5, .int a1, .int a2, am_U]) (st' := [.ref 5]) (s' := s) rfl ?_
        refine fu_step (fu_getR rfl fc_5 rfl rfl) ?_
        refine fu_go 1 (pc' := 23) (ls' := [.ref 5, .int a1, .int a2, am_U]) (st' := [.int a1, .ref 7]) (s' := s) rfl ?_
        refine fu_guard (fun h4 => fu_step (fu_ldB rfl fc_7 h4) ?_)
        refine fu_go 2 (pc' := 26) (ls' := [.ref 5, .int a1, .int a2, .int (s.1 7 (Int32.toNatClampNeg a1))]) (st' := [.int (s.1 7 (Int32.toNatClampNeg a1))]) (s' := s) rfl ?_
        refine fu_step (fu_cS rfl rfl rfl rfl rfl rfl (fu_eq (e_X8_isLetter d (by omega) s (s.1 7 (Int32.toNatClampNeg a1))) rfl)) ?_
        show fu_J _ _ (fc_X d (some .int) k_X8_takeToken 29 [.ref 5, .int a1, .int a2, .int (s.1 7 (Int32.toNatClampNeg a1))] [.int (fu_b (f_X8_isLetter (s.1 7 (Int32.toNatClampNeg a1))))] s)
        refine fu_ite (fun h5 => fu_step (fu_ib_eq_t rfl h5) ?_) (fun h5 => fu_step (fu_ib_eq_f rfl h5) ?_)
        · refine fu_go 3 (pc' := 35) (ls' := [.ref 5, .int a1, .int a2, .int (s.1 7 (Int32.toNatClampNeg a1))]) (st' := [.int a2, .int a1, .ref 5]) (s' := s) rfl ?_
          refine fu_bind (fu_cVJ rfl rfl rfl rfl rfl (fu_recv fc_5 am_at_X8_takeWord rfl) (e_X8_takeWord d (by omega) s a1 a2)) (fun r6 => ?_)
          show fu_J _ _ (fc_X d (some .int) k_X8_takeToken 38 [.ref 5, .int a1, .int a2, .int (s.1 7 (Int32.toNatClampNeg a1))] [.int r6.1] r6.2)
          exact fu_iret rfl rfl
        · refine fu_go 1 (pc' := 40) (ls' := [.ref 5, .int a1, .int a2, .int (s.1 7 (Int32.toNatClampNeg a1))]) (st' := [.int (s.1 7 (Int32.toNatClampNeg a1))]) (s' := s) rfl ?_
          refine fu_step (fu_cS rfl rfl rfl rfl rfl rfl (fu_eq (e_X8_isDigit d (by omega) s (s.1 7 (Int32.toNatClampNeg a1))) rfl)) ?_
          show fu_J _ _ (fc_X d (some .int) k_X8_takeToken 43 [.ref 5, .int a1, .int a2, .int (s.1 7 (Int32.toNatClampNeg a1))] [.int (fu_b (f_X8_isDigit (s.1 7 (Int32.toNatClampNeg a1))))] s)
          refine fu_ite (fun h7 => fu_step (fu_ib_eq_t rfl h7) ?_) (fun h7 => fu_step (fu_ib_eq_f rfl h7) ?_)
          · refine fu_go 3 (pc' := 49) (ls' := [.ref 5, .int a1, .int a2, .int (s.1 7 (Int32.toNatClampNeg a1))]) (st' := [.int a2, .int a1, .ref 5]) (s' := s) rfl ?_
            refine fu_bind (fu_cVJ rfl rfl rfl rfl rfl (fu_recv fc_5 am_at_X8_takeDigits rfl) (e_X8_takeDigits d (by omega) s a1 a2)) (fun r8 => ?_)
            show fu_J _ _ (fc_X d (some .int) k_X8_takeToken 52 [.ref 5, .int a1, .int a2, .int (s.1 7 (Int32.toNatClampNeg a1))] [.int r8.1] r8.2)
            exact fu_iret rfl rfl
          · refine fu_go 3 (pc' := 57) (ls' := [.ref 5, .int a1, .int a2, .int (s.1 7 (Int32.toNatClampNeg a1))]) (st' := [.int (59 : Int32), .int (s.1 7 (Int32.toNatClampNeg a1)), .ref 5]) (s' := s) rfl ?_
            refine fu_bind (V := fun j9 : Int32 => fc_X d (some .int) k_X8_takeToken 83 [am_U, .int a1, am_U, am_U] [.int j9, .ref 5] s) ?_ (fun j9 => ?_)
            · refine fu_ite (fun h10 => fu_step (fu_ic_eq_t rfl h10) ?_) (fun h10 => fu_step (fu_ic_eq_f rfl h10) ?_)
              · refine fu_go 2 (pc' := 83) (ls' := [.ref 5, .int a1, .int a2, .int (s.1 7 (Int32.toNatClampNeg a1))]) (st' := [.int (s.1 7 (Int32.toNatClampNeg a1)), .ref 5]) (s' := s) rfl ?_
                exact fu_leaf rfl ⟨.inl rfl, .inr rfl, .inl rfl, .inl rfl, trivial⟩
              · refine fu_go 2 (pc' := 63) (ls' := [.ref 5, .int a1, .int a2, .int (s.1 7 (Int32.toNatClampNeg a1))]) (st' := [.int (60 : Int32), .int (s.1 7 (Int32.toNatClampNeg a1)), .ref 5]) (s' := s) rfl ?_
                refine fu_ite (fun h11 => fu_step (fu_ic_eq_t rfl h11) ?_) (fun h11 => fu_step (fu_ic_eq_f rfl h11) ?_)
                · refine fu_go 2 (pc' := 83) (ls' := [.ref 5, .int a1, .int a2, .int (s.1 7 (Int32.toNatClampNeg a1))]) (st' := [.int (s.1 7 (Int32.toNatClampNeg a1)), .ref 5]) (s' := s) rfl ?_
                  exact fu_leaf rfl ⟨.inl rfl, .inr rfl, .inl rfl, .inl rfl, trivial⟩
                · refine fu_go 2 (pc' := 69) (ls' := [.ref 5, .int a1, .int a2, .int (s.1 7 (Int32.toNatClampNeg a1))]) (st' := [.int (62 : Int32), .int (s.1 7 (Int32.toNatClampNeg a1)), .ref 5]) (s' := s) rfl ?_
                  refine fu_ite (fun h12 => fu_step (fu_ic_eq_t rfl h12) ?_) (fun h12 => fu_step (fu_ic_eq_f rfl h12) ?_)
                  · refine fu_go 2 (pc' := 83) (ls' := [.ref 5, .int a1, .int a2, .int (s.1 7 (Int32.toNatClampNeg a1))]) (st' := [.int (s.1 7 (Int32.toNatClampNeg a1)), .ref 5]) (s' := s) rfl ?_
                    exact fu_leaf rfl ⟨.inl rfl, .inr rfl, .inl rfl, .inl rfl, trivial⟩
                  · refine fu_go 2 (pc' := 75) (ls' := [.ref 5, .int a1, .int a2, .int (s.1 7 (Int32.toNatClampNeg a1))]) (st' := [.int (61 : Int32), .int (s.1 7 (Int32.toNatClampNeg a1)), .ref 5]) (s' := s) rfl ?_
                    refine fu_ite (fun h13 => fu_step (fu_ic_ne_t rfl h13) ?_) (fun h13 => fu_step (fu_ic_ne_f rfl h13) ?_)
                    · refine fu_go 2 (pc' := 83) (ls' := [.ref 5, .int a1, .int a2, .int (s.1 7 (Int32.toNatClampNeg a1))]) (st' := [.int (s.1 7 (Int32.toNatClampNeg a1)), .ref 5]) (s' := s) rfl ?_
                      exact fu_leaf rfl ⟨.inl rfl, .inr rfl, .inl rfl, .inl rfl, trivial⟩
                    · refine fu_go 1 (pc' := 83) (ls' := [.ref 5, .int a1, .int a2, .int (s.1 7 (Int32.toNatClampNeg a1))]) (st' := [.int (1 : Int32), .ref 5]) (s' := s) rfl ?_
                      exact fu_leaf rfl ⟨.inl rfl, .inr rfl, .inl rfl, .inl rfl, trivial⟩
            show fu_J _ _ (fc_X d (some .int) k_X8_takeToken 83 [am_U, .int a1, am_U, am_U] [.int j9, .ref 5] s)
            refine fu_go 2 (pc' := 85) (ls' := [am_U, .int a1, am_U, am_U]) (st' := [.long (0 : Int64), .int a1, .int j9, .ref 5]) (s' := s) rfl ?_
            refine fu_bind (fu_cVJ rfl rfl rfl rfl rfl (fu_recv fc_5 am_at_X8_add rfl) (e_X8_add d (by omega) s j9 a1 (0 : Int64))) (fun r14 => ?_)
            show fu_J _ _ (fc_X d (some .int) k_X8_takeToken 88 [am_U, .int a1, am_U, am_U] [] r14)
            refine fu_go 3 (pc' := 91) (ls' := [am_U, .int a1, am_U, am_U]) (st' := [.int (a1 + (1 : Int32))]) (s' := r14) rfl ?_
            exact fu_iret rfl rfl
      · refine fu_go 1 (pc' := 17) (ls' := [.ref 5, .int a1, .int a2, am_U]) (st' := [.int a2]) (s' := s) rfl ?_
        exact fu_iret rfl rfl
    · refine fu_go 1 (pc' := 17) (ls' := [.ref 5, .int a1, .int a2, am_U]) (st' := [.int a2]) (s' := s) rfl ?_
      exact fu_iret rfl rfl
/-! X8_open -/
theorem el_X8_open_38 (d : Nat) (hd : 3 ≤ d) : ∀ (n : Nat) (s : fu_S) (x2 : Int32) (x3 : Int32) (x4 : Int32), fu_J (l_X8_open_38 n s x2 x3 x4) (fun r => fc_X d none k_X8_open 82 [.ref 5, am_U, .int x2, am_U, am_U] [] r) (fc_X d none k_X8_open 38 [.ref 5, am_U, .int x2, .int x3, .int x4] [] s) := by
  intro n
  induction n with
  | zero => intros; exact fu_none
  | succ n ih =>
    intro s x2 x3 x4
    rw [l_X8_open_38]
    refine fu_go 2 (pc' := 43) (ls' := [.ref 5, am_U, .int x2, .int x3, .int x4]) (st' := [.int (900 : Int32), .int x4]) (s' := s) rfl ?_
    refine fu_ite (fun h5 => fu_step (fu_ic_ge_t rfl h5) ?_) (fun h5 => fu_step (fu_ic_ge_f rfl h5) ?_)
    · refine fu_go 2 (pc' := 48) (ls' := [.ref 5, am_U, .int x2, .int x3, .int x4]) (st' := [.int x2, .int x3]) (s' := s) rfl ?_
      refine fu_ite (fun h6 => fu_step (fu_ic_ge_t rfl h6) ?_) (fun h6 => fu_step (fu_ic_ge_f rfl h6) ?_)
      · refine fu_go 1 (pc' := 52) (ls' := [.ref 5, am_U, .int x2, .int x3, .int x4]) (st' := [.ref 5]) (s' := s) rfl ?_
        refine fu_step (fu_getR rfl fc_5 rfl rfl) ?_
        refine fu_go 1 (pc' := 56) (ls' := [.ref 5, am_U, .int x2, .int x3, .int x4]) (st' := [.int x3, .ref 7]) (s' := s) rfl ?_
        refine fu_guard (fun h7 => fu_step (fu_ldB rfl fc_7 h7) ?_)
        refine fu_step (fu_cS rfl rfl rfl rfl rfl rfl (fu_eq (e_X8_isBlank d (by omega) s (s.1 7 (Int32.toNatClampNeg x3))) rfl)) ?_
        show fu_J _ _ (fc_X d none k_X8_open 60 [.ref 5, am_U, .int x2, .int x3, .int x4] [.int (fu_b (f_X8_isBlank (s.1 7 (Int32.toNatClampNeg x3))))] s)
        refine fu_bind (V := fun j8 : Int32 × fu_S => fc_X d none k_X8_open 75 [.ref 5, am_U, .int x2, am_U, .int x4] [.int j8.1] j8.2) ?_ (fun j8 => ?_)
        · refine fu_ite (fun h9 => fu_step (fu_ib_eq_t rfl h9) ?_) (fun h9 => fu_step (fu_ib_eq_f rfl h9) ?_)
          · refine fu_go 4 (pc' := 75) (ls' := [.ref 5, am_U, .int x2, .int x3, .int x4]) (st' := [.int (x3 + (1 : Int32))]) (s' := s) rfl ?_
            exact fu_leaf rfl ⟨.inr rfl, .inl rfl, .inr rfl, .inl rfl, .inr rfl, trivial⟩
          · refine fu_go 3 (pc' := 72) (ls' := [.ref 5, am_U, .int x2, .int x3, .int x4]) (st' := [.int x2, .int x3, .ref 5]) (s' := s) rfl ?_
            refine fu_bind (fu_cVJ rfl rfl rfl rfl rfl (fu_recv fc_5 am_at_X8_takeToken rfl) (e_X8_takeToken d (by omega) s x3 x2)) (fun r10 => ?_)
            show fu_J _ _ (fc_X d none k_X8_open 75 [.ref 5, am_U, .int x2, .int x3, .int x4] [.int r10.1] r10.2)
            exact fu_leaf rfl ⟨.inr rfl, .inl rfl, .inr rfl, .inl rfl, .inr rfl, trivial⟩
        show fu_J _ _ (fc_X d none k_X8_open 75 [.ref 5, am_U, .int x2, am_U, .int x4] [.int j8.1] j8.2)
        refine fu_go 3 (pc' := 38) (ls' := [.ref 5, am_U, .int x2, .int j8.1, .int (x4 + (1 : Int32))]) (st' := []) (s' := j8.2) rfl ?_
        exact fu_drop (ls' := [.ref 5, am_U, .int x2, .int j8.1, .int (x4 + (1 : Int32))]) ⟨.inr rfl, .inl rfl, .inr rfl, .inr rfl, .inr rfl, trivial⟩ (ih j8.2 x2 j8.1 (x4 + (1 : Int32)))
      · exact fu_leaf rfl ⟨.inr rfl, .inl rfl, .inr rfl, .inl rfl, .inl rfl, trivial⟩
    · exact fu_leaf rfl ⟨.inr rfl, .inl rfl, .inr rfl, .inl rfl, .inl rfl, trivial⟩
set_option maxRecDepth 100000 in
theorem e_X8_open (d : Nat) (hd : 4 ≤ d) (s : fu_S) (a1 : Int32) : fu_J (f_X8_open s a1) (fun r => some (none, r)) (am_D (fu_ho fc_sh) am_m d 145 [.ref 5, .int a1] s) := by
  obtain ⟨d, rfl⟩ : ∃ e, d = e + 1 := ⟨d - 1, by omega⟩
  refine fu_enter (ls := [.ref 5, .int a1, am_U, am_U, am_U]) am_at_X8_open rfl rfl ?_
  show fu_J _ _ (fc_X d none k_X8_open 0 [.ref 5, .int a1, am_U, am_U, am_U] [] s)
  unfold f_X8_open
  refine fu_go 3 (pc' := 3) (ls' := [.ref 5, .int a1, am_U, am_U, am_U]) (st' := [.ref 5, .int a1, .int (0 : Int32)]) (s' := s) rfl ?_
  refine fu_step (fu_getI rfl fc_5 rfl rfl) ?_
  refine fu_step (fu_prim rfl rfl rfl rfl) ?_
  refine fu_step (fu_prim rfl rfl rfl rfl) ?_
  refine fu_go 3 (pc' := 15) (ls' := [.ref 5, .int a1, .int (fu_mx (0 : Int32) (fu_mn a1 (s.1 5 2))), am_U, am_U]) (st' := [.int (0 : Int32), .ref 5]) (s' := s) rfl ?_
  refine fu_lets (b := (fu_pi s 5 6 (0 : Int32))) (fu_putI rfl fc_5 rfl rfl) (fun s1 => ?_)
  refine fu_go 2 (pc' := 20) (ls' := [.ref 5, .int a1, .int (fu_mx (0 : Int32) (fu_mn a1 (s.1 5 2))), am_U, am_U]) (st' := [.int (0 : Int32), .ref 5]) (s' := s1) rfl ?_
  refine fu_lets (b := (fu_pi s1 5 7 (0 : Int32))) (fu_putI rfl fc_5 rfl rfl) (fun s2 => ?_)
  refine fu_go 2 (pc' := 25) (ls' := [.ref 5, .int a1, .int (fu_mx (0 : Int32) (fu_mn a1 (s.1 5 2))), am_U, am_U]) (st' := [.int (0 : Int32), .ref 5]) (s' := s2) rfl ?_
  refine fu_lets (b := (fu_pi s2 5 8 (0 : Int32))) (fu_putI rfl fc_5 rfl rfl) (fun s3 => ?_)
  refine fu_go 2 (pc' := 30) (ls' := [.ref 5, .int a1, .int (fu_mx (0 : Int32) (fu_mn a1 (s.1 5 2))), am_U, am_U]) (st' := [.int (-1 : Int32), .ref 5]) (s' := s3) rfl ?_
  refine fu_lets (b := (fu_pi s3 5 9 (-1 : Int32))) (fu_putI rfl fc_5 rfl rfl) (fun s4 => ?_)
  refine fu_go 4 (pc' := 38) (ls' := [.ref 5, .int a1, .int (fu_mx (0 : Int32) (fu_mn a1 (s.1 5 2))), .int (0 : Int32), .int (0 : Int32)]) (st' := []) (s' := s4) rfl ?_
  refine fu_drop (ls' := [.ref 5, am_U, .int (fu_mx (0 : Int32) (fu_mn a1 (s.1 5 2))), .int (0 : Int32), .int (0 : Int32)]) ⟨.inr rfl, .inl rfl, .inr rfl, .inr rfl, .inr rfl, trivial⟩ ?_
  refine fu_bind (el_X8_open_38 d (by omega) fu_N s4 (fu_mx (0 : Int32) (fu_mn a1 (s.1 5 2))) (0 : Int32) (0 : Int32)) (fun r11 => ?_)
  show fu_J _ _ (fc_X d none k_X8_open 82 [.ref 5, am_U, .int (fu_mx (0 : Int32) (fu_mn a1 (s.1 5 2))), am_U, am_U] [] r11)
  refine fu_go 4 (pc' := 86) (ls' := [.ref 5, am_U, .int (fu_mx (0 : Int32) (fu_mn a1 (s.1 5 2))), am_U, am_U]) (st' := [.long (0 : Int64), .int (fu_mx (0 : Int32) (fu_mn a1 (s.1 5 2))), .int (0 : Int32), .ref 5]) (s' := r11) rfl ?_
  refine fu_bind (fu_cVJ rfl rfl rfl rfl rfl (fu_recv fc_5 am_at_X8_add rfl) (e_X8_add d (by omega) r11 (0 : Int32) (fu_mx (0 : Int32) (fu_mn a1 (s.1 5 2))) (0 : Int64))) (fun r12 => ?_)
  show fu_J _ _ (fc_X d none k_X8_open 89 [.ref 5, am_U, .int (fu_mx (0 : Int32) (fu_mn a1 (s.1 5 2))), am_U, am_U] [] r12)
  exact fu_vret rfl rfl
/-! X9_cost -/
theorem el_X9_cost_9 (d : Nat) (hd : 2 ≤ d) : ∀ (n : Nat) (s : fu_S) (P0 : Nat) (hP0 : fc_is3 P0) (x1 : Int32) (x2 : Int32) (x3 : Int32) (x4 : Int32) (x5 : Int32), fu_J (l_X9_cost_9 n s P0 x1 x2 x3 x4 x5) (fun r => fc_X d (some .int) k_X9_cost 61 [am_U, .int x1, .int x2, .int r.1, .int r.2, am_U, am_U] [] s) (fc_X d (some .int) k_X9_cost 9 [.ref P0, .int x1, .int x2, .int x3, .int x4, .int x5, am_U] [] s) := by
  intro n
  induction n with
  | zero => intros; exact fu_none
  | succ n ih =>
    intro s P0 hP0 x1 x2 x3 x4 x5
    rw [l_X9_cost_9]
    refine fu_go 2 (pc' := 12) (ls' := [.ref P0, .int x1, .int x2, .int x3, .int x4, .int x5, am_U]) (st' := [.ref P0, .int x5]) (s' := s) rfl ?_
    refine fu_step (fu_cV rfl rfl rfl rfl rfl (fu_recv hP0.1 am_at_X4_things rfl) (fu_eq (e_X4_things d (by omega) s P0 hP0) rfl)) ?_
    show fu_J _ _ (fc_X d (some .int) k_X9_cost 15 [.ref P0, .int x1, .int x2, .int x3, .int x4, .int x5, am_U] [.int (f_X4_things s P0), .int x5] s)
    refine fu_ite (fun h1 => fu_step (fu_ic_ge_t rfl h1) ?_) (fun h1 => fu_step (fu_ic_ge_f rfl h1) ?_)
    · refine fu_go 5 (pc' := 24) (ls' := [.ref P0, .int x1, .int x2, .int x3, .int x4, .int x5, am_U]) (st' := [.int ((x2 >>> (x5 &&& 31)) &&& (1 : Int32))]) (s' := s) rfl ?_
      refine fu_bind (V := fun j2 : Int32 × Int32 => fc_X d (some .int) k_X9_cost 55 [.ref P0, .int x1, .int x2, .int j2.1, .int j2.2, .int x5, am_U] [] s) ?_ (fun j2 => ?_)
      · refine fu_ite (fun h3 => fu_step (fu_if_eq_t rfl h3) ?_) (fun h3 => fu_step (fu_if_eq_f rfl h3) ?_)
        · exact fu_leaf rfl ⟨.inr rfl, .inr rfl, .inr rfl, .inr rfl, .inr rfl, .inr rfl, .inl rfl, trivial⟩
        · refine fu_go 3 (pc' := 31) (ls' := [.ref P0, .int x1, .int x2, .int x3, .int x4, .int x5, am_U]) (st' := [.int x5, .ref P0, .ref P0]) (s' := s) rfl ?_
          refine fu_bind (fu_cVJ rfl rfl rfl rfl rfl (fu_recv hP0.1 am_at_X4_bearerOf rfl) (e_X4_bearerOf d (by omega) s P0 hP0 x5)) (fun r4 => ?_)
          show fu_J _ _ (fc_X d (some .int) k_X9_cost 34 [.ref P0, .int x1, .int x2, .int x3, .int x4, .int x5, am_U] [.int r4, .ref P0] s)
          refine fu_bind (fu_cVJ rfl rfl rfl rfl rfl (fu_recv hP0.1 am_at_X4_homeOf rfl) (e_X4_homeOf d (by omega) s P0 hP0 r4)) (fun r5 => ?_)
          show fu_J _ _ (fc_X d (some .int) k_X9_cost 37 [.ref P0, .int x1, .int x2, .int x3, .int x4, .int x5, am_U] [.int r5] s)
          refine fu_go 3 (pc' := 42) (ls' := [.ref P0, .int x1, .int x2, .int x3, .int x4, .int x5, .int r5]) (st' := [.int r5, .int x3]) (s' := s) rfl ?_
          refine fu_step (fu_prim rfl rfl rfl rfl) ?_
          refine fu_go 3 (pc' := 50) (ls' := [.ref P0, .int x1, .int x2, .int (fu_mn x3 r5), .int x4, .int x5, .int r5]) (st' := [.int r5, .int x4]) (s' := s) rfl ?_
          refine fu_step (fu_prim rfl rfl rfl rfl) ?_
          refine fu_go 1 (pc' := 55) (ls' := [.ref P0, .int x1, .int x2, .int (fu_mn x3 r5), .int (fu_mx x4 r5), .int x5, .int r5]) (st' := []) (s' := s) rfl ?_
          exact fu_leaf rfl ⟨.inr rfl, .inr rfl, .inr rfl, .inr rfl, .inr rfl, .inr rfl, .inl rfl, trivial⟩
      show fu_J _ _ (fc_X d (some .int) k_X9_cost 55 [.ref P0, .int x1, .int x2, .int j2.1, .int j2.2, .int x5, am_U] [] s)
      refine fu_go 2 (pc' := 9) (ls' := [.ref P0, .int x1, .int x2, .int j2.1, .int j2.2, .int (x5 + (1 : Int32)), am_U]) (st' := []) (s' := s) rfl ?_
      exact fu_drop (ls' := [.ref P0, .int x1, .int x2, .int j2.1, .int j2.2, .int (x5 + (1 : Int32)), am_U]) ⟨.inr rfl, .inr rfl, .inr rfl, .inr rfl, .inr rfl, .inr rfl, .inl rfl, trivial⟩ (ih s P0 hP0 x1 x2 j2.1 j2.2 (x5 + (1 : Int32)))
    · exact fu_leaf rfl ⟨.inl rfl, .inr rfl, .inr rfl, .inr rfl, .inr rfl, .inl rfl, .inl rfl, trivial⟩
set_option maxRecDepth 100000 in
theorem e_X9_cost (d : Nat) (hd : 3 ≤ d) (s : fu_S) (P0 : Nat) (hP0 : fc_is3 P0) (a1 : Int32) (a2 : Int32) : fu_J (f_X9_cost s P0 a1 a2) (fun r => some (some (.int r), s)) (am_D (fu_ho fc_sh) am_m d 165 [.ref P0, .int a1, .int a2] s) := by
  obtain ⟨d, rfl⟩ : ∃ e, d = e + 1 := ⟨d - 1, by omega⟩
  refine fu_enter (ls := [.ref P0, .int a1, .int a2, am_U, am_U, am_U, am_U]) am_at_X9_cost rfl rfl ?_
  show fu_J _ _ (fc_X d (some .int) k_X9_cost 0 [.ref P0, .int a1, .int a2, am_U, am_U, am_U, am_U] [] s)
  unfold f_X9_cost
  refine fu_go 6 (pc' := 9) (ls' := [.ref P0, .int a1, .int a2, .int (59 : Int32), .int (0 : Int32), .int (0 : Int32), am_U]) (st' := []) (s' := s) rfl ?_
  refine fu_drop (ls' := [.ref P0, .int a1, .int a2, .int (59 : Int32), .int (0 : Int32), .int (0 : Int32), am_U]) ⟨.inr rfl, .inr rfl, .inr rfl, .inr rfl, .inr rfl, .inr rfl, .inl rfl, trivial⟩ ?_
  refine fu_bind (el_X9_cost_9 d (by omega) fu_N s P0 hP0 a1 a2 (59 : Int32) (0 : Int32) (0 : Int32)) (fun r6 => ?_)
  show fu_J _ _ (fc_X d (some .int) k_X9_cost 61 [am_U, .int a1, .int a2, .int r6.1, .int r6.2, am_U, am_U] [] s)
  refine fu_go 1 (pc' := 62) (ls' := [am_U, .int a1, .int a2, .int r6.1, .int r6.2, am_U, am_U]) (st' := [.int a2]) (s' := s) rfl ?_
  refine fu_bind (V := fun j7 : Int32 => fc_X d (some .int) k_X9_cost 90 [am_U, am_U, am_U, am_U, am_U, am_U, am_U] [.int j7] s) ?_ (fun j7 => ?_)
  · refine fu_ite (fun h8 => fu_step (fu_if_ne_t rfl h8) ?_) (fun h8 => fu_step (fu_if_ne_f rfl h8) ?_)
    · refine fu_go 2 (pc' := 90) (ls' := [am_U, .int a1, .int a2, .int r6.1, .int r6.2, am_U, am_U]) (st' := [.int (0 : Int32)]) (s' := s) rfl ?_
      exact fu_leaf rfl ⟨.inl rfl, .inl rfl, .inl rfl, .inl rfl, .inl rfl, .inl rfl, .inl rfl, trivial⟩
    · refine fu_go 6 (pc' := 76) (ls' := [am_U, .int a1, .int a2, .int r6.1, .int r6.2, am_U, am_U]) (st' := [.int (a1 - r6.1), .int (r6.2 - r6.1)]) (s' := s) rfl ?_
      refine fu_step (fu_prim rfl rfl rfl rfl) ?_
      refine fu_go 3 (pc' := 83) (ls' := [am_U, .int a1, .int a2, .int r6.1, .int r6.2, am_U, am_U]) (st' := [.int (a1 - r6.2), .int (fu_ab (a1 - r6.1)), .int (r6.2 - r6.1)]) (s' := s) rfl ?_
      refine fu_step (fu_prim rfl rfl rfl rfl) ?_
      refine fu_step (fu_prim rfl rfl rfl rfl) ?_
      refine fu_go 1 (pc' := 90) (ls' := [am_U, .int a1, .int a2, .int r6.1, .int r6.2, am_U, am_U]) (st' := [.int ((r6.2 - r6.1) + (fu_mn (fu_ab (a1 - r6.1)) (fu_ab (a1 - r6.2))))]) (s' := s) rfl ?_
      exact fu_leaf rfl ⟨.inl rfl, .inl rfl, .inl rfl, .inl rfl, .inl rfl, .inl rfl, .inl rfl, trivial⟩
  show fu_J _ _ (fc_X d (some .int) k_X9_cost 90 [am_U, am_U, am_U, am_U, am_U, am_U, am_U] [.int j7] s)
  exact fu_iret rfl rfl
/-! X9_orders -/
theorem el_X9_orders_4 (d : Nat) (hd : 0 ≤ d) : ∀ (n : Nat) (s : fu_S) (x0 : Int32) (x1 : Int64) (x3 : Int32), fu_J (l_X9_orders_4 n x0 x1 x3) (fun r => fc_X d (some .long) k_X9_orders 26 [am_U, .long r, am_U, am_U] [] s) (fc_X d (some .long) k_X9_orders 4 [.int x0, .long x1, am_U, .int x3] [] s) := by
  intro n
  induction n with
  | zero => intros; exact fu_none
  | succ n ih =>
    intro s x0 x1 x3
    rw [l_X9_orders_4]
    refine fu_go 2 (pc' := 6) (ls' := [.int x0, .long x1, am_U, .int x3]) (st' := [.int x0, .int x3]) (s' := s) rfl ?_
    refine fu_ite (fun h1 => fu_step (fu_ic_gt_t rfl h1) ?_) (fun h1 => fu_step (fu_ic_gt_f rfl h1) ?_)
    · refine fu_go 2 (pc' := 12) (ls' := [.int x0, .long x1, am_U, .int x3]) (st' := [.int (8 : Int32), .int x3]) (s' := s) rfl ?_
      refine fu_ite (fun h2 => fu_step (fu_ic_gt_t rfl h2) ?_) (fun h2 => fu_step (fu_ic_gt_f rfl h2) ?_)
      · refine fu_go 7 (pc' := 4) (ls' := [.int x0, .long (x1 * (Int32.toInt64 x3)), am_U, .int (x3 + (1 : Int32))]) (st' := []) (s' := s) rfl ?_
        exact fu_drop (ls' := [.int x0, .long (x1 * (Int32.toInt64 x3)), am_U, .int (x3 + (1 : Int32))]) ⟨.inr rfl, .inr rfl, .inl rfl, .inr rfl, trivial⟩ (ih s x0 (x1 * (Int32.toInt64 x3)) (x3 + (1 : Int32)))
      · exact fu_leaf rfl ⟨.inl rfl, .inr rfl, .inl rfl, .inl rfl, trivial⟩
    · exact fu_leaf rfl ⟨.inl rfl, .inr rfl, .inl rfl, .inl rfl, trivial⟩
set_option maxRecDepth 100000 in
theorem e_X9_orders (d : Nat) (hd : 1 ≤ d) (s : fu_S) (a0 : Int32) : fu_J (f_X9_orders a0) (fun r => some (some (.long r), s)) (am_D (fu_ho fc_sh) am_m d 166 [.int a0] s) := by
  obtain ⟨d, rfl⟩ : ∃ e, d = e + 1 := ⟨d - 1, by omega⟩
  refine fu_enter (ls := [.int a0, am_U, am_U, am_U]) am_at_X9_orders rfl rfl ?_
  show fu_J _ _ (fc_X d (some .long) k_X9_orders 0 [.int a0, am_U, am_U, am_U] [] s)
  unfold f_X9_orders
  refine fu_go 4 (pc' := 4) (ls' := [.int a0, .long (1 : Int64), am_U, .int (2 : Int32)]) (st' := []) (s' := s) rfl ?_
  refine fu_drop (ls' := [.int a0, .long (1 : Int64), am_U, .int (2 : Int32)]) ⟨.inr rfl, .inr rfl, .inl rfl, .inr rfl, trivial⟩ ?_
  refine fu_bind (el_X9_orders_4 d (by omega) fu_N s a0 (1 : Int64) (2 : Int32)) (fun r3 => ?_)
  show fu_J _ _ (fc_X d (some .long) k_X9_orders 26 [am_U, .long r3, am_U, am_U] [] s)
  refine fu_go 1 (pc' := 27) (ls' := [am_U, .long r3, am_U, am_U]) (st' := [.long r3]) (s' := s) rfl ?_
  exact fu_lret rfl rfl
/-! X9_shareOfAllOrders -/
theorem el_X9_shareOfAllOrders_26 (d : Nat) (hd : 3 ≤ d) : ∀ (n : Nat) (s : fu_S) (P0 : Nat) (hP0 : fc_is3 P0) (x1 : Int32) (x3 : Int32) (x4 : Int32) (x5 : Int32) (x6 : Int64) (x8 : Int32), fu_J (l_X9_shareOfAllOrders_26 n s P0 x1 x3 x4 x5 x6 x8) (fun r => fc_X d (some .long) k_X9_shareOfAllOrders 100 [am_U, am_U, am_U, am_U, am_U, am_U, .long r, am_U, am_U, am_U, am_U, am_U] [] s) (fc_X d (some .long) k_X9_shareOfAllOrders 26 [.ref P0, .int x1, am_U, .int x3, .int x4, .int x5, .long x6, am_U, .int x8, am_U, am_U, am_U] [] s) := by
  intro n
  induction n with
  | zero => intros; exact fu_none
  | succ n ih =>
    intro s P0 hP0 x1 x3 x4 x5 x6 x8
    rw [l_X9_shareOfAllOrders_26]
    refine fu_go 2 (pc' := 30) (ls' := [.ref P0, .int x1, am_U, .int x3, .int x4, .int x5, .long x6, am_U, .int x8, am_U, am_U, am_U]) (st' := [.int x4, .int x8]) (s' := s) rfl ?_
    refine fu_ite (fun h1 => fu_step (fu_ic_gt_t rfl h1) ?_) (fun h1 => fu_step (fu_ic_gt_f rfl h1) ?_)
    · refine fu_go 5 (pc' := 40) (ls' := [.ref P0, .int x1, am_U, .int x3, .int x4, .int x5, .long x6, am_U, .int x8, am_U, am_U, am_U]) (st' := [.int (x8 &&& (x4 ^^^ (-1 : Int32)))]) (s' := s) rfl ?_
      refine fu_bind (V := fun j2 : Int64 => fc_X d (some .long) k_X9_shareOfAllOrders 94 [.ref P0, .int x1, am_U, .int x3, .int x4, .int x5, .long j2, am_U, .int x8, am_U, am_U, am_U] [] s) ?_ (fun j2 => ?_)
      · refine fu_ite (fun h3 => fu_step (fu_if_ne_t rfl h3) ?_) (fun h3 => fu_step (fu_if_ne_f rfl h3) ?_)
        · refine fu_go 1 (pc' := 45) (ls' := [.ref P0, .int x1, am_U, .int x3, .int x4, .int x5, .long x6, am_U, .int x8, am_U, am_U, am_U]) (st' := [.int x8]) (s' := s) rfl ?_
          refine fu_step (fu_cS rfl rfl rfl rfl rfl rfl (fu_eq (e_J6_bitCount_0f7a4 d (by omega) s x8) rfl)) ?_
          show fu_J _ _ (fc_X d (some .long) k_X9_shareOfAllOrders 48 [.ref P0, .int x1, am_U, .int x3, .int x4, .int x5, .long x6, am_U, .int x8, am_U, am_U, am_U] [.int (f_J6_bitCount_0f7a4 x8)] s)
          refine fu_go 8 (pc' := 58) (ls' := [.ref P0, .int x1, am_U, .int x3, .int x4, .int x5, .long x6, am_U, .int x8, .int (f_J6_bitCount_0f7a4 x8), am_U, am_U]) (st' := [.int (x8 ||| ((1 : Int32) <<< (x3 &&& 31))), .int x1, .ref P0]) (s' := s) rfl ?_
          refine fu_bind (fu_cSJ rfl rfl rfl rfl rfl rfl (e_X9_cost d (by omega) s P0 hP0 x1 (x8 ||| ((1 : Int32) <<< (x3 &&& 31))))) (fun r4 => ?_)
          show fu_J _ _ (fc_X d (some .long) k_X9_shareOfAllOrders 61 [.ref P0, .int x1, am_U, .int x3, .int x4, .int x5, .long x6, am_U, .int x8, .int (f_J6_bitCount_0f7a4 x8), am_U, am_U] [.int r4] s)
          refine fu_go 3 (pc' := 65) (ls' := [.ref P0, .int x1, am_U, .int x3, .int x4, .int x5, .long x6, am_U, .int x8, .int (f_J6_bitCount_0f7a4 x8), am_U, am_U]) (st' := [.int x8, .int x1, .ref P0, .int r4]) (s' := s) rfl ?_
          refine fu_bind (fu_cSJ rfl rfl rfl rfl rfl rfl (e_X9_cost d (by omega) s P0 hP0 x1 x8)) (fun r5 => ?_)
          show fu_J _ _ (fc_X d (some .long) k_X9_shareOfAllOrders 68 [.ref P0, .int x1, am_U, .int x3, .int x4, .int x5, .long x6, am_U, .int x8, .int (f_J6_bitCount_0f7a4 x8), am_U, am_U] [.int r5, .int r4] s)
          refine fu_go 5 (pc' := 76) (ls' := [.ref P0, .int x1, am_U, .int x3, .int x4, .int x5, .long x6, am_U, .int x8, .int (f_J6_bitCount_0f7a4 x8), .long (Int32.toInt64 (r4 - r5)), am_U]) (st' := [.int (f_J6_bitCount_0f7a4 x8), .long x6]) (s' := s) rfl ?_
          refine fu_bind (fu_cSJ rfl rfl rfl rfl rfl rfl (e_X9_orders d (by omega) s (f_J6_bitCount_0f7a4 x8))) (fun r6 => ?_)
          show fu_J _ _ (fc_X d (some .long) k_X9_shareOfAllOrders 79 [.ref P0, .int x1, am_U, .int x3, .int x4, .int x5, .long x6, am_U, .int x8, .int (f_J6_bitCount_0f7a4 x8), .long (Int32.toInt64 (r4 - r5)), am_U] [.long r6, .long x6] s)
          refine fu_go 3 (pc' := 84) (ls' := [.ref P0, .int x1, am_U, .int x3, .int x4, .int x5, .long x6, am_U, .int x8, .int (f_J6_bitCount_0f7a4 x8), .long (Int32.toInt64 (r4 - r5)), am_U]) (st' := [.int (x5 - (f_J6_bitCount_0f7a4 x8)), .long r6, .long x6]) (s' := s) rfl ?_
          refine fu_bind (fu_cSJ rfl rfl rfl rfl rfl rfl (e_X9_orders d (by omega) s (x5 - (f_J6_bitCount_0f7a4 x8)))) (fun r7 => ?_)
          show fu_J _ _ (fc_X d (some .long) k_X9_shareOfAllOrders 87 [.ref P0, .int x1, am_U, .int x3, .int x4, .int x5, .long x6, am_U, .int x8, .int (f_J6_bitCount_0f7a4 x8), .long (Int32.toInt64 (r4 - r5)), am_U] [.long r7, .long r6, .long x6] s)
          refine fu_go 5 (pc' := 94) (ls' := [.ref P0, .int x1, am_U, .int x3, .int x4, .int x5, .long (x6 + ((r6 * r7) * (Int32.toInt64 (r4 - r5)))), am_U, .int x8, .int (f_J6_bitCount_0f7a4 x8), .long (Int32.toInt64 (r4 - r5)), am_U]) (st' := []) (s' := s) rfl ?_
          exact fu_leaf rfl ⟨.inr rfl, .inr rfl, .inl rfl, .inr rfl, .inr rfl, .inr rfl, .inr rfl, .inl rfl, .inr rfl, .inl rfl, .inl rfl, .inl rfl, trivial⟩
        · exact fu_leaf rfl ⟨.inr rfl, .inr rfl, .inl rfl, .inr rfl, .inr rfl, .inr rfl, .inr rfl, .inl rfl, .inr rfl, .inl rfl, .inl rfl, .inl rfl, trivial⟩
      show fu_J _ _ (fc_X d (some .long) k_X9_shareOfAllOrders 94 [.ref P0, .int x1, am_U, .int x3, .int x4, .int x5, .long j2, am_U, .int x8, am_U, am_U, am_U] [] s)
      refine fu_go 2 (pc' := 26) (ls' := [.ref P0, .int x1, am_U, .int x3, .int x4, .int x5, .long j2, am_U, .int (x8 + (1 : Int32)), am_U, am_U, am_U]) (st' := []) (s' := s) rfl ?_
      exact fu_drop (ls' := [.ref P0, .int x1, am_U, .int x3, .int x4, .int x5, .long j2, am_U, .int (x8 + (1 : Int32)), am_U, am_U, am_U]) ⟨.inr rfl, .inr rfl, .inl rfl, .inr rfl, .inr rfl, .inr rfl, .inr rfl, .inl rfl, .inr rfl, .inl rfl, .inl rfl, .inl rfl, trivial⟩ (ih s P0 hP0 x1 x3 x4 x5 j2 (x8 + (1 : Int32)))
    · exact fu_leaf rfl ⟨.inl rfl, .inl rfl, .inl rfl, .inl rfl, .inl rfl, .inl rfl, .inr rfl, .inl rfl, .inl rfl, .inl rfl, .inl rfl, .inl rfl, trivial⟩
set_option maxRecDepth 100000 in
theorem e_X9_shareOfAllOrders (d : Nat) (hd : 4 ≤ d) (s : fu_S) (P0 : Nat) (hP0 : fc_is3 P0) (a1 : Int32) (a2 : Int32) (a3 : Int32) : fu_J (f_X9_shareOfAllOrders s P0 a1 a2 a3) (fun r => some (some (.long r), s)) (am_D (fu_ho fc_sh) am_m d 167 [.ref P0, .int a1, .int a2, .int a3] s) := by
  obtain ⟨d, rfl⟩ : ∃ e, d = e + 1 := ⟨d - 1, by omega⟩
  refine fu_enter (ls := [.ref P0, .int a1, .int a2, .int a3, am_U, am_U, am_U, am_U, am_U, am_U, am_U, am_U]) am_at_X9_shareOfAllOrders rfl rfl ?_
  show fu_J _ _ (fc_X d (some .long) k_X9_shareOfAllOrders 0 [.ref P0, .int a1, .int a2, .int a3, am_U, am_U, am_U, am_U, am_U, am_U, am_U, am_U] [] s)
  unfold f_X9_shareOfAllOrders
  refine fu_go 11 (pc' := 15) (ls' := [.ref P0, .int a1, .int a2, .int a3, .int ((a2 &&& (255 : Int32)) &&& (((1 : Int32) <<< (a3 &&& 31)) ^^^ (-1 : Int32))), am_U, am_U, am_U, am_U, am_U, am_U, am_U]) (st' := [.int ((a2 &&& (255 : Int32)) &&& (((1 : Int32) <<< (a3 &&& 31)) ^^^ (-1 : Int32)))]) (s' := s) rfl ?_
  refine fu_step (fu_cS rfl rfl rfl rfl rfl rfl (fu_eq (e_J6_bitCount_0f7a4 d (by omega) s ((a2 &&& (255 : Int32)) &&& (((1 : Int32) <<< (a3 &&& 31)) ^^^ (-1 : Int32)))) rfl)) ?_
  show fu_J _ _ (fc_X d (some .long) k_X9_shareOfAllOrders 18 [.ref P0, .int a1, .int a2, .int a3, .int ((a2 &&& (255 : Int32)) &&& (((1 : Int32) <<< (a3 &&& 31)) ^^^ (-1 : Int32))), am_U, am_U, am_U, am_U, am_U, am_U, am_U] [.int (f_J6_bitCount_0f7a4 ((a2 &&& (255 : Int32)) &&& (((1 : Int32) <<< (a3 &&& 31)) ^^^ (-1 : Int32))))] s)
  refine fu_go 5 (pc' := 26) (ls' := [.ref P0, .int a1, .int a2, .int a3, .int ((a2 &&& (255 : Int32)) &&& (((1 : Int32) <<< (a3 &&& 31)) ^^^ (-1 : Int32))), .int (f_J6_bitCount_0f7a4 ((a2 &&& (255 : Int32)) &&& (((1 : Int32) <<< (a3 &&& 31)) ^^^ (-1 : Int32)))), .long (0 : Int64), am_U, .int (0 : Int32), am_U, am_U, am_U]) (st' := []) (s' := s) rfl ?_
  refine fu_drop (ls' := [.ref P0, .int a1, am_U, .int a3, .int ((a2 &&& (255 : Int32)) &&& (((1 : Int32) <<< (a3 &&& 31)) ^^^ (-1 : Int32))), .int (f_J6_bitCount_0f7a4 ((a2 &&& (255 : Int32)) &&& (((1 : Int32) <<< (a3 &&& 31)) ^^^ (-1 : Int32)))), .long (0 : Int64), am_U, .int (0 : Int32), am_U, am_U, am_U]) ⟨.inr rfl, .inr rfl, .inl rfl, .inr rfl, .inr rfl, .inr rfl, .inr rfl, .inl rfl, .inr rfl, .inl rfl, .inl rfl, .inl rfl, trivial⟩ ?_
  refine fu_bind (el_X9_shareOfAllOrders_26 d (by omega) fu_N s P0 hP0 a1 a3 ((a2 &&& (255 : Int32)) &&& (((1 : Int32) <<< (a3 &&& 31)) ^^^ (-1 : Int32))) (f_J6_bitCount_0f7a4 ((a2 &&& (255 : Int32)) &&& (((1 : Int32) <<< (a3 &&& 31)) ^^^ (-1 : Int32)))) (0 : Int64) (0 : Int32)) (fun r8 => ?_)
  show fu_J _ _ (fc_X d (some .long) k_X9_shareOfAllOrders 100 [am_U, am_U, am_U, am_U, am_U, am_U, .long r8, am_U, am_U, am_U, am_U, am_U] [] s)
  refine fu_go 1 (pc' := 102) (ls' := [am_U, am_U, am_U, am_U, am_U, am_U, .long r8, am_U, am_U, am_U, am_U, am_U]) (st' := [.long r8]) (s' := s) rfl ?_
  exact fu_lret rfl rfl
/-! X10_mostBehind -/
set_option maxRecDepth 100000 in
theorem e_X10_mostBehind (d : Nat) (hd : 1 ≤ d) (s : fu_S) (a1 : Int32) (a2 : Int32) : fu_J (f_X10_mostBehind s a1 a2) (fun r => some (some (.int r), s)) (am_D (fu_ho fc_sh) am_m d 171 [.ref 110, .int a1, .int a2] s) := by
  obtain ⟨d, rfl⟩ : ∃ e, d = e + 1 := ⟨d - 1, by omega⟩
  refine fu_enter (ls := [.ref 110, .int a1, .int a2]) am_at_X10_mostBehind rfl rfl ?_
  show fu_J _ _ (fc_X d (some .int) k_X10_mostBehind 0 [.ref 110, .int a1, .int a2] [] s)
  unfold f_X10_mostBehind
  refine fu_go 1 (pc' := 1) (ls' := [.ref 110, .int a1, .int a2]) (st' := [.int a1]) (s' := s) rfl ?_
  refine fu_bind (V := fun j1 : Int32 => fc_X d (some .int) k_X10_mostBehind 39 [am_U, am_U, am_U] [.int j1] s) ?_ (fun j1 => ?_)
  · refine fu_ite (fun h2 => fu_step (fu_if_lt_t rfl h2) ?_) (fun h2 => fu_step (fu_if_lt_f rfl h2) ?_)
    · refine fu_go 1 (pc' := 39) (ls' := [.ref 110, .int a1, .int a2]) (st' := [.int (0 : Int32)]) (s' := s) rfl ?_
      exact fu_leaf rfl ⟨.inl rfl, .inl rfl, .inl rfl, trivial⟩
    · refine fu_go 2 (pc' := 7) (ls' := [.ref 110, .int a1, .int a2]) (st' := [.int (8 : Int32), .int a1]) (s' := s) rfl ?_
      refine fu_ite (fun h3 => fu_step (fu_ic_ge_t rfl h3) ?_) (fun h3 => fu_step (fu_ic_ge_f rfl h3) ?_)
      · refine fu_go 1 (pc' := 11) (ls' := [.ref 110, .int a1, .int a2]) (st' := [.int a2]) (s' := s) rfl ?_
        refine fu_ite (fun h4 => fu_step (fu_if_lt_t rfl h4) ?_) (fun h4 => fu_step (fu_if_lt_f rfl h4) ?_)
        · refine fu_go 1 (pc' := 39) (ls' := [.ref 110, .int a1, .int a2]) (st' := [.int (0 : Int32)]) (s' := s) rfl ?_
          exact fu_leaf rfl ⟨.inl rfl, .inl rfl, .inl rfl, trivial⟩
        · refine fu_go 2 (pc' := 18) (ls' := [.ref 110, .int a1, .int a2]) (st' := [.int (128 : Int32), .int a2]) (s' := s) rfl ?_
          refine fu_ite (fun h5 => fu_step (fu_ic_ge_t rfl h5) ?_) (fun h5 => fu_step (fu_ic_ge_f rfl h5) ?_)
          · refine fu_go 1 (pc' := 22) (ls' := [.ref 110, .int a1, .int a2]) (st' := [.ref 110]) (s' := s) rfl ?_
            refine fu_step (fu_getR rfl fc_110 rfl rfl) ?_
            refine fu_go 7 (pc' := 34) (ls' := [.ref 110, .int a1, .int a2]) (st' := [.int (((a1 + (1 : Int32)) * (128 : Int32)) + a2), .ref 113]) (s' := s) rfl ?_
            refine fu_guard (fun h6 => fu_step (fu_ldI rfl fc_113 h6) ?_)
            refine fu_go 1 (pc' := 39) (ls' := [.ref 110, .int a1, .int a2]) (st' := [.int (s.1 113 (Int32.toNatClampNeg (((a1 + (1 : Int32)) * (128 : Int32)) + a2)))]) (s' := s) rfl ?_
            exact fu_leaf rfl ⟨.inl rfl, .inl rfl, .inl rfl, trivial⟩
          · refine fu_go 1 (pc' := 39) (ls' := [.ref 110, .int a1, .int a2]) (st' := [.int (0 : Int32)]) (s' := s) rfl ?_
            exact fu_leaf rfl ⟨.inl rfl, .inl rfl, .inl rfl, trivial⟩
      · refine fu_go 1 (pc' := 39) (ls' := [.ref 110, .int a1, .int a2]) (st' := [.int (0 : Int32)]) (s' := s) rfl ?_
        exact fu_leaf rfl ⟨.inl rfl, .inl rfl, .inl rfl, trivial⟩
  show fu_J _ _ (fc_X d (some .int) k_X10_mostBehind 39 [am_U, am_U, am_U] [.int j1] s)
  exact fu_iret rfl rfl
