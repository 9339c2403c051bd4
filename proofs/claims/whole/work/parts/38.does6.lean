/-! what is done: scratch, its end -/
theorem hd_19 : lw_E_19 dI := by
  intro s1 s2 hI a1 a2
  obtain ⟨D, hv, hC, hR, hQ⟩ := dI_D hI
  have hp4 := hv.1
  have hc := fun x => dC_s (x := x) (by omega : (11 : Nat) ≠ 0) hC
  have hr := fun x => dR_s (x := x) hv hR
  have ep := fun x y => r_isPerson (x := y) (hr x) hv
  have et := fun x y => r_isThing (x := y) (hr x) hv
  by_cases h1 : ¬ a1 < 0 ∧ a1 < Int32.ofNat (D 0 4)
  · obtain ⟨p, hp, rfl⟩ := i_is (by omega) h1
    by_cases h2 : ¬ a2 < 0 ∧ a2 < Int32.ofNat (D 0 5)
    · obtain ⟨t, ht, rfl⟩ := i_is (by omega) h2
      have e1 := c_canScratch hC hv ht hp
      have f1 := fun x => r_isUp (hr x) hv ht
      have f2 := fun x => r_could (hr x) hv ht hp
      by_cases h3 : d_isUp D t = true
      · by_cases h4 : d_able D p t = true
        · have ht8 : t < 8 := by omega
          have b2 : (sC s1 0).1 11 2 = Int32.ofNat (D 0 2) := by rw [sC_1 (by omega)]; exact (dC_11 hC).1.2.2.1
          have d5 : (sR s2 0).1 122 5 = Int32.ofNat (D 0 2) := by rw [sR_1 (by omega)]; exact (dR_0 hR).1.2.2.2.2.2
          have e7 := c_delayOf (hc 0) hv ht
          have hw := d_way_le hv ht
          have m1 : 67 + t < 1775 := by omega
          have m2 : 75 + t < 1775 := by omega
          have hT := c_hasThing (x := Int32.ofNat t) (hc 0)
          have f7 : f_X12_wayOf (fu_pi (sR s2 0) 122 (67 + t) (Int32.ofNat (D 0 2 + 1))) (Int32.ofNat t) = some (Int32.ofNat (d_way D t)) := r_way_fr (hr 0) hv ht (fun q hq => p1q (by omega))
          generalize hm : D 0 2 = m at *
          have hC' : dC (fu_pi (fu_pi (sC s1 0) 22 t (Int32.ofNat m)) 23 t (Int32.ofNat (m + d_way D t))) 11 (dscr D t m (m + d_way D t)) := dC_scr (hc 0) (fun a h1 h2 => by rw [p1n h2, p1n h1]) rfl (fun q hq => ⟨by rw [p1n (by omega), p1q hq], by rw [p1q hq, p1n (by omega)]⟩) (by rw [p1n (by omega), p1]) p1
          have hT' := c_hasThing (x := Int32.ofNat t) hC'
          rw [dscr_l (by omega)] at hT'
          refine ⟨Int32.ofNat (m + d_way D t), fu_pi (fu_pi (sC s1 0) 22 t (Int32.ofNat m)) 23 t (Int32.ofNat (m + d_way D t)), fu_pi (fu_pi (sR s2 0) 122 (67 + t) (Int32.ofNat (m + 1))) 122 (75 + t) (Int32.ofNat (m + d_way D t)), ?_, ?_, dI_upd hI hQ ?_ ?_ ?_ (dV_scr hv (by omega) (by omega)) hC' (dR_scr (hr 0) hv ht8 rfl ?_ ?_ ?_) ?_ ?_⟩
          · have g1 : f_X4_endItch (sC s1 0) 11 (Int32.ofNat t) = some (fu_pi (fu_pi (sC s1 0) 22 t (Int32.ofNat m)) 23 t (Int32.ofNat (m + d_way D t))) := by
              simp (disch := omega) only [ne_eq, i_lt0, i_le0, i_eq0, i_n1, i_ltl, i_lel, i_eql, i_lt, i_le, i_eq, i_in, i_tn, i_add, i_addl, i_addr, i_mul, i_mulr, i_mull, if_true, if_false, eq_self, decide_eq_true_eq, decide_true, decide_false, Option.bind_some, Option.bind_none, fu_lt, Bool.false_eq_true, Bool.true_eq_false, not_true_eq_false, not_false_eq_true, Nat.not_lt_zero, Nat.le_zero_eq, Nat.reduceAdd, Nat.reduceMul, Nat.reduceSub, Nat.reduceEqDiff, Nat.reduceLT, Nat.reduceLeDiff, sC_def, sR_def, sC_1, sC_2, sR_1, sR_2, sC_st, sR_st, sR_no, sR_refuse, and_self, true_and, and_true, false_and, and_false, f_X4_endItch, hT, ht, ht8, b2, c_delay_fr, e7, p1n]
            have g2 : f_X4_foundAtOf (fu_pi (fu_pi (sC s1 0) 22 t (Int32.ofNat m)) 23 t (Int32.ofNat (m + d_way D t))) 11 (Int32.ofNat t) = some (Int32.ofNat (m + d_way D t)) := by
              simp (disch := omega) only [ne_eq, i_lt0, i_le0, i_eq0, i_n1, i_ltl, i_lel, i_eql, i_lt, i_le, i_eq, i_in, i_tn, i_add, i_addl, i_addr, i_mul, i_mulr, i_mull, if_true, if_false, eq_self, decide_eq_true_eq, decide_true, decide_false, Option.bind_some, Option.bind_none, fu_lt, Bool.false_eq_true, Bool.true_eq_false, not_true_eq_false, not_false_eq_true, Nat.not_lt_zero, Nat.le_zero_eq, Nat.reduceAdd, Nat.reduceMul, Nat.reduceSub, Nat.reduceEqDiff, Nat.reduceLT, Nat.reduceLeDiff, sC_def, sR_def, sC_1, sC_2, sR_1, sR_2, sC_st, sR_st, sR_no, sR_refuse, and_self, true_and, and_true, false_and, and_false, f_X4_foundAtOf, hT', ht, ht8, p1]
            simp (disch := omega) only [ne_eq, i_lt0, i_le0, i_eq0, i_n1, i_ltl, i_lel, i_eql, i_lt, i_le, i_eq, i_in, i_tn, i_add, i_addl, i_addr, i_mul, i_mulr, i_mull, if_true, if_false, eq_self, decide_eq_true_eq, decide_true, decide_false, Option.bind_some, Option.bind_none, fu_lt, Bool.false_eq_true, Bool.true_eq_false, not_true_eq_false, not_false_eq_true, Nat.not_lt_zero, Nat.le_zero_eq, Nat.reduceAdd, Nat.reduceMul, Nat.reduceSub, Nat.reduceEqDiff, Nat.reduceLT, Nat.reduceLeDiff, sC_def, sR_def, sC_1, sC_2, sR_1, sR_2, sC_st, sR_st, sR_no, sR_refuse, and_self, true_and, and_true, false_and, and_false, f_X11_scratch, c_hasPerson hC, c_hasThing hC, hp, ht, e1, h3, h4, Bool.and_self, g1, g2]
          · have g1 : f_X12_scratches (sR s2 0) (Int32.ofNat p) (Int32.ofNat t) = some (true, fu_pi (fu_pi (sR s2 0) 122 (67 + t) (Int32.ofNat (m + 1))) 122 (75 + t) (Int32.ofNat (m + d_way D t))) := by
              simp (disch := omega) only [ne_eq, i_lt0, i_le0, i_eq0, i_n1, i_ltl, i_lel, i_eql, i_lt, i_le, i_eq, i_in, i_tn, i_add, i_addl, i_addr, i_mul, i_mulr, i_mull, if_true, if_false, eq_self, decide_eq_true_eq, decide_true, decide_false, Option.bind_some, Option.bind_none, fu_lt, Bool.false_eq_true, Bool.true_eq_false, not_true_eq_false, not_false_eq_true, Nat.not_lt_zero, Nat.le_zero_eq, Nat.reduceAdd, Nat.reduceMul, Nat.reduceSub, Nat.reduceEqDiff, Nat.reduceLT, Nat.reduceLeDiff, sC_def, sR_def, sC_1, sC_2, sR_1, sR_2, sC_st, sR_st, sR_no, sR_refuse, and_self, true_and, and_true, false_and, and_false, f_X12_scratches, et, ht, f1, h3, f2, h4, m1, m2, d5, i_add1, f7, p1q]
            simp (disch := omega) only [ne_eq, i_lt0, i_le0, i_eq0, i_n1, i_ltl, i_lel, i_eql, i_lt, i_le, i_eq, i_in, i_tn, i_add, i_addl, i_addr, i_mul, i_mulr, i_mull, if_true, if_false, eq_self, decide_eq_true_eq, decide_true, decide_false, Option.bind_some, Option.bind_none, fu_lt, Bool.false_eq_true, Bool.true_eq_false, not_true_eq_false, not_false_eq_true, Nat.not_lt_zero, Nat.le_zero_eq, Nat.reduceAdd, Nat.reduceMul, Nat.reduceSub, Nat.reduceEqDiff, Nat.reduceLT, Nat.reduceLeDiff, sC_def, sR_def, sC_1, sC_2, sR_1, sR_2, sC_st, sR_st, sR_no, sR_refuse, and_self, true_and, and_true, false_and, and_false, f_X12_scratch, ep, et, hp, ht, g1, m2, p1]
          · exact eqC2_pi' (by omega) (eqC2_pi' (by omega) (eqC2_of eqC_sC))
          · exact eqR2_pi' (by omega) (eqR2_pi' (by omega) (eqR2_of eqR_sR))
          · rw [p1n (by omega), p1n (by omega), sC_st, p1n (by omega), p1n (by omega), sR_st]
          · exact fun q x0 x1 => by rw [p1q (by omega), p1q (by omega)]
          · rw [p1q (by omega), p1]
          · exact p1
          · rw [dscr_l (by omega)]; exact Nat.le_refl _
          · rw [dscr_l (by omega)]; exact Nat.le_refl _
        · rw [Bool.not_eq_true] at h4
          refine ⟨-1, sC s1 9, sR s2 9, ?_, ?_, dI_s hI⟩
          · simp (disch := omega) only [ne_eq, i_lt0, i_le0, i_eq0, i_n1, i_ltl, i_lel, i_eql, i_lt, i_le, i_eq, i_in, i_tn, i_add, i_addl, i_addr, i_mul, i_mulr, i_mull, if_true, if_false, eq_self, decide_eq_true_eq, decide_true, decide_false, Option.bind_some, Option.bind_none, fu_lt, Bool.false_eq_true, Bool.true_eq_false, not_true_eq_false, not_false_eq_true, Nat.not_lt_zero, Nat.le_zero_eq, Nat.reduceAdd, Nat.reduceMul, Nat.reduceSub, Nat.reduceEqDiff, Nat.reduceLT, Nat.reduceLeDiff, sC_def, sR_def, sC_1, sC_2, sR_1, sR_2, sC_st, sR_st, sR_no, sR_refuse, and_self, true_and, and_true, false_and, and_false, f_X11_scratch, c_hasPerson hC, c_hasThing hC, hp, ht, e1, h3, h4, Bool.and_false]
            try rfl
          · simp (disch := omega) only [ne_eq, i_lt0, i_le0, i_eq0, i_n1, i_ltl, i_lel, i_eql, i_lt, i_le, i_eq, i_in, i_tn, i_add, i_addl, i_addr, i_mul, i_mulr, i_mull, if_true, if_false, eq_self, decide_eq_true_eq, decide_true, decide_false, Option.bind_some, Option.bind_none, fu_lt, Bool.false_eq_true, Bool.true_eq_false, not_true_eq_false, not_false_eq_true, Nat.not_lt_zero, Nat.le_zero_eq, Nat.reduceAdd, Nat.reduceMul, Nat.reduceSub, Nat.reduceEqDiff, Nat.reduceLT, Nat.reduceLeDiff, sC_def, sR_def, sC_1, sC_2, sR_1, sR_2, sC_st, sR_st, sR_no, sR_refuse, and_self, true_and, and_true, false_and, and_false, f_X12_scratch, f_X12_scratches, ep, et, hp, ht, f1, h3, f2, h4]
      · rw [Bool.not_eq_true] at h3
        refine ⟨-1, sC s1 9, sR s2 9, ?_, ?_, dI_s hI⟩
        · simp (disch := omega) only [ne_eq, i_lt0, i_le0, i_eq0, i_n1, i_ltl, i_lel, i_eql, i_lt, i_le, i_eq, i_in, i_tn, i_add, i_addl, i_addr, i_mul, i_mulr, i_mull, if_true, if_false, eq_self, decide_eq_true_eq, decide_true, decide_false, Option.bind_some, Option.bind_none, fu_lt, Bool.false_eq_true, Bool.true_eq_false, not_true_eq_false, not_false_eq_true, Nat.not_lt_zero, Nat.le_zero_eq, Nat.reduceAdd, Nat.reduceMul, Nat.reduceSub, Nat.reduceEqDiff, Nat.reduceLT, Nat.reduceLeDiff, sC_def, sR_def, sC_1, sC_2, sR_1, sR_2, sC_st, sR_st, sR_no, sR_refuse, and_self, true_and, and_true, false_and, and_false, f_X11_scratch, c_hasPerson hC, c_hasThing hC, hp, ht, e1, h3, Bool.false_and]
          try rfl
        · simp (disch := omega) only [ne_eq, i_lt0, i_le0, i_eq0, i_n1, i_ltl, i_lel, i_eql, i_lt, i_le, i_eq, i_in, i_tn, i_add, i_addl, i_addr, i_mul, i_mulr, i_mull, if_true, if_false, eq_self, decide_eq_true_eq, decide_true, decide_false, Option.bind_some, Option.bind_none, fu_lt, Bool.false_eq_true, Bool.true_eq_false, not_true_eq_false, not_false_eq_true, Nat.not_lt_zero, Nat.le_zero_eq, Nat.reduceAdd, Nat.reduceMul, Nat.reduceSub, Nat.reduceEqDiff, Nat.reduceLT, Nat.reduceLeDiff, sC_def, sR_def, sC_1, sC_2, sR_1, sR_2, sC_st, sR_st, sR_no, sR_refuse, and_self, true_and, and_true, false_and, and_false, f_X12_scratch, f_X12_scratches, ep, et, hp, ht, f1, h3]
    · refine ⟨-1, sC s1 2, sR s2 2, ?_, ?_, dI_s hI⟩
      · simp (disch := omega) only [ne_eq, i_lt0, i_le0, i_eq0, i_n1, i_ltl, i_lel, i_eql, i_lt, i_le, i_eq, i_in, i_tn, i_add, i_addl, i_addr, i_mul, i_mulr, i_mull, if_true, if_false, eq_self, decide_eq_true_eq, decide_true, decide_false, Option.bind_some, Option.bind_none, fu_lt, Bool.false_eq_true, Bool.true_eq_false, not_true_eq_false, not_false_eq_true, Nat.not_lt_zero, Nat.le_zero_eq, Nat.reduceAdd, Nat.reduceMul, Nat.reduceSub, Nat.reduceEqDiff, Nat.reduceLT, Nat.reduceLeDiff, sC_def, sR_def, sC_1, sC_2, sR_1, sR_2, sC_st, sR_st, sR_no, sR_refuse, and_self, true_and, and_true, false_and, and_false, f_X11_scratch, c_hasPerson hC, c_hasThing hC, hp, h2]
        try rfl
      · simp (disch := omega) only [ne_eq, i_lt0, i_le0, i_eq0, i_n1, i_ltl, i_lel, i_eql, i_lt, i_le, i_eq, i_in, i_tn, i_add, i_addl, i_addr, i_mul, i_mulr, i_mull, if_true, if_false, eq_self, decide_eq_true_eq, decide_true, decide_false, Option.bind_some, Option.bind_none, fu_lt, Bool.false_eq_true, Bool.true_eq_false, not_true_eq_false, not_false_eq_true, Nat.not_lt_zero, Nat.le_zero_eq, Nat.reduceAdd, Nat.reduceMul, Nat.reduceSub, Nat.reduceEqDiff, Nat.reduceLT, Nat.reduceLeDiff, sC_def, sR_def, sC_1, sC_2, sR_1, sR_2, sC_st, sR_st, sR_no, sR_refuse, and_self, true_and, and_true, false_and, and_false, f_X12_scratch, ep, et, hp, h2]
  · refine ⟨-1, sC s1 2, sR s2 2, ?_, ?_, dI_s hI⟩
    · simp (disch := omega) only [ne_eq, i_lt0, i_le0, i_eq0, i_n1, i_ltl, i_lel, i_eql, i_lt, i_le, i_eq, i_in, i_tn, i_add, i_addl, i_addr, i_mul, i_mulr, i_mull, if_true, if_false, eq_self, decide_eq_true_eq, decide_true, decide_false, Option.bind_some, Option.bind_none, fu_lt, Bool.false_eq_true, Bool.true_eq_false, not_true_eq_false, not_false_eq_true, Nat.not_lt_zero, Nat.le_zero_eq, Nat.reduceAdd, Nat.reduceMul, Nat.reduceSub, Nat.reduceEqDiff, Nat.reduceLT, Nat.reduceLeDiff, sC_def, sR_def, sC_1, sC_2, sR_1, sR_2, sC_st, sR_st, sR_no, sR_refuse, and_self, true_and, and_true, false_and, and_false, f_X11_scratch, c_hasPerson hC, h1]
      try rfl
    · simp (disch := omega) only [ne_eq, i_lt0, i_le0, i_eq0, i_n1, i_ltl, i_lel, i_eql, i_lt, i_le, i_eq, i_in, i_tn, i_add, i_addl, i_addr, i_mul, i_mulr, i_mull, if_true, if_false, eq_self, decide_eq_true_eq, decide_true, decide_false, Option.bind_some, Option.bind_none, fu_lt, Bool.false_eq_true, Bool.true_eq_false, not_true_eq_false, not_false_eq_true, Nat.not_lt_zero, Nat.le_zero_eq, Nat.reduceAdd, Nat.reduceMul, Nat.reduceSub, Nat.reduceEqDiff, Nat.reduceLT, Nat.reduceLeDiff, sC_def, sR_def, sC_1, sC_2, sR_1, sR_2, sC_st, sR_st, sR_no, sR_refuse, and_self, true_and, and_true, false_and, and_false, f_X12_scratch, ep, h1]
