/-! what is done: teach -/
theorem i_lt10 {x : Int32} (h : ¬ x < 0) : x < 10 ↔ x ≤ 9 := by
  rw [Int32.lt_iff_toInt_lt, Int32.le_iff_toInt_le, show (10 : Int32).toInt = 10 from rfl, show (9 : Int32).toInt = 9 from rfl]
  omega
theorem c_isSpot {P : Nat} {x : Int32} : f_X4_isSpot P x = decide (¬ x < 0 ∧ x ≤ 9) := by
  unfold f_X4_isSpot fu_lt
  by_cases h1 : x < 0
  · simp [h1]
  · rw [if_neg h1]
    by_cases h2 : x ≤ 9
    · rw [if_pos ((i_lt10 h1).mpr h2)]; simp [h1, h2]
    · rw [if_neg (fun z => h2 ((i_lt10 h1).mp z))]; simp [h1, h2]
theorem hd_20 : lw_E_20 dI := by
  intro s1 s2 hI a1 a2 a3
  obtain ⟨D, hv, hC, hR, hQ⟩ := dI_D hI
  have hp4 := hv.1
  have hc := fun x => dC_s (x := x) (by omega : (11 : Nat) ≠ 0) hC
  have hr := fun x => dR_s (x := x) hv hR
  have ep := fun x y => r_isPerson (x := y) (hr x) hv
  by_cases h1 : ¬ a1 < 0 ∧ a1 < Int32.ofNat (D 0 4)
  · obtain ⟨p, hp, rfl⟩ := i_is (by omega) h1
    have hb := dV_p hv hp
    have hp7 : p < 7 := by omega
    by_cases h2 : ¬ a2 < 0 ∧ a2 ≤ 9
    · obtain ⟨w, hw, rfl⟩ := i_upto (n := 9) (by omega) h2
      have e1 := fun x => c_hasPerson (x := Int32.ofNat p) (hc x)
      obtain ⟨-, -, g1⟩ := (dR_0 hR).2.2.1 p hp
      obtain ⟨-, -, k1⟩ := (dC_11 hC).2.2.1 p hp
      have m1 : 28 + p < 1775 := by omega
      have hw31 : w < 31 := by omega
      have h6 : D 6 p < 2147483648 := by omega
      have eh : f_X12_has (Int32.ofNat (D 6 p)) (Int32.ofNat w) = (D 6 p).testBit w := r_has h6 hw31
      have et := i_bit0 (a := D 6 p) (b := w) h6 hw31
      by_cases h3 : fu_b ((D 6 p).testBit w) = fu_b a3
      · refine ⟨false, sC s1 9, sR s2 9, ?_, ?_, dI_s hI⟩
        · by_cases h4 : (D 6 p).testBit w = true
          · simp (disch := omega) only [ne_eq, i_lt0, i_le0, i_eq0, i_n1, i_ltl, i_lel, i_eql, i_lt, i_le, i_eq, i_in, i_tn, i_add, i_addl, i_addr, i_mul, i_mulr, i_mull, if_true, if_false, eq_self, decide_eq_true_eq, decide_true, decide_false, Option.bind_some, Option.bind_none, fu_lt, Bool.false_eq_true, Bool.true_eq_false, not_true_eq_false, not_false_eq_true, Nat.not_lt_zero, Nat.le_zero_eq, Nat.reduceAdd, Nat.reduceMul, Nat.reduceSub, Nat.reduceEqDiff, Nat.reduceLT, Nat.reduceLeDiff, sC_def, sR_def, sC_1, sC_2, sR_1, sR_2, sC_st, sR_st, sR_no, sR_refuse, and_self, true_and, and_true, false_and, and_false, f_X11_teach, f_X4_reaches, c_hasPerson hC, c_isSpot, hp, hp7, hw, k1, et, h4]
            rw [h4] at h3
            simp (disch := omega) only [ne_eq, i_lt0, i_le0, i_eq0, i_n1, i_ltl, i_lel, i_eql, i_lt, i_le, i_eq, i_in, i_tn, i_add, i_addl, i_addr, i_mul, i_mulr, i_mull, if_true, if_false, eq_self, decide_eq_true_eq, decide_true, decide_false, Option.bind_some, Option.bind_none, fu_lt, Bool.false_eq_true, Bool.true_eq_false, not_true_eq_false, not_false_eq_true, Nat.not_lt_zero, Nat.le_zero_eq, Nat.reduceAdd, Nat.reduceMul, Nat.reduceSub, Nat.reduceEqDiff, Nat.reduceLT, Nat.reduceLeDiff, sC_def, sR_def, sC_1, sC_2, sR_1, sR_2, sC_st, sR_st, sR_no, sR_refuse, and_self, true_and, and_true, false_and, and_false, h3]
            try rfl
          · rw [Bool.not_eq_true] at h4
            simp (disch := omega) only [ne_eq, i_lt0, i_le0, i_eq0, i_n1, i_ltl, i_lel, i_eql, i_lt, i_le, i_eq, i_in, i_tn, i_add, i_addl, i_addr, i_mul, i_mulr, i_mull, if_true, if_false, eq_self, decide_eq_true_eq, decide_true, decide_false, Option.bind_some, Option.bind_none, fu_lt, Bool.false_eq_true, Bool.true_eq_false, not_true_eq_false, not_false_eq_true, Nat.not_lt_zero, Nat.le_zero_eq, Nat.reduceAdd, Nat.reduceMul, Nat.reduceSub, Nat.reduceEqDiff, Nat.reduceLT, Nat.reduceLeDiff, sC_def, sR_def, sC_1, sC_2, sR_1, sR_2, sC_st, sR_st, sR_no, sR_refuse, and_self, true_and, and_true, false_and, and_false, f_X11_teach, f_X4_reaches, c_hasPerson hC, c_isSpot, hp, hp7, hw, k1, et, h4]
            rw [h4] at h3
            simp (disch := omega) only [ne_eq, i_lt0, i_le0, i_eq0, i_n1, i_ltl, i_lel, i_eql, i_lt, i_le, i_eq, i_in, i_tn, i_add, i_addl, i_addr, i_mul, i_mulr, i_mull, if_true, if_false, eq_self, decide_eq_true_eq, decide_true, decide_false, Option.bind_some, Option.bind_none, fu_lt, Bool.false_eq_true, Bool.true_eq_false, not_true_eq_false, not_false_eq_true, Nat.not_lt_zero, Nat.le_zero_eq, Nat.reduceAdd, Nat.reduceMul, Nat.reduceSub, Nat.reduceEqDiff, Nat.reduceLT, Nat.reduceLeDiff, sC_def, sR_def, sC_1, sC_2, sR_1, sR_2, sC_st, sR_st, sR_no, sR_refuse, and_self, true_and, and_true, false_and, and_false, h3]
            try rfl
        · simp (disch := omega) only [ne_eq, i_lt0, i_le0, i_eq0, i_n1, i_ltl, i_lel, i_eql, i_lt, i_le, i_eq, i_in, i_tn, i_add, i_addl, i_addr, i_mul, i_mulr, i_mull, if_true, if_false, eq_self, decide_eq_true_eq, decide_true, decide_false, Option.bind_some, Option.bind_none, fu_lt, Bool.false_eq_true, Bool.true_eq_false, not_true_eq_false, not_false_eq_true, Nat.not_lt_zero, Nat.le_zero_eq, Nat.reduceAdd, Nat.reduceMul, Nat.reduceSub, Nat.reduceEqDiff, Nat.reduceLT, Nat.reduceLeDiff, sC_def, sR_def, sC_1, sC_2, sR_1, sR_2, sC_st, sR_st, sR_no, sR_refuse, and_self, true_and, and_true, false_and, and_false, f_X12_teach, f_X12_isSpotAt, ep, hp, hw, r_isInl9, m1, g1, eh, h3]
      · have hx : D 6 p ^^^ 2 ^ w < 1024 := Nat.xor_lt_two_pow (n := 10) (by omega) (Nat.pow_lt_pow_right (by omega) (by omega))
        refine ⟨true, fu_pi (sC s1 0) 17 p (Int32.ofNat (D 6 p ^^^ 2 ^ w)), fu_pi (sR s2 0) 122 (28 + p) (Int32.ofNat (D 6 p ^^^ 2 ^ w)), ?_, ?_, dI_upd (D' := dset D 6 p (D 6 p ^^^ 2 ^ w)) hI hQ (eqC2_tr (eqC2_of eqC_sC) (eqC2_pi (by omega))) (eqR2_tr (eqR2_of eqR_sR) (eqR2_pi (by omega))) ?_ (dV_set (by omega) hv (by omega) (by omega) (by omega) (by omega) (by omega) (fun _ => hx)) (dC_put (f := 6) (by omega) (hc 0)) (dR_put6 hv hp7 (hr 0)) ?_ ?_⟩
        · have st : (fu_pi (sC s1 0) 17 p (Int32.ofNat (D 6 p ^^^ 2 ^ w))).1 0 15 = 0 := sC_piw (by omega)
          by_cases h4 : (D 6 p).testBit w = true
          · rw [h4] at h3
            simp (disch := omega) only [ne_eq, i_lt0, i_le0, i_eq0, i_n1, i_ltl, i_lel, i_eql, i_lt, i_le, i_eq, i_in, i_tn, i_add, i_addl, i_addr, i_mul, i_mulr, i_mull, if_true, if_false, eq_self, decide_eq_true_eq, decide_true, decide_false, Option.bind_some, Option.bind_none, fu_lt, Bool.false_eq_true, Bool.true_eq_false, not_true_eq_false, not_false_eq_true, Nat.not_lt_zero, Nat.le_zero_eq, Nat.reduceAdd, Nat.reduceMul, Nat.reduceSub, Nat.reduceEqDiff, Nat.reduceLT, Nat.reduceLeDiff, sC_def, sR_def, sC_1, sC_2, sR_1, sR_2, sC_st, sR_st, sR_no, sR_refuse, and_self, true_and, and_true, false_and, and_false, f_X11_teach, f_X4_reaches, f_X4_toggleReach, c_hasPerson hC, c_isSpot, hp, hp7, hw, k1, et, h4, h3, e1, i_shl, i_xor, st]
          · rw [Bool.not_eq_true] at h4
            rw [h4] at h3
            simp (disch := omega) only [ne_eq, i_lt0, i_le0, i_eq0, i_n1, i_ltl, i_lel, i_eql, i_lt, i_le, i_eq, i_in, i_tn, i_add, i_addl, i_addr, i_mul, i_mulr, i_mull, if_true, if_false, eq_self, decide_eq_true_eq, decide_true, decide_false, Option.bind_some, Option.bind_none, fu_lt, Bool.false_eq_true, Bool.true_eq_false, not_true_eq_false, not_false_eq_true, Nat.not_lt_zero, Nat.le_zero_eq, Nat.reduceAdd, Nat.reduceMul, Nat.reduceSub, Nat.reduceEqDiff, Nat.reduceLT, Nat.reduceLeDiff, sC_def, sR_def, sC_1, sC_2, sR_1, sR_2, sC_st, sR_st, sR_no, sR_refuse, and_self, true_and, and_true, false_and, and_false, f_X11_teach, f_X4_reaches, f_X4_toggleReach, c_hasPerson hC, c_isSpot, hp, hp7, hw, k1, et, h4, h3, e1, i_shl, i_xor, st]
        · simp (disch := omega) only [ne_eq, i_lt0, i_le0, i_eq0, i_n1, i_ltl, i_lel, i_eql, i_lt, i_le, i_eq, i_in, i_tn, i_add, i_addl, i_addr, i_mul, i_mulr, i_mull, if_true, if_false, eq_self, decide_eq_true_eq, decide_true, decide_false, Option.bind_some, Option.bind_none, fu_lt, Bool.false_eq_true, Bool.true_eq_false, not_true_eq_false, not_false_eq_true, Nat.not_lt_zero, Nat.le_zero_eq, Nat.reduceAdd, Nat.reduceMul, Nat.reduceSub, Nat.reduceEqDiff, Nat.reduceLT, Nat.reduceLeDiff, sC_def, sR_def, sC_1, sC_2, sR_1, sR_2, sC_st, sR_st, sR_no, sR_refuse, and_self, true_and, and_true, false_and, and_false, f_X12_teach, f_X12_isSpotAt, ep, hp, hw, r_isInl9, m1, g1, eh, h3, i_shl, i_xor]
        · rw [sC_piw (by omega), sR_piw (by omega)]
        · rw [dset_f (by omega)]; exact Nat.le_refl _
        · rw [dset_f (by omega)]; exact Nat.le_refl _
    · refine ⟨false, sC s1 2, sR s2 2, ?_, ?_, dI_s hI⟩
      · simp (disch := omega) only [ne_eq, i_lt0, i_le0, i_eq0, i_n1, i_ltl, i_lel, i_eql, i_lt, i_le, i_eq, i_in, i_tn, i_add, i_addl, i_addr, i_mul, i_mulr, i_mull, if_true, if_false, eq_self, decide_eq_true_eq, decide_true, decide_false, Option.bind_some, Option.bind_none, fu_lt, Bool.false_eq_true, Bool.true_eq_false, not_true_eq_false, not_false_eq_true, Nat.not_lt_zero, Nat.le_zero_eq, Nat.reduceAdd, Nat.reduceMul, Nat.reduceSub, Nat.reduceEqDiff, Nat.reduceLT, Nat.reduceLeDiff, sC_def, sR_def, sC_1, sC_2, sR_1, sR_2, sC_st, sR_st, sR_no, sR_refuse, and_self, true_and, and_true, false_and, and_false, f_X11_teach, c_hasPerson hC, hp, c_isSpot, h2]
        try rfl
      · simp (disch := omega) only [ne_eq, i_lt0, i_le0, i_eq0, i_n1, i_ltl, i_lel, i_eql, i_lt, i_le, i_eq, i_in, i_tn, i_add, i_addl, i_addr, i_mul, i_mulr, i_mull, if_true, if_false, eq_self, decide_eq_true_eq, decide_true, decide_false, Option.bind_some, Option.bind_none, fu_lt, Bool.false_eq_true, Bool.true_eq_false, not_true_eq_false, not_false_eq_true, Nat.not_lt_zero, Nat.le_zero_eq, Nat.reduceAdd, Nat.reduceMul, Nat.reduceSub, Nat.reduceEqDiff, Nat.reduceLT, Nat.reduceLeDiff, sC_def, sR_def, sC_1, sC_2, sR_1, sR_2, sC_st, sR_st, sR_no, sR_refuse, and_self, true_and, and_true, false_and, and_false, f_X12_teach, f_X12_isSpotAt, ep, hp, r_isInl9, h2]
  · refine ⟨false, sC s1 2, sR s2 2, ?_, ?_, dI_s hI⟩
    · simp (disch := omega) only [ne_eq, i_lt0, i_le0, i_eq0, i_n1, i_ltl, i_lel, i_eql, i_lt, i_le, i_eq, i_in, i_tn, i_add, i_addl, i_addr, i_mul, i_mulr, i_mull, if_true, if_false, eq_self, decide_eq_true_eq, decide_true, decide_false, Option.bind_some, Option.bind_none, fu_lt, Bool.false_eq_true, Bool.true_eq_false, not_true_eq_false, not_false_eq_true, Nat.not_lt_zero, Nat.le_zero_eq, Nat.reduceAdd, Nat.reduceMul, Nat.reduceSub, Nat.reduceEqDiff, Nat.reduceLT, Nat.reduceLeDiff, sC_def, sR_def, sC_1, sC_2, sR_1, sR_2, sC_st, sR_st, sR_no, sR_refuse, and_self, true_and, and_true, false_and, and_false, f_X11_teach, c_hasPerson hC, h1]
      try rfl
    · simp (disch := omega) only [ne_eq, i_lt0, i_le0, i_eq0, i_n1, i_ltl, i_lel, i_eql, i_lt, i_le, i_eq, i_in, i_tn, i_add, i_addl, i_addr, i_mul, i_mulr, i_mull, if_true, if_false, eq_self, decide_eq_true_eq, decide_true, decide_false, Option.bind_some, Option.bind_none, fu_lt, Bool.false_eq_true, Bool.true_eq_false, not_true_eq_false, not_false_eq_true, Nat.not_lt_zero, Nat.le_zero_eq, Nat.reduceAdd, Nat.reduceMul, Nat.reduceSub, Nat.reduceEqDiff, Nat.reduceLT, Nat.reduceLeDiff, sC_def, sR_def, sC_1, sC_2, sR_1, sR_2, sC_st, sR_st, sR_no, sR_refuse, and_self, true_and, and_true, false_and, and_false, f_X12_teach, ep, h1]
