theorem hd_24 : lw_E_24 dI := by
  intro s1 s2 hI a1 a2
  obtain ⟨D, hv, hC, hR, hQ⟩ := dI_D hI
  have hc := fun x => dC_s (x := x) (by omega : (11 : Nat) ≠ 0) hC
  have hr := fun x => dR_s (x := x) hv hR
  have n34 : ¬ ((3 : Int32) = 4) := by decide
  have n43 : ¬ ((4 : Int32) = 3) := by decide
  have q3 : am_in (3 : Int32) 1775 = true := by decide
  have q4 : am_in (4 : Int32) 1775 = true := by decide
  have w3 : (3 : Int32).toNatClampNeg = 3 := by decide
  have w4 : (4 : Int32).toNatClampNeg = 4 := by decide
  by_cases e3 : a1 = 3
  · subst e3
    by_cases h2 : ¬ a2 < 0 ∧ a2 ≤ 16
    · obtain ⟨w, hw, rfl⟩ := i_upto (n := 16) (by omega) h2
      refine ⟨true, fu_pi (sC s1 0) 11 0 (Int32.ofNat w), fu_pi (sR s2 0) 122 3 (Int32.ofNat w), ?_, ?_, dI_upd (D' := dset D 0 0 w) hI hQ (eqC2_tr (eqC2_of eqC_sC) (eqC2_pi (by omega))) (eqR2_tr (eqR2_of eqR_sR) (eqR2_pi (by omega))) ?_ (dV_set0 (by omega) hv (by omega) (by omega) (by omega)) (dC_put0 (by omega) (hc 0)) (dR_put0 (j := 0) hv (by omega) (hr 0)) ?_ ?_⟩
      · have st : (fu_pi (sC s1 0) 11 0 (Int32.ofNat w)).1 0 15 = 0 := sC_piw (by omega)
        simp (disch := omega) only [ne_eq, i_lt0, i_le0, i_eq0, i_n1, i_ltl, i_lel, i_eql, i_lt, i_le, i_eq, i_in, i_tn, i_add, i_addl, i_addr, i_mul, i_mulr, i_mull, if_true, if_false, eq_self, decide_eq_true_eq, decide_true, decide_false, Option.bind_some, Option.bind_none, fu_lt, Bool.false_eq_true, Bool.true_eq_false, not_true_eq_false, not_false_eq_true, Nat.not_lt_zero, Nat.le_zero_eq, Nat.reduceAdd, Nat.reduceMul, Nat.reduceSub, Nat.reduceEqDiff, Nat.reduceLT, Nat.reduceLeDiff, sC_def, sR_def, sC_1, sC_2, sR_1, sR_2, sC_st, sR_st, sR_no, sR_refuse, and_self, true_and, and_true, false_and, and_false, f_X11_rule, f_X4_setOdds, f_X4_setArm, hw, n34, st]
      · simp (disch := omega) only [ne_eq, i_lt0, i_le0, i_eq0, i_n1, i_ltl, i_lel, i_eql, i_lt, i_le, i_eq, i_in, i_tn, i_add, i_addl, i_addr, i_mul, i_mulr, i_mull, if_true, if_false, eq_self, decide_eq_true_eq, decide_true, decide_false, Option.bind_some, Option.bind_none, fu_lt, Bool.false_eq_true, Bool.true_eq_false, not_true_eq_false, not_false_eq_true, Nat.not_lt_zero, Nat.le_zero_eq, Nat.reduceAdd, Nat.reduceMul, Nat.reduceSub, Nat.reduceEqDiff, Nat.reduceLT, Nat.reduceLeDiff, sC_def, sR_def, sC_1, sC_2, sR_1, sR_2, sC_st, sR_st, sR_no, sR_refuse, and_self, true_and, and_true, false_and, and_false, f_X12_rule, r_isInl16, hw, q3, w3]
      · rw [sC_piw (by omega), sR_piw (by omega)]
      · rw [dset_i (by omega)]; exact Nat.le_refl _
      · rw [dset_i (by omega)]; exact Nat.le_refl _
    · refine ⟨false, sC s1 5, sR s2 5, ?_, ?_, dI_s hI⟩
      · have h2' : (if a2 < 0 then false else if a2 ≤ 16 then true else false) = false := by
          by_cases z1 : a2 < 0
          · rw [if_pos z1]
          · rw [if_neg z1, if_neg (fun z => h2 ⟨z1, z⟩)]
        simp (disch := omega) only [ne_eq, i_lt0, i_le0, i_eq0, i_n1, i_ltl, i_lel, i_eql, i_lt, i_le, i_eq, i_in, i_tn, i_add, i_addl, i_addr, i_mul, i_mulr, i_mull, if_true, if_false, eq_self, decide_eq_true_eq, decide_true, decide_false, Option.bind_some, Option.bind_none, fu_lt, Bool.false_eq_true, Bool.true_eq_false, not_true_eq_false, not_false_eq_true, Nat.not_lt_zero, Nat.le_zero_eq, Nat.reduceAdd, Nat.reduceMul, Nat.reduceSub, Nat.reduceEqDiff, Nat.reduceLT, Nat.reduceLeDiff, sC_def, sR_def, sC_1, sC_2, sR_1, sR_2, sC_st, sR_st, sR_no, sR_refuse, and_self, true_and, and_true, false_and, and_false, f_X11_rule, n34, h2']
        try rfl
      · simp (disch := omega) only [ne_eq, i_lt0, i_le0, i_eq0, i_n1, i_ltl, i_lel, i_eql, i_lt, i_le, i_eq, i_in, i_tn, i_add, i_addl, i_addr, i_mul, i_mulr, i_mull, if_true, if_false, eq_self, decide_eq_true_eq, decide_true, decide_false, Option.bind_some, Option.bind_none, fu_lt, Bool.false_eq_true, Bool.true_eq_false, not_true_eq_false, not_false_eq_true, Nat.not_lt_zero, Nat.le_zero_eq, Nat.reduceAdd, Nat.reduceMul, Nat.reduceSub, Nat.reduceEqDiff, Nat.reduceLT, Nat.reduceLeDiff, sC_def, sR_def, sC_1, sC_2, sR_1, sR_2, sC_st, sR_st, sR_no, sR_refuse, and_self, true_and, and_true, false_and, and_false, f_X12_rule, r_isInl16, h2]
  · by_cases e4 : a1 = 4
    · subst e4
      by_cases h2 : ¬ a2 < 0 ∧ a2 ≤ 59
      · obtain ⟨w, hw, rfl⟩ := i_upto (n := 59) (by omega) h2
        refine ⟨true, fu_pi (sC s1 0) 11 1 (Int32.ofNat w), fu_pi (sR s2 0) 122 4 (Int32.ofNat w), ?_, ?_, dI_upd (D' := dset D 0 1 w) hI hQ (eqC2_tr (eqC2_of eqC_sC) (eqC2_pi (by omega))) (eqR2_tr (eqR2_of eqR_sR) (eqR2_pi (by omega))) ?_ (dV_set0 (by omega) hv (by omega) (by omega) (by omega)) (dC_put0 (by omega) (hc 0)) (dR_put0 (j := 1) hv (by omega) (hr 0)) ?_ ?_⟩
        · have st : (fu_pi (sC s1 0) 11 1 (Int32.ofNat w)).1 0 15 = 0 := sC_piw (by omega)
          simp (disch := omega) only [ne_eq, i_lt0, i_le0, i_eq0, i_n1, i_ltl, i_lel, i_eql, i_lt, i_le, i_eq, i_in, i_tn, i_add, i_addl, i_addr, i_mul, i_mulr, i_mull, if_true, if_false, eq_self, decide_eq_true_eq, decide_true, decide_false, Option.bind_some, Option.bind_none, fu_lt, Bool.false_eq_true, Bool.true_eq_false, not_true_eq_false, not_false_eq_true, Nat.not_lt_zero, Nat.le_zero_eq, Nat.reduceAdd, Nat.reduceMul, Nat.reduceSub, Nat.reduceEqDiff, Nat.reduceLT, Nat.reduceLeDiff, sC_def, sR_def, sC_1, sC_2, sR_1, sR_2, sC_st, sR_st, sR_no, sR_refuse, and_self, true_and, and_true, false_and, and_false, f_X11_rule, f_X4_setOdds, f_X4_setArm, hw, n43, st]
        · simp (disch := omega) only [ne_eq, i_lt0, i_le0, i_eq0, i_n1, i_ltl, i_lel, i_eql, i_lt, i_le, i_eq, i_in, i_tn, i_add, i_addl, i_addr, i_mul, i_mulr, i_mull, if_true, if_false, eq_self, decide_eq_true_eq, decide_true, decide_false, Option.bind_some, Option.bind_none, fu_lt, Bool.false_eq_true, Bool.true_eq_false, not_true_eq_false, not_false_eq_true, Nat.not_lt_zero, Nat.le_zero_eq, Nat.reduceAdd, Nat.reduceMul, Nat.reduceSub, Nat.reduceEqDiff, Nat.reduceLT, Nat.reduceLeDiff, sC_def, sR_def, sC_1, sC_2, sR_1, sR_2, sC_st, sR_st, sR_no, sR_refuse, and_self, true_and, and_true, false_and, and_false, f_X12_rule, r_isInl59, hw, q4, w4, n43]
        · rw [sC_piw (by omega), sR_piw (by omega)]
        · rw [dset_i (by omega)]; exact Nat.le_refl _
        · rw [dset_i (by omega)]; exact Nat.le_refl _
      · refine ⟨false, sC s1 5, sR s2 5, ?_, ?_, dI_s hI⟩
        · have h2' : (if a2 < 0 then false else if a2 ≤ 59 then true else false) = false := by
            by_cases z1 : a2 < 0
            · rw [if_pos z1]
            · rw [if_neg z1, if_neg (fun z => h2 ⟨z1, z⟩)]
          simp (disch := omega) only [ne_eq, i_lt0, i_le0, i_eq0, i_n1, i_ltl, i_lel, i_eql, i_lt, i_le, i_eq, i_in, i_tn, i_add, i_addl, i_addr, i_mul, i_mulr, i_mull, if_true, if_false, eq_self, decide_eq_true_eq, decide_true, decide_false, Option.bind_some, Option.bind_none, fu_lt, Bool.false_eq_true, Bool.true_eq_false, not_true_eq_false, not_false_eq_true, Nat.not_lt_zero, Nat.le_zero_eq, Nat.reduceAdd, Nat.reduceMul, Nat.reduceSub, Nat.reduceEqDiff, Nat.reduceLT, Nat.reduceLeDiff, sC_def, sR_def, sC_1, sC_2, sR_1, sR_2, sC_st, sR_st, sR_no, sR_refuse, and_self, true_and, and_true, false_and, and_false, f_X11_rule, n43, h2']
          try rfl
        · simp (disch := omega) only [ne_eq, i_lt0, i_le0, i_eq0, i_n1, i_ltl, i_lel, i_eql, i_lt, i_le, i_eq, i_in, i_tn, i_add, i_addl, i_addr, i_mul, i_mulr, i_mull, if_true, if_false, eq_self, decide_eq_true_eq, decide_true, decide_false, Option.bind_some, Option.bind_none, fu_lt, Bool.false_eq_true, Bool.true_eq_false, not_true_eq_false, not_false_eq_true, Nat.not_lt_zero, Nat.le_zero_eq, Nat.reduceAdd, Nat.reduceMul, Nat.reduceSub, Nat.reduceEqDiff, Nat.reduceLT, Nat.reduceLeDiff, sC_def, sR_def, sC_1, sC_2, sR_1, sR_2, sC_st, sR_st, sR_no, sR_refuse, and_self, true_and, and_true, false_and, and_false, f_X12_rule, r_isInl59, h2, n43]
    · refine ⟨false, sC s1 5, sR s2 5, ?_, ?_, dI_s hI⟩
      · simp (disch := omega) only [ne_eq, i_lt0, i_le0, i_eq0, i_n1, i_ltl, i_lel, i_eql, i_lt, i_le, i_eq, i_in, i_tn, i_add, i_addl, i_addr, i_mul, i_mulr, i_mull, if_true, if_false, eq_self, decide_eq_true_eq, decide_true, decide_false, Option.bind_some, Option.bind_none, fu_lt, Bool.false_eq_true, Bool.true_eq_false, not_true_eq_false, not_false_eq_true, Nat.not_lt_zero, Nat.le_zero_eq, Nat.reduceAdd, Nat.reduceMul, Nat.reduceSub, Nat.reduceEqDiff, Nat.reduceLT, Nat.reduceLeDiff, sC_def, sR_def, sC_1, sC_2, sR_1, sR_2, sC_st, sR_st, sR_no, sR_refuse, and_self, true_and, and_true, false_and, and_false, f_X11_rule, e3, e4]
        try rfl
      · simp (disch := omega) only [ne_eq, i_lt0, i_le0, i_eq0, i_n1, i_ltl, i_lel, i_eql, i_lt, i_le, i_eq, i_in, i_tn, i_add, i_addl, i_addr, i_mul, i_mulr, i_mull, if_true, if_false, eq_self, decide_eq_true_eq, decide_true, decide_false, Option.bind_some, Option.bind_none, fu_lt, Bool.false_eq_true, Bool.true_eq_false, not_true_eq_false, not_false_eq_true, Nat.not_lt_zero, Nat.le_zero_eq, Nat.reduceAdd, Nat.reduceMul, Nat.reduceSub, Nat.reduceEqDiff, Nat.reduceLT, Nat.reduceLeDiff, sC_def, sR_def, sC_1, sC_2, sR_1, sR_2, sC_st, sR_st, sR_no, sR_refuse, and_self, true_and, and_true, false_and, and_false, f_X12_rule, e3, e4]
theorem r_isIn1 {x : Int32} {n : Nat} (hn : n < 2147483648) : f_X12_isIn (Int32.toInt64 x) (1 : Int64) (Int64.ofNat n) = decide (¬ x < 1 ∧ x ≤ Int32.ofNat n) := by
  rw [r_isIn, show Int64.ofNat n = Int32.toInt64 (Int32.ofNat n) from l_lit (n := n) hn, show (1 : Int64) = Int32.toInt64 (1 : Int32) from rfl]
  simp only [l_lt, l_le]
theorem r_isIn1_999 {x : Int32} : f_X12_isIn (Int32.toInt64 x) (1 : Int64) (999 : Int64) = decide (¬ x < 1 ∧ x ≤ 999) := r_isIn1 (n := 999) (by omega)
theorem i_lt1 {x : Int32} : x < 1 ↔ (x < 0 ∨ x = 0) := by
  rw [Int32.lt_iff_toInt_lt, Int32.lt_iff_toInt_lt, ← Int32.toInt_inj, show (1 : Int32).toInt = 1 from rfl, show (0 : Int32).toInt = 0 from rfl]
  omega
theorem hd_18 : lw_E_18 dI := by
  intro s1 s2 hI a1
  obtain ⟨D, hv, hC, hR, hQ⟩ := dI_D hI
  have hp4 := hv.1
  have hc := fun x => dC_s (x := x) (by omega : (11 : Nat) ≠ 0) hC
  have hr := fun x => dR_s (x := x) hv hR
  have c2 : s1.1 11 2 = Int32.ofNat (D 0 2) := (dC_11 hC).1.2.2.1
  have r5 : s2.1 122 5 = Int32.ofNat (D 0 2) := (dR_0 hR).1.2.2.2.2.2
  by_cases h1 : ¬ a1 < 1 ∧ a1 ≤ 999
  · obtain ⟨n, hn, rfl⟩ := i_upto (n := 999) (by omega) ⟨fun z => h1.1 (i_lt1.mpr (.inl z)), h1.2⟩
    have hn1 : ¬ n < 1 := fun z => h1.1 (by
      obtain rfl : n = 0 := by omega
      exact i_lt1.mpr (.inr rfl))
    by_cases h2 : D 0 2 + n ≤ 9999
    · have hv' : dV (dset D 0 2 (D 0 2 + n)) := dV_set0 (by omega) hv (by omega) (by omega) (by omega)
      have hC' : dC (fu_pi (sC s1 0) 11 2 (Int32.ofNat (D 0 2 + n))) 11 (dset D 0 2 (D 0 2 + n)) := dC_put0 (by omega) (hc 0)
      have hR' : dR (fu_pi (sR s2 0) 122 5 (Int32.ofNat (D 0 2 + n))) 0 (dset D 0 2 (D 0 2 + n)) := dR_put0 (j := 2) hv (by omega) (hr 0)
      have e1 := c_upSet hC' hv'
      have e2 := r_things0 hR' hv'
      have h3 : n ≤ 9999 - D 0 2 := by omega
      refine ⟨Int32.ofNat (d_set (fun t => d_isUp (dset D 0 2 (D 0 2 + n)) t) (dset D 0 2 (D 0 2 + n) 0 5)), fu_pi (sC s1 0) 11 2 (Int32.ofNat (D 0 2 + n)), fu_pi (sR s2 0) 122 5 (Int32.ofNat (D 0 2 + n)), ?_, ?_, dI_upd hI hQ (eqC2_tr (eqC2_of eqC_sC) (eqC2_pi (by omega))) (eqR2_tr (eqR2_of eqR_sR) (eqR2_pi (by omega))) ?_ hv' hC' hR' ?_ ?_⟩
      · simp (disch := omega) only [ne_eq, i_lt0, i_le0, i_eq0, i_n1, i_ltl, i_lel, i_eql, i_lt, i_le, i_eq, i_in, i_tn, i_add, i_addl, i_addr, i_mul, i_mulr, i_mull, if_true, if_false, eq_self, decide_eq_true_eq, decide_true, decide_false, Option.bind_some, Option.bind_none, fu_lt, Bool.false_eq_true, Bool.true_eq_false, not_true_eq_false, not_false_eq_true, Nat.not_lt_zero, Nat.le_zero_eq, Nat.reduceAdd, Nat.reduceMul, Nat.reduceSub, Nat.reduceEqDiff, Nat.reduceLT, Nat.reduceLeDiff, sC_def, sR_def, sC_1, sC_2, sR_1, sR_2, sC_st, sR_st, sR_no, sR_refuse, and_self, true_and, and_true, false_and, and_false, f_X11_pass, f_X4_canWait, f_X4_goOn, hn, hn1, c2, i_subr, h3, e1]
      · simp (disch := omega) only [ne_eq, i_lt0, i_le0, i_eq0, i_n1, i_ltl, i_lel, i_eql, i_lt, i_le, i_eq, i_in, i_tn, i_add, i_addl, i_addr, i_mul, i_mulr, i_mull, if_true, if_false, eq_self, decide_eq_true_eq, decide_true, decide_false, Option.bind_some, Option.bind_none, fu_lt, Bool.false_eq_true, Bool.true_eq_false, not_true_eq_false, not_false_eq_true, Nat.not_lt_zero, Nat.le_zero_eq, Nat.reduceAdd, Nat.reduceMul, Nat.reduceSub, Nat.reduceEqDiff, Nat.reduceLT, Nat.reduceLeDiff, sC_def, sR_def, sC_1, sC_2, sR_1, sR_2, sC_st, sR_st, sR_no, sR_refuse, and_self, true_and, and_true, false_and, and_false, f_X12_pass, r_isIn1_999, hn, hn1, r5, h2, e2]
      · rw [sC_piw (by omega), sR_piw (by omega)]
      · rw [dset_i (by omega)]; exact Nat.le_refl _
      · rw [dset_i (by omega)]; exact Nat.le_refl _
    · have h3 : ¬ n ≤ 9999 - D 0 2 := by omega
      refine ⟨-1, sC s1 7, sR s2 7, ?_, ?_, dI_s hI⟩
      · simp (disch := omega) only [ne_eq, i_lt0, i_le0, i_eq0, i_n1, i_ltl, i_lel, i_eql, i_lt, i_le, i_eq, i_in, i_tn, i_add, i_addl, i_addr, i_mul, i_mulr, i_mull, if_true, if_false, eq_self, decide_eq_true_eq, decide_true, decide_false, Option.bind_some, Option.bind_none, fu_lt, Bool.false_eq_true, Bool.true_eq_false, not_true_eq_false, not_false_eq_true, Nat.not_lt_zero, Nat.le_zero_eq, Nat.reduceAdd, Nat.reduceMul, Nat.reduceSub, Nat.reduceEqDiff, Nat.reduceLT, Nat.reduceLeDiff, sC_def, sR_def, sC_1, sC_2, sR_1, sR_2, sC_st, sR_st, sR_no, sR_refuse, and_self, true_and, and_true, false_and, and_false, f_X11_pass, f_X4_canWait, hn, hn1, c2, i_subr, h3]
        try rfl
      · simp (disch := omega) only [ne_eq, i_lt0, i_le0, i_eq0, i_n1, i_ltl, i_lel, i_eql, i_lt, i_le, i_eq, i_in, i_tn, i_add, i_addl, i_addr, i_mul, i_mulr, i_mull, if_true, if_false, eq_self, decide_eq_true_eq, decide_true, decide_false, Option.bind_some, Option.bind_none, fu_lt, Bool.false_eq_true, Bool.true_eq_false, not_true_eq_false, not_false_eq_true, Nat.not_lt_zero, Nat.le_zero_eq, Nat.reduceAdd, Nat.reduceMul, Nat.reduceSub, Nat.reduceEqDiff, Nat.reduceLT, Nat.reduceLeDiff, sC_def, sR_def, sC_1, sC_2, sR_1, sR_2, sC_st, sR_st, sR_no, sR_refuse, and_self, true_and, and_true, false_and, and_false, f_X12_pass, r_isIn1_999, hn, hn1, r5, h2]
  · refine ⟨-1, sC s1 5, sR s2 5, ?_, ?_, dI_s hI⟩
    · have h2' : ∀ A : Option Int32, (if a1 < 1 then some (5 : Int32) else if a1 ≤ 999 then A else some 5) = some 5 := fun A => by
        by_cases z1 : a1 < 1
        · rw [if_pos z1]
        · rw [if_neg z1, if_neg (fun z => h1 ⟨z1, z⟩)]
      unfold f_X11_pass
      refine (ob (h2' _)).trans ?_
      dsimp only [fu_lt]
      rw [sC_def, if_neg (by rw [sC_st]; decide)]
    · unfold f_X12_pass fu_lt
      dsimp only
      rw [sR_def, r_isIn1_999, if_neg (by simp only [decide_eq_true_eq]; exact h1), sR_refuse]
