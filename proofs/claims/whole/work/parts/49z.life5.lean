/-! days that are lived: blocks -/
section LF5
variable {s t u s1 s2 t1 t2 s10 s20 : fu_S} {Q P PL ma b p k w i m v n q l N g lo hi e n2 c cnt F : Nat} {D D0 : dD} {ov : Bool} {x y : Int32} {S : Prop}
theorem c_isFoundF (h : dC s P D) (hv : dV D) (ht : D 0 5 ≤ i) (ht8 : i < 2147483648) : f_X4_isFound s P (Int32.ofNat i) = some false := by
  have hp4 := hv.1
  have h1 : ¬ i < D 0 5 := by omega
  simp (maxSteps := 1000000) (disch := omega) only [ne_eq, i_lt0, i_le0, i_eq0, i_n1, i_ltl, i_lel, i_eql, i_lt, i_le, i_eq, i_in, i_tn, i_add, i_addl, i_addr, i_mul, i_mulr, i_mull, if_true, if_false, eq_self, decide_eq_true_eq, decide_true, decide_false, Option.bind_some, Option.bind_none, ↓fu_ltd, ↓reduceIte, ↓ob_ite, ↓ob_asc, Bool.false_eq_true, Bool.true_eq_false, not_true_eq_false, not_false_eq_true, Nat.not_lt_zero, Nat.le_zero_eq, Nat.reduceAdd, Nat.reduceMul, Nat.reduceSub, Nat.reduceEqDiff, Nat.reduceLT, Nat.reduceLeDiff, sC_def, sR_def, sC_1, sC_2, sR_1, sR_2, sC_st, sR_st, sR_no, sR_refuse, and_self, true_and, and_true, false_and, and_false, f_X4_isFound, f_X4_isScratched, c_hasThing h, h1]
theorem L_holds (h : LR Q P ma D0 s1 s2 D n ov) (hw : w + 8 < 1775) (hd : (s1.1 (PL + 2) l = 116 ∧ s2.1 122 (w + 5) = 0 ∧ ∃ t, t < 8 ∧ s1.1 (PL + 3) l = Int32.ofNat t ∧ s2.1 122 (w + 1) = Int32.ofNat t) ∨
    (s1.1 (PL + 2) l = 117 ∧ s2.1 122 (w + 5) = 1 ∧ ∃ t, t < 8 ∧ s1.1 (PL + 3) l = Int32.ofNat t ∧ s2.1 122 (w + 1) = Int32.ofNat t) ∨
    (s2.1 122 (w + 5) = 2 ∧ (s1.1 (PL + 2) l = 60 ∨ s1.1 (PL + 2) l = 62 ∨ s1.1 (PL + 2) l = 61) ∧ s2.1 122 (w + 7) = s1.1 (PL + 2) l ∧ ∃ n, n ≤ 9999 ∧ s1.1 (PL + 3) l = Int32.ofNat n ∧ s2.1 122 (w + 6) = Int32.ofNat n)) : ∃ z, f_X3_holds s1 Q P (s1.1 (PL + 2) l) (s1.1 (PL + 3) l) = some z ∧ f_X12_holds s2 (Int32.ofNat w) = some z := by
  obtain ⟨hv, hC, hR, he, -⟩ := id h
  have hp4 := hv.1
  have m1 : w + 1 < 1775 := by omega
  have m5 : w + 5 < 1775 := by omega
  have m6 : w + 6 < 1775 := by omega
  have m7 : w + 7 < 1775 := by omega
  have c2 := hC.1.2.2.1
  have g5 := (dR_0 hR).1.2.2.2.2.2
  have l02 : ((0 : Int32) < 2) ↔ True := by decide
  have l12 : ((1 : Int32) < 2) ↔ True := by decide
  have l22 : ((2 : Int32) < 2) ↔ False := by decide
  rcases hd with ⟨d1, d2, t, d3, d4, d5⟩ | ⟨d1, d2, t, d3, d4, d5⟩ | ⟨d1, d2, d3, k, d4, d5, d6⟩
  · have et := r_isThing (x := Int32.ofNat t) hR hv
    have a1 : ((116 : Int32) = 60) ↔ False := by decide
    have a2 : ((116 : Int32) = 62) ↔ False := by decide
    by_cases ht : t < D 0 5
    · have e1 := c_isFound hC hv ht
      have e2 := r_isFound hR hv ht
      refine ⟨d_isF D t, ?_, ?_⟩
      · simp (maxSteps := 1000000) (disch := omega) only [ne_eq, i_lt0, i_le0, i_eq0, i_n1, i_ltl, i_lel, i_eql, i_lt, i_le, i_eq, i_in, i_tn, i_add, i_addl, i_addr, i_mul, i_mulr, i_mull, if_true, if_false, eq_self, decide_eq_true_eq, decide_true, decide_false, Option.bind_some, Option.bind_none, ↓fu_ltd, ↓reduceIte, ↓ob_ite, ↓ob_asc, Bool.false_eq_true, Bool.true_eq_false, not_true_eq_false, not_false_eq_true, Nat.not_lt_zero, Nat.le_zero_eq, Nat.reduceAdd, Nat.reduceMul, Nat.reduceSub, Nat.reduceEqDiff, Nat.reduceLT, Nat.reduceLeDiff, sC_def, sR_def, sC_1, sC_2, sR_1, sR_2, sC_st, sR_st, sR_no, sR_refuse, and_self, true_and, and_true, false_and, and_false, f_X3_holds, d1, d4, a1, a2, e1]
      · cases hz : d_isF D t
        · rw [hz] at e2
          simp (maxSteps := 1000000) (disch := omega) only [ne_eq, i_lt0, i_le0, i_eq0, i_n1, i_ltl, i_lel, i_eql, i_lt, i_le, i_eq, i_in, i_tn, i_add, i_addl, i_addr, i_mul, i_mulr, i_mull, if_true, if_false, eq_self, decide_eq_true_eq, decide_true, decide_false, Option.bind_some, Option.bind_none, ↓fu_ltd, ↓reduceIte, ↓ob_ite, ↓ob_asc, Bool.false_eq_true, Bool.true_eq_false, not_true_eq_false, not_false_eq_true, Nat.not_lt_zero, Nat.le_zero_eq, Nat.reduceAdd, Nat.reduceMul, Nat.reduceSub, Nat.reduceEqDiff, Nat.reduceLT, Nat.reduceLeDiff, sC_def, sR_def, sC_1, sC_2, sR_1, sR_2, sC_st, sR_st, sR_no, sR_refuse, and_self, true_and, and_true, false_and, and_false, f_X12_holds, m5, m1, d2, d5, l02, et, ht, e2]
        · rw [hz] at e2
          simp (maxSteps := 1000000) (disch := omega) only [ne_eq, i_lt0, i_le0, i_eq0, i_n1, i_ltl, i_lel, i_eql, i_lt, i_le, i_eq, i_in, i_tn, i_add, i_addl, i_addr, i_mul, i_mulr, i_mull, if_true, if_false, eq_self, decide_eq_true_eq, decide_true, decide_false, Option.bind_some, Option.bind_none, ↓fu_ltd, ↓reduceIte, ↓ob_ite, ↓ob_asc, Bool.false_eq_true, Bool.true_eq_false, not_true_eq_false, not_false_eq_true, Nat.not_lt_zero, Nat.le_zero_eq, Nat.reduceAdd, Nat.reduceMul, Nat.reduceSub, Nat.reduceEqDiff, Nat.reduceLT, Nat.reduceLeDiff, sC_def, sR_def, sC_1, sC_2, sR_1, sR_2, sC_st, sR_st, sR_no, sR_refuse, and_self, true_and, and_true, false_and, and_false, f_X12_holds, m5, m1, d2, d5, l02, et, ht, e2]
    · have e1 := c_isFoundF (i := t) hC hv (by omega) (by omega)
      refine ⟨false, ?_, ?_⟩
      · simp (maxSteps := 1000000) (disch := omega) only [ne_eq, i_lt0, i_le0, i_eq0, i_n1, i_ltl, i_lel, i_eql, i_lt, i_le, i_eq, i_in, i_tn, i_add, i_addl, i_addr, i_mul, i_mulr, i_mull, if_true, if_false, eq_self, decide_eq_true_eq, decide_true, decide_false, Option.bind_some, Option.bind_none, ↓fu_ltd, ↓reduceIte, ↓ob_ite, ↓ob_asc, Bool.false_eq_true, Bool.true_eq_false, not_true_eq_false, not_false_eq_true, Nat.not_lt_zero, Nat.le_zero_eq, Nat.reduceAdd, Nat.reduceMul, Nat.reduceSub, Nat.reduceEqDiff, Nat.reduceLT, Nat.reduceLeDiff, sC_def, sR_def, sC_1, sC_2, sR_1, sR_2, sC_st, sR_st, sR_no, sR_refuse, and_self, true_and, and_true, false_and, and_false, f_X3_holds, d1, d4, a1, a2, e1]
      · simp (maxSteps := 1000000) (disch := omega) only [ne_eq, i_lt0, i_le0, i_eq0, i_n1, i_ltl, i_lel, i_eql, i_lt, i_le, i_eq, i_in, i_tn, i_add, i_addl, i_addr, i_mul, i_mulr, i_mull, if_true, if_false, eq_self, decide_eq_true_eq, decide_true, decide_false, Option.bind_some, Option.bind_none, ↓fu_ltd, ↓reduceIte, ↓ob_ite, ↓ob_asc, Bool.false_eq_true, Bool.true_eq_false, not_true_eq_false, not_false_eq_true, Nat.not_lt_zero, Nat.le_zero_eq, Nat.reduceAdd, Nat.reduceMul, Nat.reduceSub, Nat.reduceEqDiff, Nat.reduceLT, Nat.reduceLeDiff, sC_def, sR_def, sC_1, sC_2, sR_1, sR_2, sC_st, sR_st, sR_no, sR_refuse, and_self, true_and, and_true, false_and, and_false, f_X12_holds, m5, m1, d2, d5, l02, et, ht]
  · have et := r_isThing (x := Int32.ofNat t) hR hv
    have a1 : ((117 : Int32) = 60) ↔ False := by decide
    have a2 : ((117 : Int32) = 62) ↔ False := by decide
    have a3 : ((117 : Int32) = 116) ↔ False := by decide
    by_cases ht : t < D 0 5
    · have e1 := c_isUp hC hv ht
      have e2 := r_isUp hR hv ht
      refine ⟨d_isUp D t, ?_, ?_⟩
      · simp (maxSteps := 1000000) (disch := omega) only [ne_eq, i_lt0, i_le0, i_eq0, i_n1, i_ltl, i_lel, i_eql, i_lt, i_le, i_eq, i_in, i_tn, i_add, i_addl, i_addr, i_mul, i_mulr, i_mull, if_true, if_false, eq_self, decide_eq_true_eq, decide_true, decide_false, Option.bind_some, Option.bind_none, ↓fu_ltd, ↓reduceIte, ↓ob_ite, ↓ob_asc, Bool.false_eq_true, Bool.true_eq_false, not_true_eq_false, not_false_eq_true, Nat.not_lt_zero, Nat.le_zero_eq, Nat.reduceAdd, Nat.reduceMul, Nat.reduceSub, Nat.reduceEqDiff, Nat.reduceLT, Nat.reduceLeDiff, sC_def, sR_def, sC_1, sC_2, sR_1, sR_2, sC_st, sR_st, sR_no, sR_refuse, and_self, true_and, and_true, false_and, and_false, f_X3_holds, d1, d4, a1, a2, a3, e1]
      · cases hz : d_isUp D t
        · rw [hz] at e2
          simp (maxSteps := 1000000) (disch := omega) only [ne_eq, i_lt0, i_le0, i_eq0, i_n1, i_ltl, i_lel, i_eql, i_lt, i_le, i_eq, i_in, i_tn, i_add, i_addl, i_addr, i_mul, i_mulr, i_mull, if_true, if_false, eq_self, decide_eq_true_eq, decide_true, decide_false, Option.bind_some, Option.bind_none, ↓fu_ltd, ↓reduceIte, ↓ob_ite, ↓ob_asc, Bool.false_eq_true, Bool.true_eq_false, not_true_eq_false, not_false_eq_true, Nat.not_lt_zero, Nat.le_zero_eq, Nat.reduceAdd, Nat.reduceMul, Nat.reduceSub, Nat.reduceEqDiff, Nat.reduceLT, Nat.reduceLeDiff, sC_def, sR_def, sC_1, sC_2, sR_1, sR_2, sC_st, sR_st, sR_no, sR_refuse, and_self, true_and, and_true, false_and, and_false, f_X12_holds, m5, m1, d2, d5, l12, n10, et, ht, e2]
        · rw [hz] at e2
          simp (maxSteps := 1000000) (disch := omega) only [ne_eq, i_lt0, i_le0, i_eq0, i_n1, i_ltl, i_lel, i_eql, i_lt, i_le, i_eq, i_in, i_tn, i_add, i_addl, i_addr, i_mul, i_mulr, i_mull, if_true, if_false, eq_self, decide_eq_true_eq, decide_true, decide_false, Option.bind_some, Option.bind_none, ↓fu_ltd, ↓reduceIte, ↓ob_ite, ↓ob_asc, Bool.false_eq_true, Bool.true_eq_false, not_true_eq_false, not_false_eq_true, Nat.not_lt_zero, Nat.le_zero_eq, Nat.reduceAdd, Nat.reduceMul, Nat.reduceSub, Nat.reduceEqDiff, Nat.reduceLT, Nat.reduceLeDiff, sC_def, sR_def, sC_1, sC_2, sR_1, sR_2, sC_st, sR_st, sR_no, sR_refuse, and_self, true_and, and_true, false_and, and_false, f_X12_holds, m5, m1, d2, d5, l12, n10, et, ht, e2]
    · have e1 := c_isUpF (t := t) hC hv (by omega) (by omega)
      refine ⟨false, ?_, ?_⟩
      · simp (maxSteps := 1000000) (disch := omega) only [ne_eq, i_lt0, i_le0, i_eq0, i_n1, i_ltl, i_lel, i_eql, i_lt, i_le, i_eq, i_in, i_tn, i_add, i_addl, i_addr, i_mul, i_mulr, i_mull, if_true, if_false, eq_self, decide_eq_true_eq, decide_true, decide_false, Option.bind_some, Option.bind_none, ↓fu_ltd, ↓reduceIte, ↓ob_ite, ↓ob_asc, Bool.false_eq_true, Bool.true_eq_false, not_true_eq_false, not_false_eq_true, Nat.not_lt_zero, Nat.le_zero_eq, Nat.reduceAdd, Nat.reduceMul, Nat.reduceSub, Nat.reduceEqDiff, Nat.reduceLT, Nat.reduceLeDiff, sC_def, sR_def, sC_1, sC_2, sR_1, sR_2, sC_st, sR_st, sR_no, sR_refuse, and_self, true_and, and_true, false_and, and_false, f_X3_holds, d1, d4, a1, a2, a3, e1]
      · simp (maxSteps := 1000000) (disch := omega) only [ne_eq, i_lt0, i_le0, i_eq0, i_n1, i_ltl, i_lel, i_eql, i_lt, i_le, i_eq, i_in, i_tn, i_add, i_addl, i_addr, i_mul, i_mulr, i_mull, if_true, if_false, eq_self, decide_eq_true_eq, decide_true, decide_false, Option.bind_some, Option.bind_none, ↓fu_ltd, ↓reduceIte, ↓ob_ite, ↓ob_asc, Bool.false_eq_true, Bool.true_eq_false, not_true_eq_false, not_false_eq_true, Nat.not_lt_zero, Nat.le_zero_eq, Nat.reduceAdd, Nat.reduceMul, Nat.reduceSub, Nat.reduceEqDiff, Nat.reduceLT, Nat.reduceLeDiff, sC_def, sR_def, sC_1, sC_2, sR_1, sR_2, sC_st, sR_st, sR_no, sR_refuse, and_self, true_and, and_true, false_and, and_false, f_X12_holds, m5, m1, d2, d5, l12, et, ht]
  · rw [d3.symm] at d2
    have a1 : ((62 : Int32) = 60) ↔ False := by decide
    have a2 : ((61 : Int32) = 60) ↔ False := by decide
    have a3 : ((61 : Int32) = 62) ↔ False := by decide
    have a4 : ((61 : Int32) = 116) ↔ False := by decide
    have a5 : ((61 : Int32) = 117) ↔ False := by decide
    rw [← d3]
    generalize D 0 2 = M at *
    rcases d2 with z | z | z
    · by_cases hz : M < k
      · exact ⟨true, by simp (maxSteps := 1000000) (disch := omega) only [ne_eq, i_lt0, i_le0, i_eq0, i_n1, i_ltl, i_lel, i_eql, i_lt, i_le, i_eq, i_in, i_tn, i_add, i_addl, i_addr, i_mul, i_mulr, i_mull, if_true, if_false, eq_self, decide_eq_true_eq, decide_true, decide_false, Option.bind_some, Option.bind_none, ↓fu_ltd, ↓reduceIte, ↓ob_ite, ↓ob_asc, Bool.false_eq_true, Bool.true_eq_false, not_true_eq_false, not_false_eq_true, Nat.not_lt_zero, Nat.le_zero_eq, Nat.reduceAdd, Nat.reduceMul, Nat.reduceSub, Nat.reduceEqDiff, Nat.reduceLT, Nat.reduceLeDiff, sC_def, sR_def, sC_1, sC_2, sR_1, sR_2, sC_st, sR_st, sR_no, sR_refuse, and_self, true_and, and_true, false_and, and_false, f_X3_holds, z, d5, f_X4_minute, c2, hz], by simp (maxSteps := 1000000) (disch := omega) only [ne_eq, i_lt0, i_le0, i_eq0, i_n1, i_ltl, i_lel, i_eql, i_lt, i_le, i_eq, i_in, i_tn, i_add, i_addl, i_addr, i_mul, i_mulr, i_mull, if_true, if_false, eq_self, decide_eq_true_eq, decide_true, decide_false, Option.bind_some, Option.bind_none, ↓fu_ltd, ↓reduceIte, ↓ob_ite, ↓ob_asc, Bool.false_eq_true, Bool.true_eq_false, not_true_eq_false, not_false_eq_true, Nat.not_lt_zero, Nat.le_zero_eq, Nat.reduceAdd, Nat.reduceMul, Nat.reduceSub, Nat.reduceEqDiff, Nat.reduceLT, Nat.reduceLeDiff, sC_def, sR_def, sC_1, sC_2, sR_1, sR_2, sC_st, sR_st, sR_no, sR_refuse, and_self, true_and, and_true, false_and, and_false, f_X12_holds, m5, m1, m7, m6, d1, l22, z, d6, g5, hz]⟩
      · exact ⟨false, by simp (maxSteps := 1000000) (disch := omega) only [ne_eq, i_lt0, i_le0, i_eq0, i_n1, i_ltl, i_lel, i_eql, i_lt, i_le, i_eq, i_in, i_tn, i_add, i_addl, i_addr, i_mul, i_mulr, i_mull, if_true, if_false, eq_self, decide_eq_true_eq, decide_true, decide_false, Option.bind_some, Option.bind_none, ↓fu_ltd, ↓reduceIte, ↓ob_ite, ↓ob_asc, Bool.false_eq_true, Bool.true_eq_false, not_true_eq_false, not_false_eq_true, Nat.not_lt_zero, Nat.le_zero_eq, Nat.reduceAdd, Nat.reduceMul, Nat.reduceSub, Nat.reduceEqDiff, Nat.reduceLT, Nat.reduceLeDiff, sC_def, sR_def, sC_1, sC_2, sR_1, sR_2, sC_st, sR_st, sR_no, sR_refuse, and_self, true_and, and_true, false_and, and_false, f_X3_holds, z, d5, f_X4_minute, c2, hz], by simp (maxSteps := 1000000) (disch := omega) only [ne_eq, i_lt0, i_le0, i_eq0, i_n1, i_ltl, i_lel, i_eql, i_lt, i_le, i_eq, i_in, i_tn, i_add, i_addl, i_addr, i_mul, i_mulr, i_mull, if_true, if_false, eq_self, decide_eq_true_eq, decide_true, decide_false, Option.bind_some, Option.bind_none, ↓fu_ltd, ↓reduceIte, ↓ob_ite, ↓ob_asc, Bool.false_eq_true, Bool.true_eq_false, not_true_eq_false, not_false_eq_true, Nat.not_lt_zero, Nat.le_zero_eq, Nat.reduceAdd, Nat.reduceMul, Nat.reduceSub, Nat.reduceEqDiff, Nat.reduceLT, Nat.reduceLeDiff, sC_def, sR_def, sC_1, sC_2, sR_1, sR_2, sC_st, sR_st, sR_no, sR_refuse, and_self, true_and, and_true, false_and, and_false, f_X12_holds, m5, m1, m7, m6, d1, l22, z, d6, g5, hz]⟩
    · by_cases hz : M ≤ k
      · exact ⟨false, by simp (maxSteps := 1000000) (disch := omega) only [ne_eq, i_lt0, i_le0, i_eq0, i_n1, i_ltl, i_lel, i_eql, i_lt, i_le, i_eq, i_in, i_tn, i_add, i_addl, i_addr, i_mul, i_mulr, i_mull, if_true, if_false, eq_self, decide_eq_true_eq, decide_true, decide_false, Option.bind_some, Option.bind_none, ↓fu_ltd, ↓reduceIte, ↓ob_ite, ↓ob_asc, Bool.false_eq_true, Bool.true_eq_false, not_true_eq_false, not_false_eq_true, Nat.not_lt_zero, Nat.le_zero_eq, Nat.reduceAdd, Nat.reduceMul, Nat.reduceSub, Nat.reduceEqDiff, Nat.reduceLT, Nat.reduceLeDiff, sC_def, sR_def, sC_1, sC_2, sR_1, sR_2, sC_st, sR_st, sR_no, sR_refuse, and_self, true_and, and_true, false_and, and_false, f_X3_holds, z, d5, f_X4_minute, c2, hz, a1], by simp (maxSteps := 1000000) (disch := omega) only [ne_eq, i_lt0, i_le0, i_eq0, i_n1, i_ltl, i_lel, i_eql, i_lt, i_le, i_eq, i_in, i_tn, i_add, i_addl, i_addr, i_mul, i_mulr, i_mull, if_true, if_false, eq_self, decide_eq_true_eq, decide_true, decide_false, Option.bind_some, Option.bind_none, ↓fu_ltd, ↓reduceIte, ↓ob_ite, ↓ob_asc, Bool.false_eq_true, Bool.true_eq_false, not_true_eq_false, not_false_eq_true, Nat.not_lt_zero, Nat.le_zero_eq, Nat.reduceAdd, Nat.reduceMul, Nat.reduceSub, Nat.reduceEqDiff, Nat.reduceLT, Nat.reduceLeDiff, sC_def, sR_def, sC_1, sC_2, sR_1, sR_2, sC_st, sR_st, sR_no, sR_refuse, and_self, true_and, and_true, false_and, and_false, f_X12_holds, m5, m1, m7, m6, d1, l22, z, d6, g5, hz, a1]⟩
      · exact ⟨true, by simp (maxSteps := 1000000) (disch := omega) only [ne_eq, i_lt0, i_le0, i_eq0, i_n1, i_ltl, i_lel, i_eql, i_lt, i_le, i_eq, i_in, i_tn, i_add, i_addl, i_addr, i_mul, i_mulr, i_mull, if_true, if_false, eq_self, decide_eq_true_eq, decide_true, decide_false, Option.bind_some, Option.bind_none, ↓fu_ltd, ↓reduceIte, ↓ob_ite, ↓ob_asc, Bool.false_eq_true, Bool.true_eq_false, not_true_eq_false, not_false_eq_true, Nat.not_lt_zero, Nat.le_zero_eq, Nat.reduceAdd, Nat.reduceMul, Nat.reduceSub, Nat.reduceEqDiff, Nat.reduceLT, Nat.reduceLeDiff, sC_def, sR_def, sC_1, sC_2, sR_1, sR_2, sC_st, sR_st, sR_no, sR_refuse, and_self, true_and, and_true, false_and, and_false, f_X3_holds, z, d5, f_X4_minute, c2, hz, a1], by simp (maxSteps := 1000000) (disch := omega) only [ne_eq, i_lt0, i_le0, i_eq0, i_n1, i_ltl, i_lel, i_eql, i_lt, i_le, i_eq, i_in, i_tn, i_add, i_addl, i_addr, i_mul, i_mulr, i_mull, if_true, if_false, eq_self, decide_eq_true_eq, decide_true, decide_false, Option.bind_some, Option.bind_none, ↓fu_ltd, ↓reduceIte, ↓ob_ite, ↓ob_asc, Bool.false_eq_true, Bool.true_eq_false, not_true_eq_false, not_false_eq_true, Nat.not_lt_zero, Nat.le_zero_eq, Nat.reduceAdd, Nat.reduceMul, Nat.reduceSub, Nat.reduceEqDiff, Nat.reduceLT, Nat.reduceLeDiff, sC_def, sR_def, sC_1, sC_2, sR_1, sR_2, sC_st, sR_st, sR_no, sR_refuse, and_self, true_and, and_true, false_and, and_false, f_X12_holds, m5, m1, m7, m6, d1, l22, z, d6, g5, hz, a1]⟩
    · by_cases hz : M = k
      · exact ⟨true, by simp (maxSteps := 1000000) (disch := omega) only [ne_eq, i_lt0, i_le0, i_eq0, i_n1, i_ltl, i_lel, i_eql, i_lt, i_le, i_eq, i_in, i_tn, i_add, i_addl, i_addr, i_mul, i_mulr, i_mull, if_true, if_false, eq_self, decide_eq_true_eq, decide_true, decide_false, Option.bind_some, Option.bind_none, ↓fu_ltd, ↓reduceIte, ↓ob_ite, ↓ob_asc, Bool.false_eq_true, Bool.true_eq_false, not_true_eq_false, not_false_eq_true, Nat.not_lt_zero, Nat.le_zero_eq, Nat.reduceAdd, Nat.reduceMul, Nat.reduceSub, Nat.reduceEqDiff, Nat.reduceLT, Nat.reduceLeDiff, sC_def, sR_def, sC_1, sC_2, sR_1, sR_2, sC_st, sR_st, sR_no, sR_refuse, and_self, true_and, and_true, false_and, and_false, f_X3_holds, z, d5, f_X4_minute, c2, hz, a2, a3, a4, a5], by simp (maxSteps := 1000000) (disch := omega) only [ne_eq, i_lt0, i_le0, i_eq0, i_n1, i_ltl, i_lel, i_eql, i_lt, i_le, i_eq, i_in, i_tn, i_add, i_addl, i_addr, i_mul, i_mulr, i_mull, if_true, if_false, eq_self, decide_eq_true_eq, decide_true, decide_false, Option.bind_some, Option.bind_none, ↓fu_ltd, ↓reduceIte, ↓ob_ite, ↓ob_asc, Bool.false_eq_true, Bool.true_eq_false, not_true_eq_false, not_false_eq_true, Nat.not_lt_zero, Nat.le_zero_eq, Nat.reduceAdd, Nat.reduceMul, Nat.reduceSub, Nat.reduceEqDiff, Nat.reduceLT, Nat.reduceLeDiff, sC_def, sR_def, sC_1, sC_2, sR_1, sR_2, sC_st, sR_st, sR_no, sR_refuse, and_self, true_and, and_true, false_and, and_false, f_X12_holds, m5, m1, m7, m6, d1, l22, z, d6, g5, hz, a2, a3]⟩
      · exact ⟨false, by simp (maxSteps := 1000000) (disch := omega) only [ne_eq, i_lt0, i_le0, i_eq0, i_n1, i_ltl, i_lel, i_eql, i_lt, i_le, i_eq, i_in, i_tn, i_add, i_addl, i_addr, i_mul, i_mulr, i_mull, if_true, if_false, eq_self, decide_eq_true_eq, decide_true, decide_false, Option.bind_some, Option.bind_none, ↓fu_ltd, ↓reduceIte, ↓ob_ite, ↓ob_asc, Bool.false_eq_true, Bool.true_eq_false, not_true_eq_false, not_false_eq_true, Nat.not_lt_zero, Nat.le_zero_eq, Nat.reduceAdd, Nat.reduceMul, Nat.reduceSub, Nat.reduceEqDiff, Nat.reduceLT, Nat.reduceLeDiff, sC_def, sR_def, sC_1, sC_2, sR_1, sR_2, sC_st, sR_st, sR_no, sR_refuse, and_self, true_and, and_true, false_and, and_false, f_X3_holds, z, d5, f_X4_minute, c2, hz, a2, a3, a4, a5], by simp (maxSteps := 1000000) (disch := omega) only [ne_eq, i_lt0, i_le0, i_eq0, i_n1, i_ltl, i_lel, i_eql, i_lt, i_le, i_eq, i_in, i_tn, i_add, i_addl, i_addr, i_mul, i_mulr, i_mull, if_true, if_false, eq_self, decide_eq_true_eq, decide_true, decide_false, Option.bind_some, Option.bind_none, ↓fu_ltd, ↓reduceIte, ↓ob_ite, ↓ob_asc, Bool.false_eq_true, Bool.true_eq_false, not_true_eq_false, not_false_eq_true, Nat.not_lt_zero, Nat.le_zero_eq, Nat.reduceAdd, Nat.reduceMul, Nat.reduceSub, Nat.reduceEqDiff, Nat.reduceLT, Nat.reduceLeDiff, sC_def, sR_def, sC_1, sC_2, sR_1, sR_2, sC_st, sR_st, sR_no, sR_refuse, and_self, true_and, and_true, false_and, and_false, f_X12_holds, m5, m1, m7, m6, d1, l22, z, d6, g5, hz, a2, a3]⟩
/-- the class at a when, at a loop, at an end -/
theorem c_behW {f i : Int32} {z : Bool} (a1 : f_X5_deedAt s PL (Int32.ofNat l) = some 115) (a2 : f_X5_firstAt s PL (Int32.ofNat l) = some f) (a3 : f_X5_secondAt s PL (Int32.ofNat l) = some i) (a4 : f_X5_mateAt s PL (Int32.ofNat l) = some (Int32.ofNat m)) (hI : f_X3_holds s Q P f i = some z) : f_X3_behindStep s Q PL P (Int32.ofNat l) = some (if z = true then Int32.ofNat (l + 1) else Int32.ofNat (m + 1), s) := by
  have q1 : ((115 : Int32) = 114) ↔ False := by decide
  cases z
  · simp (maxSteps := 1000000) (disch := omega) only [ne_eq, i_lt0, i_le0, i_eq0, i_n1, i_ltl, i_lel, i_eql, i_lt, i_le, i_eq, i_in, i_tn, i_add, i_addl, i_addr, i_mul, i_mulr, i_mull, if_true, if_false, eq_self, decide_eq_true_eq, decide_true, decide_false, Option.bind_some, Option.bind_none, ↓fu_ltd, ↓reduceIte, ↓ob_ite, ↓ob_asc, ↓Option.bind_some, Bool.false_eq_true, Bool.true_eq_false, not_true_eq_false, not_false_eq_true, Nat.not_lt_zero, Nat.le_zero_eq, Nat.reduceAdd, Nat.reduceMul, Nat.reduceSub, Nat.reduceEqDiff, Nat.reduceLT, Nat.reduceLeDiff, sC_def, sR_def, sC_1, sC_2, sR_1, sR_2, sC_st, sR_st, sR_no, sR_refuse, and_self, true_and, and_true, false_and, and_false, f_X3_behindStep, a1, a2, a3, a4, q1, hI, i_add1]
  · simp (maxSteps := 1000000) (disch := omega) only [ne_eq, i_lt0, i_le0, i_eq0, i_n1, i_ltl, i_lel, i_eql, i_lt, i_le, i_eq, i_in, i_tn, i_add, i_addl, i_addr, i_mul, i_mulr, i_mull, if_true, if_false, eq_self, decide_eq_true_eq, decide_true, decide_false, Option.bind_some, Option.bind_none, ↓fu_ltd, ↓reduceIte, ↓ob_ite, ↓ob_asc, ↓Option.bind_some, Bool.false_eq_true, Bool.true_eq_false, not_true_eq_false, not_false_eq_true, Nat.not_lt_zero, Nat.le_zero_eq, Nat.reduceAdd, Nat.reduceMul, Nat.reduceSub, Nat.reduceEqDiff, Nat.reduceLT, Nat.reduceLeDiff, sC_def, sR_def, sC_1, sC_2, sR_1, sR_2, sC_st, sR_st, sR_no, sR_refuse, and_self, true_and, and_true, false_and, and_false, f_X3_behindStep, a1, a2, a3, a4, q1, hI, i_add1]
theorem c_behL {f i : Int32} (hl : l < 60) (hm : m < 60) (a1 : f_X5_deedAt s PL (Int32.ofNat l) = some 119) (a2 : f_X5_firstAt s PL (Int32.ofNat l) = some f) (a3 : f_X5_secondAt s PL (Int32.ofNat l) = some i) (a4 : f_X5_mateAt s PL (Int32.ofNat l) = some (Int32.ofNat m)) : f_X3_behindStep s Q PL P (Int32.ofNat l) = if m = l + 1 then some (Int32.ofNat (m + 1), s) else some (Int32.ofNat (l + 1), fu_pi s (Q + 1) l f) := by
  have q1 : ((119 : Int32) = 114) ↔ False := by decide
  have q2 : ((119 : Int32) = 115) ↔ False := by decide
  by_cases h : m = l + 1
  · rw [if_pos h]
    simp (maxSteps := 1000000) (disch := omega) only [ne_eq, i_lt0, i_le0, i_eq0, i_n1, i_ltl, i_lel, i_eql, i_lt, i_le, i_eq, i_in, i_tn, i_add, i_addl, i_addr, i_mul, i_mulr, i_mull, if_true, if_false, eq_self, decide_eq_true_eq, decide_true, decide_false, Option.bind_some, Option.bind_none, ↓fu_ltd, ↓reduceIte, ↓ob_ite, ↓ob_asc, ↓Option.bind_some, Bool.false_eq_true, Bool.true_eq_false, not_true_eq_false, not_false_eq_true, Nat.not_lt_zero, Nat.le_zero_eq, Nat.reduceAdd, Nat.reduceMul, Nat.reduceSub, Nat.reduceEqDiff, Nat.reduceLT, Nat.reduceLeDiff, sC_def, sR_def, sC_1, sC_2, sR_1, sR_2, sC_st, sR_st, sR_no, sR_refuse, and_self, true_and, and_true, false_and, and_false, f_X3_behindStep, f_X3_intoLoop, a1, a2, a3, a4, q1, q2, hl, h, i_add1]
  · rw [if_neg h]
    simp (maxSteps := 1000000) (disch := omega) only [ne_eq, i_lt0, i_le0, i_eq0, i_n1, i_ltl, i_lel, i_eql, i_lt, i_le, i_eq, i_in, i_tn, i_add, i_addl, i_addr, i_mul, i_mulr, i_mull, if_true, if_false, eq_self, decide_eq_true_eq, decide_true, decide_false, Option.bind_some, Option.bind_none, ↓fu_ltd, ↓reduceIte, ↓ob_ite, ↓ob_asc, ↓Option.bind_some, Bool.false_eq_true, Bool.true_eq_false, not_true_eq_false, not_false_eq_true, Nat.not_lt_zero, Nat.le_zero_eq, Nat.reduceAdd, Nat.reduceMul, Nat.reduceSub, Nat.reduceEqDiff, Nat.reduceLT, Nat.reduceLeDiff, sC_def, sR_def, sC_1, sC_2, sR_1, sR_2, sC_st, sR_st, sR_no, sR_refuse, and_self, true_and, and_true, false_and, and_false, f_X3_behindStep, f_X3_intoLoop, a1, a2, a3, a4, q1, q2, hl, h, i_add1]
theorem c_end1 {d : Int32} (a1 : f_X5_mateAt s PL (Int32.ofNat m) = some (Int32.ofNat l)) (a2 : f_X5_deedAt s PL (Int32.ofNat l) = some d) (hd : d ≠ 119) : f_X3_behindEnd s Q PL (Int32.ofNat m) = some (Int32.ofNat (m + 1), s) := by
  simp (maxSteps := 1000000) (disch := omega) only [ne_eq, i_lt0, i_le0, i_eq0, i_n1, i_ltl, i_lel, i_eql, i_lt, i_le, i_eq, i_in, i_tn, i_add, i_addl, i_addr, i_mul, i_mulr, i_mull, if_true, if_false, eq_self, decide_eq_true_eq, decide_true, decide_false, Option.bind_some, Option.bind_none, ↓fu_ltd, ↓reduceIte, ↓ob_ite, ↓ob_asc, ↓Option.bind_some, Bool.false_eq_true, Bool.true_eq_false, not_true_eq_false, not_false_eq_true, Nat.not_lt_zero, Nat.le_zero_eq, Nat.reduceAdd, Nat.reduceMul, Nat.reduceSub, Nat.reduceEqDiff, Nat.reduceLT, Nat.reduceLeDiff, sC_def, sR_def, sC_1, sC_2, sR_1, sR_2, sC_st, sR_st, sR_no, sR_refuse, and_self, true_and, and_true, false_and, and_false, f_X3_behindEnd, a1, a2, hd, i_add1]
theorem c_end2 (hl : l < 60) (hc : c < 1000) (a1 : f_X5_mateAt s PL (Int32.ofNat m) = some (Int32.ofNat l)) (a2 : f_X5_deedAt s PL (Int32.ofNat l) = some 119) (a3 : s.1 (Q + 1) l = Int32.ofNat (c + 1)) : f_X3_behindEnd s Q PL (Int32.ofNat m) = some (if c = 0 then Int32.ofNat (m + 1) else Int32.ofNat (l + 1), fu_pi s (Q + 1) l (Int32.ofNat c)) := by
  by_cases h : c = 0
  · rw [if_pos h]
    simp (maxSteps := 1000000) (disch := omega) only [ne_eq, i_lt0, i_le0, i_eq0, i_n1, i_ltl, i_lel, i_eql, i_lt, i_le, i_eq, i_in, i_tn, i_add, i_addl, i_addr, i_mul, i_mulr, i_mull, if_true, if_false, eq_self, decide_eq_true_eq, decide_true, decide_false, Option.bind_some, Option.bind_none, ↓fu_ltd, ↓reduceIte, ↓ob_ite, ↓ob_asc, ↓Option.bind_some, Bool.false_eq_true, Bool.true_eq_false, not_true_eq_false, not_false_eq_true, Nat.not_lt_zero, Nat.le_zero_eq, Nat.reduceAdd, Nat.reduceMul, Nat.reduceSub, Nat.reduceEqDiff, Nat.reduceLT, Nat.reduceLeDiff, sC_def, sR_def, sC_1, sC_2, sR_1, sR_2, sC_st, sR_st, sR_no, sR_refuse, and_self, true_and, and_true, false_and, and_false, f_X3_behindEnd, a1, a2, hl, a3, i_add1s, p1, h, i_add1]
  · rw [if_neg h]
    simp (maxSteps := 1000000) (disch := omega) only [ne_eq, i_lt0, i_le0, i_eq0, i_n1, i_ltl, i_lel, i_eql, i_lt, i_le, i_eq, i_in, i_tn, i_add, i_addl, i_addr, i_mul, i_mulr, i_mull, if_true, if_false, eq_self, decide_eq_true_eq, decide_true, decide_false, Option.bind_some, Option.bind_none, ↓fu_ltd, ↓reduceIte, ↓ob_ite, ↓ob_asc, ↓Option.bind_some, Bool.false_eq_true, Bool.true_eq_false, not_true_eq_false, not_false_eq_true, Nat.not_lt_zero, Nat.le_zero_eq, Nat.reduceAdd, Nat.reduceMul, Nat.reduceSub, Nat.reduceEqDiff, Nat.reduceLT, Nat.reduceLeDiff, sC_def, sR_def, sC_1, sC_2, sR_1, sR_2, sC_st, sR_st, sR_no, sR_refuse, and_self, true_and, and_true, false_and, and_false, f_X3_behindEnd, a1, a2, hl, a3, i_add1s, p1, h, i_add1]
theorem LR_q1 (hQ : P + 13 ≤ Q) (h : LR Q P ma D0 s1 s2 D n ov) : LR Q P ma D0 (fu_pi s1 (Q + 1) q x) s2 D n ov := by
  obtain ⟨hv, hC, hR, he, hL⟩ := h
  refine ⟨hv, dC_congr (fun k hk => ⟨p1n (by omega), rfl⟩) hC, hR, he, ?_⟩
  rw [p1n (by omega)]
  exact hL
theorem ar1 {j n' : Nat} (h : j ≤ (g - 1 + 1) * (n' - (n + 1)) + k) (hg : 0 < g) (hn : n + 1 ≤ n') : j + 2 ≤ (g + 1) * (n' - n) + k := by
  obtain ⟨h', rfl⟩ : ∃ h', g = h' + 1 := ⟨g - 1, by omega⟩
  obtain ⟨a, rfl⟩ : ∃ a, n' = n + 1 + a := ⟨n' - (n + 1), by omega⟩
  rw [show h' + 1 - 1 + 1 = h' + 1 by omega, show n + 1 + a - (n + 1) = a by omega] at h
  rw [show n + 1 + a - n = a + 1 by omega, Nat.mul_succ, Nat.succ_mul]
  omega
theorem ar2 {j n' : Nat} (h : j ≤ (g - 1 + 1) * (n' - n) + k) (hg : 0 < g) : j ≤ (g + 1) * (n' - n) + k := by
  obtain ⟨h', rfl⟩ : ∃ h', g = h' + 1 := ⟨g - 1, by omega⟩
  rw [show h' + 1 - 1 + 1 = h' + 1 by omega] at h
  rw [Nat.succ_mul]
  omega
theorem ar3 {j n' : Nat} (h : j ≤ (g - 1 + 1) * (n' - n)) (hg : 0 < g) (hn : n < n') : j + 1 ≤ (g + 1) * (n' - n) := by
  obtain ⟨h', rfl⟩ : ∃ h', g = h' + 1 := ⟨g - 1, by omega⟩
  rw [show h' + 1 - 1 + 1 = h' + 1 by omega] at h
  rw [Nat.succ_mul]
  omega
/-- what stands of a block's lines -/
def BK (PL l m N : Nat) (s : fu_S) : Prop := s.1 PL 4 = Int32.ofNat N ∧ N ≤ 60 ∧ l < m ∧ m < N ∧ s.1 (PL + 4) l = Int32.ofNat m ∧ s.1 (PL + 1) m = 120 ∧ s.1 (PL + 4) m = Int32.ofNat l
theorem BK_F (hPL : PL + 5 ≤ Q ∧ (PL + 5 ≤ P ∨ P + 13 ≤ PL)) (h1 : F1 Q P s t) (h : BK PL l m N s) : BK PL l m N t := by
  have hp := fun k hk => F1_pl (k := k) hPL h1 hk
  have h0 : t.1 PL = s.1 PL := hp 0 (by omega)
  unfold BK
  rw [h0, hp 1 (by omega), hp 4 (by omega)]
  exact h
/-- the block's inside, by the reference's own call -/
theorem r_in (hg : 0 < g) (hF : g ≤ F) (hhi : n2 ≤ 30) (hG : RG Q P PL ma D0 s10 s20 (g - 1) (lo + 1) n2 (l + 1) m) (h : LR Q P ma D0 s1 s2 D n false) (h1 : F1 Q P s10 s1) (h2 : F2 s20 s2) : RO Q P PL ma D0 (g - 1) (l + 1) m (lo + 1 < n2) s1 s2 n (f_X12_doAll F s2 (Int32.ofNat (lo + 1)) (Int32.ofNat n2)) := by
  obtain ⟨F', rfl⟩ : ∃ F', F = F' + 1 := ⟨F - 1, by omega⟩
  have := hG F' s1 s2 D n fu_N (by omega) h h1 h2 (fu_N_gt (by omega))
  rw [f_X12_doAll]
  unfold fb_X12_doAll
  obtain ⟨t1, t2, D', n', ov, j, e1, e2⟩ := this
  exact ⟨t1, t2, D', n', ov, j, by rw [e1, Option.bind_some], e2⟩
theorem RD_when (hQ : P + 13 ≤ Q) (hPL : PL + 5 ≤ Q ∧ (PL + 5 ≤ P ∨ P + 13 ≤ PL)) (hlo : lo < 30) (hg : 0 < g) (hhi : n2 ≤ 30) (hB : BK PL l m N s10) (h115 : s10.1 (PL + 1) l = 115) (hk : s20.1 122 (85 + 9 * lo) = 4) (hw : s20.1 122 (85 + 9 * lo + 8) = Int32.ofNat n2) (hd : (s10.1 (PL + 2) l = 116 ∧ s20.1 122 (85 + 9 * lo + 5) = 0 ∧ ∃ t, t < 8 ∧ s10.1 (PL + 3) l = Int32.ofNat t ∧ s20.1 122 (85 + 9 * lo + 1) = Int32.ofNat t) ∨
    (s10.1 (PL + 2) l = 117 ∧ s20.1 122 (85 + 9 * lo + 5) = 1 ∧ ∃ t, t < 8 ∧ s10.1 (PL + 3) l = Int32.ofNat t ∧ s20.1 122 (85 + 9 * lo + 1) = Int32.ofNat t) ∨
    (s20.1 122 (85 + 9 * lo + 5) = 2 ∧ (s10.1 (PL + 2) l = 60 ∨ s10.1 (PL + 2) l = 62 ∨ s10.1 (PL + 2) l = 61) ∧ s20.1 122 (85 + 9 * lo + 7) = s10.1 (PL + 2) l ∧ ∃ n, n ≤ 9999 ∧ s10.1 (PL + 3) l = Int32.ofNat n ∧ s20.1 122 (85 + 9 * lo + 6) = Int32.ofNat n)) (hG : RG Q P PL ma D0 s10 s20 (g - 1) (lo + 1) n2 (l + 1) m) : RD Q P PL ma D0 s10 s20 g lo l (m + 1) := by
  intro F s1 s2 D n hF h h1 h2
  have hp := fun k hk => F1_pl (k := k) hPL h1 hk
  have hB1 := BK_F hPL h1 hB
  obtain ⟨hN', hN2, hlm, hmN, -⟩ := id hB1
  have h120 : s1.1 (PL + 1) l ≠ 120 := by rw [hp 1 (by omega), h115]; decide
  have h121 : s1.1 (PL + 1) l ≠ 121 := by rw [hp 1 (by omega), h115]; decide
  obtain ⟨n3, n4, n5⟩ := LR_n2 h
  by_cases h3 : n = 300
  · subst h3
    exact RO_cut hQ h hN' hN2 (by omega) (by omega) h120
  · have hn : n < 300 := by omega
    have h7 := LR_n hQ h hn
    obtain ⟨U, hU⟩ : ∃ U, U = fu_pi s1 Q 2 (Int32.ofNat (n + 1)) := ⟨_, rfl⟩
    obtain ⟨V, hV⟩ : ∃ V, V = fu_pi s2 117 34 (Int32.ofNat (n + 1)) := ⟨_, rfl⟩
    have f1 : F1 Q P s1 U := by rw [hU]; exact F1_q (by omega)
    have f2 : F2 s2 V := by rw [hV]; exact F2_q (by omega)
    have hq : U.1 (Q + 1) = s1.1 (Q + 1) := by rw [hU, p1n (by omega)]
    rw [← hU, ← hV] at h7
    have hBU := BK_F hPL f1 hB1
    obtain ⟨bU, -, -, -, bU4, bU5, bU6⟩ := id hBU
    have ff1 := F1_tr h1 f1
    have ff2 := F2_tr h2 f2
    have hpU := fun k hk => F1_pl (k := k) hPL ff1 hk
    have hvV : ∀ i, i < 9 → V.1 122 (85 + 9 * lo + i) = s20.1 122 (85 + 9 * lo + i) := fun i hi => F2_st ff2 (by omega)
    have a1 := c_deedAt (l := l) bU hN2 (by omega)
    have a2 := c_firstAt (l := l) bU hN2 (by omega)
    have a3 := c_secondAt (l := l) bU hN2 (by omega)
    have a4 := c_mateAt (l := l) bU hN2 (by omega)
    rw [hpU 1 (by omega), h115] at a1
    rw [bU4] at a4
    have hk' : V.1 122 (85 + 9 * lo) = 4 := (hvV 0 (by omega)).trans hk
    have hw' : V.1 122 (85 + 9 * lo + 8) = Int32.ofNat n2 := (hvV 8 (by omega)).trans hw
    rw [← hvV 5 (by omega), ← hvV 1 (by omega), ← hvV 6 (by omega), ← hvV 7 (by omega), ← hpU 2 (by omega), ← hpU 3 (by omega)] at hd
    obtain ⟨z, z1, z2⟩ := L_holds h7 (by omega) hd
    have e1 := c_behW a1 a2 a3 a4 z1
    have e2 := doOne_when (K := f_X12_doAll F) n5 hn hlo hV hk' z2
    cases z
    · rw [if_neg Bool.false_ne_true] at e1 e2
      refine ⟨U, V, D, n + 1, false, 1, e2, h7, f1, f2, fun i _ => by rw [hq], by omega, fun _ => .inl (by omega), fun _ => ⟨?_, fun c b hb => ?_⟩, fun z => Bool.noConfusion z⟩
      · rw [show n + 1 - n = 1 by omega]; omega
      · rw [R_step hN' hN2 (by omega) (by omega) h120 h121 n4 hn, ← hU, e1]
        rfl
    · rw [if_pos rfl] at e1 e2
      rw [hw'] at e2
      obtain ⟨t1, t2, D', n', ov, j, b1, b2, b3, b4, b5, b6, b7, b8, b9⟩ := r_in hg hF hhi hG h7 ff1 ff2
      cases ov
      · obtain ⟨b8a, b8b⟩ := b8 rfl
        have hBt := BK_F hPL b3 hBU
        obtain ⟨bt, -, -, -, bt4, bt5, bt6⟩ := id hBt
        have c1 := c_mateAt (l := m) bt hN2 hmN
        rw [bt6] at c1
        have c2 := c_deedAt (l := l) bt hN2 (by omega)
        rw [F1_pl hPL (F1_tr ff1 b3) (by omega), h115] at c2
        have c3 := c_end1 (Q := Q) c1 c2 (by decide)
        refine ⟨t1, t2, D', n', false, 1 + j + 1, e2.trans b1, b2, F1_tr f1 b3, F2_tr f2 b4, fun i hi => by rw [b5 i (by omega), hq], by omega, fun _ => .inl (by omega), fun _ => ⟨?_, fun c b hb => ?_⟩, fun z => Bool.noConfusion z⟩
        · have := ar1 (k := 0) b8a hg (by omega)
          omega
        · rw [show c + (1 + j + 1) = (c + 1 + j) + 1 by omega, R_step hN' hN2 (by omega) (by omega) h120 h121 n4 hn, ← hU, e1, Option.bind_some]
          dsimp only
          rw [b8b (c + 1) (b + 1) (by omega), R_end bt hN2 hmN (by omega) bt5, c3, Option.bind_some]
          dsimp only
          rw [show b + 1 + j + 1 = b + (1 + j + 1) by omega]
      · obtain ⟨b9a, b9b⟩ := b9 rfl
        refine ⟨t1, t2, D', n', true, 1 + j, e2.trans b1, b2, F1_tr f1 b3, F2_tr f2 b4, fun i hi => by rw [b5 i (by omega), hq], by omega, fun _ => .inr rfl, fun z => Bool.noConfusion z, fun _ => ⟨?_, fun c b hb => ?_⟩⟩
        · have := ar1 (k := 1) b9a hg (by omega)
          omega
        · rw [show c + (1 + j) = (c + j) + 1 by omega, R_step hN' hN2 (by omega) (by omega) h120 h121 n4 hn, ← hU, e1, Option.bind_some]
          dsimp only
          rw [b9b c (b + 1) (by omega)]
end LF5
