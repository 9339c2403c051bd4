/-! calls that tell, one by one -/
theorem hd_0 : lw_E_0 dI := by
  intro s1 s2 h
  refine ⟨s1.1 0 15, s1, fu_pi s2 117 1 0, ⟨rfl, rfl⟩, ?_, dI_eq h eqC_rf (eqR_st (by omega) (by omega) (by omega) (by omega) (by omega)) ?_⟩
  · unfold f_X12_status fu_lt
    dsimp only
    rw [p1q (by omega), h.1]
  · rw [p1q (by omega), h.1]
theorem hd_1 : lw_E_1 dI := by
  intro s1 s2 h
  refine ⟨s1.2 0 16, s1, fu_pi s2 117 1 0, ⟨rfl, rfl⟩, ?_, dI_eq h eqC_rf (eqR_st (by omega) (by omega) (by omega) (by omega) (by omega)) ?_⟩
  · unfold f_X12_top fu_lt
    dsimp only
    rw [p2, h.2.1.1]
  · rw [p1q (by omega), h.1]
theorem hd_2 : lw_E_2 dI := by
  intro s1 s2 h
  refine ⟨s1.2 0 17, s1, fu_pi s2 117 1 0, ⟨rfl, rfl⟩, ?_, dI_eq h eqC_rf (eqR_st (by omega) (by omega) (by omega) (by omega) (by omega)) ?_⟩
  · unfold f_X12_bottom fu_lt
    dsimp only
    rw [p2, h.2.1.2]
  · rw [p1q (by omega), h.1]
theorem hd_15 : lw_E_15 dI := by
  intro s1 s2 hI a1 a2
  obtain ⟨D, hv, hC, hR, -⟩ := dI_D hI
  have hp4 := hv.1
  have hc := fun x => dC_s (x := x) (by omega : (11 : Nat) ≠ 0) hC
  have hr := fun x => dR_s (x := x) hv hR
  have ep := fun x y => r_isPerson (x := y) (hr x) hv
  by_cases h1 : ¬ a1 < 0 ∧ a1 < Int32.ofNat (D 0 4)
  · by_cases h2 : ¬ a2 < 0 ∧ a2 < Int32.ofNat (D 0 4)
    · obtain ⟨p, hp, rfl⟩ := i_is (by omega) h1
      obtain ⟨q, hq, rfl⟩ := i_is (by omega) h2
      have e1 := fun x => c_apart (hc x) hv hp hq
      have e2 := fun x => r_farBy (hr x) hv hp hq
      refine ⟨Int32.ofNat (d_far D p q), sC s1 0, sR s2 0, ?_, ?_, dI_s hI⟩
      · simp (disch := omega) only [ne_eq, i_lt0, i_le0, i_eq0, i_n1, i_ltl, i_lel, i_eql, i_lt, i_le, i_eq, i_in, i_tn, i_add, i_addl, i_addr, i_mul, i_mulr, i_mull, if_true, if_false, eq_self, decide_eq_true_eq, decide_true, decide_false, Option.bind_some, Option.bind_none, fu_lt, Bool.false_eq_true, Bool.true_eq_false, not_true_eq_false, not_false_eq_true, Nat.not_lt_zero, Nat.le_zero_eq, Nat.reduceAdd, Nat.reduceMul, Nat.reduceSub, Nat.reduceEqDiff, Nat.reduceLT, Nat.reduceLeDiff, sC_def, sR_def, sC_1, sC_2, sR_1, sR_2, sC_st, sR_st, sR_no, sR_refuse, and_self, true_and, and_true, false_and, and_false, f_X11_far, f_X11_coupleStatus, c_hasPerson hC, hp, hq, e1]
      · simp (disch := omega) only [ne_eq, i_lt0, i_le0, i_eq0, i_n1, i_ltl, i_lel, i_eql, i_lt, i_le, i_eq, i_in, i_tn, i_add, i_addl, i_addr, i_mul, i_mulr, i_mull, if_true, if_false, eq_self, decide_eq_true_eq, decide_true, decide_false, Option.bind_some, Option.bind_none, fu_lt, Bool.false_eq_true, Bool.true_eq_false, not_true_eq_false, not_false_eq_true, Nat.not_lt_zero, Nat.le_zero_eq, Nat.reduceAdd, Nat.reduceMul, Nat.reduceSub, Nat.reduceEqDiff, Nat.reduceLT, Nat.reduceLeDiff, sC_def, sR_def, sC_1, sC_2, sR_1, sR_2, sC_st, sR_st, sR_no, sR_refuse, and_self, true_and, and_true, false_and, and_false, f_X12_far, ep, hp, hq, e2]
    · refine ⟨-1, sC s1 2, sR s2 2, ?_, ?_, dI_s hI⟩
      · simp (disch := omega) only [ne_eq, i_lt0, i_le0, i_eq0, i_n1, i_ltl, i_lel, i_eql, i_lt, i_le, i_eq, i_in, i_tn, i_add, i_addl, i_addr, i_mul, i_mulr, i_mull, if_true, if_false, eq_self, decide_eq_true_eq, decide_true, decide_false, Option.bind_some, Option.bind_none, fu_lt, Bool.false_eq_true, Bool.true_eq_false, not_true_eq_false, not_false_eq_true, Nat.not_lt_zero, Nat.le_zero_eq, Nat.reduceAdd, Nat.reduceMul, Nat.reduceSub, Nat.reduceEqDiff, Nat.reduceLT, Nat.reduceLeDiff, sC_def, sR_def, sC_1, sC_2, sR_1, sR_2, sC_st, sR_st, sR_no, sR_refuse, and_self, true_and, and_true, false_and, and_false, f_X11_far, f_X11_coupleStatus, c_hasPerson hC, h1, h2]
        try rfl
      · simp (disch := omega) only [ne_eq, i_lt0, i_le0, i_eq0, i_n1, i_ltl, i_lel, i_eql, i_lt, i_le, i_eq, i_in, i_tn, i_add, i_addl, i_addr, i_mul, i_mulr, i_mull, if_true, if_false, eq_self, decide_eq_true_eq, decide_true, decide_false, Option.bind_some, Option.bind_none, fu_lt, Bool.false_eq_true, Bool.true_eq_false, not_true_eq_false, not_false_eq_true, Nat.not_lt_zero, Nat.le_zero_eq, Nat.reduceAdd, Nat.reduceMul, Nat.reduceSub, Nat.reduceEqDiff, Nat.reduceLT, Nat.reduceLeDiff, sC_def, sR_def, sC_1, sC_2, sR_1, sR_2, sC_st, sR_st, sR_no, sR_refuse, and_self, true_and, and_true, false_and, and_false, f_X12_far, ep, h1, h2]
  · refine ⟨-1, sC s1 2, sR s2 2, ?_, ?_, dI_s hI⟩
    · simp (disch := omega) only [ne_eq, i_lt0, i_le0, i_eq0, i_n1, i_ltl, i_lel, i_eql, i_lt, i_le, i_eq, i_in, i_tn, i_add, i_addl, i_addr, i_mul, i_mulr, i_mull, if_true, if_false, eq_self, decide_eq_true_eq, decide_true, decide_false, Option.bind_some, Option.bind_none, fu_lt, Bool.false_eq_true, Bool.true_eq_false, not_true_eq_false, not_false_eq_true, Nat.not_lt_zero, Nat.le_zero_eq, Nat.reduceAdd, Nat.reduceMul, Nat.reduceSub, Nat.reduceEqDiff, Nat.reduceLT, Nat.reduceLeDiff, sC_def, sR_def, sC_1, sC_2, sR_1, sR_2, sC_st, sR_st, sR_no, sR_refuse, and_self, true_and, and_true, false_and, and_false, f_X11_far, f_X11_coupleStatus, c_hasPerson hC, h1]
      try rfl
    · simp (disch := omega) only [ne_eq, i_lt0, i_le0, i_eq0, i_n1, i_ltl, i_lel, i_eql, i_lt, i_le, i_eq, i_in, i_tn, i_add, i_addl, i_addr, i_mul, i_mulr, i_mull, if_true, if_false, eq_self, decide_eq_true_eq, decide_true, decide_false, Option.bind_some, Option.bind_none, fu_lt, Bool.false_eq_true, Bool.true_eq_false, not_true_eq_false, not_false_eq_true, Nat.not_lt_zero, Nat.le_zero_eq, Nat.reduceAdd, Nat.reduceMul, Nat.reduceSub, Nat.reduceEqDiff, Nat.reduceLT, Nat.reduceLeDiff, sC_def, sR_def, sC_1, sC_2, sR_1, sR_2, sC_st, sR_st, sR_no, sR_refuse, and_self, true_and, and_true, false_and, and_false, f_X12_far, ep, h1]
theorem i_upto {x : Int32} {n : Nat} (hn : n < 2147483648) (h : ¬ x < 0 ∧ x ≤ Int32.ofNat n) : ∃ k, k ≤ n ∧ x = Int32.ofNat k := by
  rcases i_cases x with z | ⟨k, hk, rfl⟩
  · exact absurd z h.1
  · exact ⟨k, (i_le hk hn).mp h.2, rfl⟩
theorem r_isInN {x : Int32} {n : Nat} (hn : n < 2147483648) : f_X12_isIn (Int32.toInt64 x) (0 : Int64) (Int64.ofNat n) = decide (¬ x < 0 ∧ x ≤ Int32.ofNat n) := by
  rw [r_isIn, show Int64.ofNat n = Int32.toInt64 (Int32.ofNat n) from l_lit (n := n) hn, show (0 : Int64) = Int32.toInt64 (0 : Int32) from rfl]
  simp only [l_lt, l_le]
theorem r_isInl2 {x : Int32} : f_X12_isIn (Int32.toInt64 x) (0 : Int64) (2 : Int64) = decide (¬ x < 0 ∧ x ≤ 2) := r_isInN (n := 2) (by omega)
theorem r_isInl3 {x : Int32} : f_X12_isIn (Int32.toInt64 x) (0 : Int64) (3 : Int64) = decide (¬ x < 0 ∧ x ≤ 3) := r_isInN (n := 3) (by omega)
theorem r_isInl8 {x : Int32} : f_X12_isIn (Int32.toInt64 x) (0 : Int64) (8 : Int64) = decide (¬ x < 0 ∧ x ≤ 8) := r_isInN (n := 8) (by omega)
theorem r_isInl9 {x : Int32} : f_X12_isIn (Int32.toInt64 x) (0 : Int64) (9 : Int64) = decide (¬ x < 0 ∧ x ≤ 9) := r_isInN (n := 9) (by omega)
theorem dC_11 {s : fu_S} {D : dD} (h : dC s 11 D) : (s.1 11 0 = Int32.ofNat (D 0 0) ∧ s.1 11 1 = Int32.ofNat (D 0 1) ∧ s.1 11 2 = Int32.ofNat (D 0 2) ∧ s.1 11 3 = Int32.ofNat (D 0 3) ∧ s.1 11 4 = Int32.ofNat (D 0 4) ∧ s.1 11 5 = Int32.ofNat (D 0 5)) ∧
  (∀ k, k < D 0 3 → s.1 12 k = Int32.ofNat (D 1 k) ∧ s.1 13 k = Int32.ofNat (D 2 k) ∧ s.1 14 k = Int32.ofNat (D 3 k)) ∧
  (∀ p, p < D 0 4 → s.2 15 p = Int64.ofNat (D 4 p) ∧ s.1 16 p = Int32.ofNat (D 5 p) ∧ s.1 17 p = Int32.ofNat (D 6 p)) ∧
  ∀ t, t < D 0 5 → s.1 18 t = Int32.ofNat (D 7 t) ∧ s.1 19 t = Int32.ofNat (D 8 t) ∧ s.1 20 t = Int32.ofNat (D 9 t) ∧ s.1 21 t = Int32.ofNat (D 10 t) ∧ s.1 22 t = (if D 11 t = 0 then -1 else Int32.ofNat (D 11 t - 1)) ∧ (D 11 t ≠ 0 → s.1 23 t = Int32.ofNat (D 12 t)) := h
/-- the ladder of a number that must be at most n -/
theorem if_upto {x y : Int32} {a b c : Int32} : (if x < 0 then some a else if x ≤ y then some b else some c) = (if ¬ x < 0 ∧ x ≤ y then some b else if x < 0 then some a else some c) := by
  by_cases h1 : x < 0 <;> by_cases h2 : x ≤ y <;> simp [h1, h2]
theorem hd_12 : lw_E_12 dI := by
  intro s1 s2 hI a1 a2
  obtain ⟨D, hv, hC, hR, -⟩ := dI_D hI
  have hp4 := hv.1
  have hc := fun x => dC_s (x := x) (by omega : (11 : Nat) ≠ 0) hC
  have hr := fun x => dR_s (x := x) hv hR
  have ep := fun x y => r_isKind (x := y) (hr x) hv
  by_cases h1 : ¬ a1 < 0 ∧ a1 < Int32.ofNat (D 0 3)
  · obtain ⟨k, hk, rfl⟩ := i_is (by omega) h1
    have hb := dV_k hv hk
    have hk5 : k < 5 := by omega
    by_cases h2 : ¬ a2 < 0 ∧ a2 ≤ 2
    · obtain ⟨w, hw, rfl⟩ := i_upto (n := 2) (by omega) h2
      obtain ⟨k1, k2, k3⟩ := (dC_11 hC).2.1 k hk
      obtain ⟨g1, g2, g3⟩ := (dR_0 hR).2.1 k hk
      have ek := fun x => c_hasKind (x := Int32.ofNat k) (hc x)
      refine ⟨Int32.ofNat (D (w + 1) k), sC s1 0, sR s2 0, ?_, ?_, dI_s hI⟩
      · have : w = 0 ∨ w = 1 ∨ w = 2 := by omega
        rcases this with rfl | rfl | rfl
        · simp (disch := omega) only [ne_eq, i_lt0, i_le0, i_eq0, i_n1, i_ltl, i_lel, i_eql, i_lt, i_le, i_eq, i_in, i_tn, i_add, i_addl, i_addr, i_mul, i_mulr, i_mull, if_true, if_false, eq_self, decide_eq_true_eq, decide_true, decide_false, Option.bind_some, Option.bind_none, fu_lt, Bool.false_eq_true, Bool.true_eq_false, not_true_eq_false, not_false_eq_true, Nat.not_lt_zero, Nat.le_zero_eq, Nat.reduceAdd, Nat.reduceMul, Nat.reduceSub, Nat.reduceEqDiff, Nat.reduceLT, Nat.reduceLeDiff, sC_def, sR_def, sC_1, sC_2, sR_1, sR_2, sC_st, sR_st, sR_no, sR_refuse, and_self, true_and, and_true, false_and, and_false, f_X11_kind, f_X4_ofKind, c_hasKind hC, ek, hk, hk5, k1]
        · simp (disch := omega) only [ne_eq, i_lt0, i_le0, i_eq0, i_n1, i_ltl, i_lel, i_eql, i_lt, i_le, i_eq, i_in, i_tn, i_add, i_addl, i_addr, i_mul, i_mulr, i_mull, if_true, if_false, eq_self, decide_eq_true_eq, decide_true, decide_false, Option.bind_some, Option.bind_none, fu_lt, Bool.false_eq_true, Bool.true_eq_false, not_true_eq_false, not_false_eq_true, Nat.not_lt_zero, Nat.le_zero_eq, Nat.reduceAdd, Nat.reduceMul, Nat.reduceSub, Nat.reduceEqDiff, Nat.reduceLT, Nat.reduceLeDiff, sC_def, sR_def, sC_1, sC_2, sR_1, sR_2, sC_st, sR_st, sR_no, sR_refuse, and_self, true_and, and_true, false_and, and_false, f_X11_kind, f_X4_ofKind, c_hasKind hC, ek, hk, hk5, k2]
        · simp (disch := omega) only [ne_eq, i_lt0, i_le0, i_eq0, i_n1, i_ltl, i_lel, i_eql, i_lt, i_le, i_eq, i_in, i_tn, i_add, i_addl, i_addr, i_mul, i_mulr, i_mull, if_true, if_false, eq_self, decide_eq_true_eq, decide_true, decide_false, Option.bind_some, Option.bind_none, fu_lt, Bool.false_eq_true, Bool.true_eq_false, not_true_eq_false, not_false_eq_true, Nat.not_lt_zero, Nat.le_zero_eq, Nat.reduceAdd, Nat.reduceMul, Nat.reduceSub, Nat.reduceEqDiff, Nat.reduceLT, Nat.reduceLeDiff, sC_def, sR_def, sC_1, sC_2, sR_1, sR_2, sC_st, sR_st, sR_no, sR_refuse, and_self, true_and, and_true, false_and, and_false, f_X11_kind, f_X4_ofKind, c_hasKind hC, ek, hk, hk5, k3]
      · have : w = 0 ∨ w = 1 ∨ w = 2 := by omega
        rcases this with rfl | rfl | rfl
        · have m1 : 6 + k < 1775 := by omega
          simp (disch := omega) only [ne_eq, i_lt0, i_le0, i_eq0, i_n1, i_ltl, i_lel, i_eql, i_lt, i_le, i_eq, i_in, i_tn, i_add, i_addl, i_addr, i_mul, i_mulr, i_mull, if_true, if_false, eq_self, decide_eq_true_eq, decide_true, decide_false, Option.bind_some, Option.bind_none, fu_lt, Bool.false_eq_true, Bool.true_eq_false, not_true_eq_false, not_false_eq_true, Nat.not_lt_zero, Nat.le_zero_eq, Nat.reduceAdd, Nat.reduceMul, Nat.reduceSub, Nat.reduceEqDiff, Nat.reduceLT, Nat.reduceLeDiff, sC_def, sR_def, sC_1, sC_2, sR_1, sR_2, sC_st, sR_st, sR_no, sR_refuse, and_self, true_and, and_true, false_and, and_false, f_X12_kind, ep, hk, r_isInl2, g1, m1]
        · have m1 : 11 + k < 1775 := by omega
          simp (disch := omega) only [ne_eq, i_lt0, i_le0, i_eq0, i_n1, i_ltl, i_lel, i_eql, i_lt, i_le, i_eq, i_in, i_tn, i_add, i_addl, i_addr, i_mul, i_mulr, i_mull, if_true, if_false, eq_self, decide_eq_true_eq, decide_true, decide_false, Option.bind_some, Option.bind_none, fu_lt, Bool.false_eq_true, Bool.true_eq_false, not_true_eq_false, not_false_eq_true, Nat.not_lt_zero, Nat.le_zero_eq, Nat.reduceAdd, Nat.reduceMul, Nat.reduceSub, Nat.reduceEqDiff, Nat.reduceLT, Nat.reduceLeDiff, sC_def, sR_def, sC_1, sC_2, sR_1, sR_2, sC_st, sR_st, sR_no, sR_refuse, and_self, true_and, and_true, false_and, and_false, f_X12_kind, ep, hk, r_isInl2, g2, m1]
        · have m1 : 16 + k < 1775 := by omega
          simp (disch := omega) only [ne_eq, i_lt0, i_le0, i_eq0, i_n1, i_ltl, i_lel, i_eql, i_lt, i_le, i_eq, i_in, i_tn, i_add, i_addl, i_addr, i_mul, i_mulr, i_mull, if_true, if_false, eq_self, decide_eq_true_eq, decide_true, decide_false, Option.bind_some, Option.bind_none, fu_lt, Bool.false_eq_true, Bool.true_eq_false, not_true_eq_false, not_false_eq_true, Nat.not_lt_zero, Nat.le_zero_eq, Nat.reduceAdd, Nat.reduceMul, Nat.reduceSub, Nat.reduceEqDiff, Nat.reduceLT, Nat.reduceLeDiff, sC_def, sR_def, sC_1, sC_2, sR_1, sR_2, sC_st, sR_st, sR_no, sR_refuse, and_self, true_and, and_true, false_and, and_false, f_X12_kind, ep, hk, r_isInl2, g3, m1]
    · refine ⟨-1, sC s1 5, sR s2 5, ?_, ?_, dI_s hI⟩
      · simp (disch := omega) only [ne_eq, i_lt0, i_le0, i_eq0, i_n1, i_ltl, i_lel, i_eql, i_lt, i_le, i_eq, i_in, i_tn, i_add, i_addl, i_addr, i_mul, i_mulr, i_mull, if_true, if_false, eq_self, decide_eq_true_eq, decide_true, decide_false, Option.bind_some, Option.bind_none, fu_lt, Bool.false_eq_true, Bool.true_eq_false, not_true_eq_false, not_false_eq_true, Nat.not_lt_zero, Nat.le_zero_eq, Nat.reduceAdd, Nat.reduceMul, Nat.reduceSub, Nat.reduceEqDiff, Nat.reduceLT, Nat.reduceLeDiff, sC_def, sR_def, sC_1, sC_2, sR_1, sR_2, sC_st, sR_st, sR_no, sR_refuse, and_self, true_and, and_true, false_and, and_false, f_X11_kind, c_hasKind hC, hk, if_upto, h2, ite_self]
        try rfl
      · simp (disch := omega) only [ne_eq, i_lt0, i_le0, i_eq0, i_n1, i_ltl, i_lel, i_eql, i_lt, i_le, i_eq, i_in, i_tn, i_add, i_addl, i_addr, i_mul, i_mulr, i_mull, if_true, if_false, eq_self, decide_eq_true_eq, decide_true, decide_false, Option.bind_some, Option.bind_none, fu_lt, Bool.false_eq_true, Bool.true_eq_false, not_true_eq_false, not_false_eq_true, Nat.not_lt_zero, Nat.le_zero_eq, Nat.reduceAdd, Nat.reduceMul, Nat.reduceSub, Nat.reduceEqDiff, Nat.reduceLT, Nat.reduceLeDiff, sC_def, sR_def, sC_1, sC_2, sR_1, sR_2, sC_st, sR_st, sR_no, sR_refuse, and_self, true_and, and_true, false_and, and_false, f_X12_kind, ep, hk, r_isInl2, h2]
  · refine ⟨-1, sC s1 2, sR s2 2, ?_, ?_, dI_s hI⟩
    · simp (disch := omega) only [ne_eq, i_lt0, i_le0, i_eq0, i_n1, i_ltl, i_lel, i_eql, i_lt, i_le, i_eq, i_in, i_tn, i_add, i_addl, i_addr, i_mul, i_mulr, i_mull, if_true, if_false, eq_self, decide_eq_true_eq, decide_true, decide_false, Option.bind_some, Option.bind_none, fu_lt, Bool.false_eq_true, Bool.true_eq_false, not_true_eq_false, not_false_eq_true, Nat.not_lt_zero, Nat.le_zero_eq, Nat.reduceAdd, Nat.reduceMul, Nat.reduceSub, Nat.reduceEqDiff, Nat.reduceLT, Nat.reduceLeDiff, sC_def, sR_def, sC_1, sC_2, sR_1, sR_2, sC_st, sR_st, sR_no, sR_refuse, and_self, true_and, and_true, false_and, and_false, f_X11_kind, c_hasKind hC, h1]
      try rfl
    · simp (disch := omega) only [ne_eq, i_lt0, i_le0, i_eq0, i_n1, i_ltl, i_lel, i_eql, i_lt, i_le, i_eq, i_in, i_tn, i_add, i_addl, i_addr, i_mul, i_mulr, i_mull, if_true, if_false, eq_self, decide_eq_true_eq, decide_true, decide_false, Option.bind_some, Option.bind_none, fu_lt, Bool.false_eq_true, Bool.true_eq_false, not_true_eq_false, not_false_eq_true, Nat.not_lt_zero, Nat.le_zero_eq, Nat.reduceAdd, Nat.reduceMul, Nat.reduceSub, Nat.reduceEqDiff, Nat.reduceLT, Nat.reduceLeDiff, sC_def, sR_def, sC_1, sC_2, sR_1, sR_2, sC_st, sR_st, sR_no, sR_refuse, and_self, true_and, and_true, false_and, and_false, f_X12_kind, ep, h1]
