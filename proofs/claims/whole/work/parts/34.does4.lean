/-! what is done: rewrite -/
theorem r_isIn1_9 {x : Int32} : f_X12_isIn (Int32.toInt64 x) (1 : Int64) (9 : Int64) = decide (¬ x < 1 ∧ x ≤ 9) := r_isIn1 (n := 9) (by omega)
theorem r_isInl2' {x : Int32} : f_X12_isIn (Int32.toInt64 x) (0 : Int64) (2 : Int64) = decide (¬ x < 0 ∧ x ≤ 2) := r_isInN (n := 2) (by omega)
theorem i_in1 {x : Int32} {n : Nat} (hn : n < 2147483648) (h : ¬ x < 1 ∧ x ≤ Int32.ofNat n) : ∃ w, 1 ≤ w ∧ w ≤ n ∧ x = Int32.ofNat w := by
  obtain ⟨w, hw, rfl⟩ := i_upto hn ⟨fun z => h.1 (i_lt1.mpr (.inl z)), h.2⟩
  refine ⟨w, ?_, hw, rfl⟩
  refine Nat.pos_of_ne_zero fun z => h.1 (i_lt1.mpr (.inr ?_))
  rw [z]; rfl
theorem if1_9 {x : Int32} : (if x < 1 then false else if x ≤ 9 then true else false) = decide (¬ x < 1 ∧ x ≤ 9) := by
  by_cases h1 : x < 1 <;> by_cases h2 : x ≤ 9 <;> simp [h1, h2]
theorem c_forKind0 {P : Nat} {x : Int32} : f_X4_isForKind P 0 x = decide (¬ x < 1 ∧ x ≤ 9) := by
  unfold f_X4_isForKind fu_lt
  rw [if_pos rfl, if1_9]
theorem c_forKind1 {P : Nat} {x : Int32} : f_X4_isForKind P 1 x = decide (¬ x < 0 ∧ x ≤ 9) := by
  unfold f_X4_isForKind fu_lt
  rw [if_neg (by decide), if_pos rfl, c_isSpot]
theorem c_forKind2 {P : Nat} {x : Int32} : f_X4_isForKind P 2 x = decide (¬ x < 1 ∧ x ≤ 9) := by
  unfold f_X4_isForKind fu_lt
  rw [if_neg (by decide), if_neg (by decide), if_pos rfl, if1_9]
theorem c_forKindN {P : Nat} {x y : Int32} (h : ¬ (¬ y < 0 ∧ y ≤ 2)) : f_X4_isForKind P y x = false := by
  unfold f_X4_isForKind fu_lt
  rw [if_neg (fun e => h (by subst e; decide)), if_neg (fun e => h (by subst e; decide)), if_neg (fun e => h (by subst e; decide))]
theorem hd_23 : lw_E_23 dI := by
  intro s1 s2 hI a1 a2 a3
  obtain ⟨D, hv, hC, hR, hQ⟩ := dI_D hI
  have hp4 := hv.1
  have hc := fun x => dC_s (x := x) (by omega : (11 : Nat) ≠ 0) hC
  have hr := fun x => dR_s (x := x) hv hR
  have ek := fun x y => r_isKind (x := y) (hr x) hv
  have n10 : ¬ ((1 : Int32) = 0) := by decide
  have n20 : ¬ ((2 : Int32) = 0) := by decide
  have n21 : ¬ ((2 : Int32) = 1) := by decide
  have n01 : ¬ ((0 : Int32) = 1) := by decide
  have m0 : (6 : Int32) + 5 * 0 = 6 := rfl
  have m1 : (6 : Int32) + 5 * 1 = 11 := rfl
  have m2 : (6 : Int32) + 5 * 2 = 16 := rfl
  by_cases h1 : ¬ a1 < 0 ∧ a1 < Int32.ofNat (D 0 3)
  · obtain ⟨k, hk, rfl⟩ := i_is (by omega) h1
    have hk5 : k < 5 := by omega
    have e1 := fun x => c_hasKind (x := Int32.ofNat k) (hc x)
    obtain ⟨g1, g2, g3⟩ := (dR_0 hR).2.1 k hk
    obtain ⟨k1, k2, k3⟩ := (dC_11 hC).2.1 k hk
    have b1 : 6 + k < 1775 := by omega
    have b2 : 11 + k < 1775 := by omega
    have b3 : 16 + k < 1775 := by omega
    by_cases h2 : ¬ a2 < 0 ∧ a2 ≤ 2
    · obtain ⟨w, hw, rfl⟩ := i_upto (n := 2) (by omega) h2
      match w, hw with
      | 0, _ =>
        have q0 : Int32.ofNat 0 = 0 := rfl
        simp only [q0] at h2 ⊢
        by_cases h3 : ¬ a3 < 1 ∧ a3 ≤ 9
        · obtain ⟨v, hv1, hv9, rfl⟩ := i_in1 (n := 9) (by omega) h3
          refine ⟨Int32.ofNat (D 1 k), fu_pi (sC s1 0) 12 k (Int32.ofNat v), fu_pi (sR s2 0) 122 (6 + k) (Int32.ofNat v), ?_, ?_, dI_upd (D' := dset D 1 k v) hI hQ (eqC2_tr (eqC2_of eqC_sC) (eqC2_pi (by omega))) (eqR2_tr (eqR2_of eqR_sR) (eqR2_pi (by omega))) ?_ (dV_set (by omega) hv (by omega) (by omega) (by omega) (by omega) (by omega) (by omega)) (dC_put (f := 1) (by omega) (hc 0)) (dR_put1 hv hk5 (hr 0)) ?_ ?_⟩
          · simp (disch := omega) only [ne_eq, i_lt0, i_le0, i_eq0, i_n1, i_ltl, i_lel, i_eql, i_lt, i_le, i_eq, i_in, i_tn, i_add, i_addl, i_addr, i_mul, i_mulr, i_mull, if_true, if_false, eq_self, decide_eq_true_eq, decide_true, decide_false, Option.bind_some, Option.bind_none, fu_lt, Bool.false_eq_true, Bool.true_eq_false, not_true_eq_false, not_false_eq_true, Nat.not_lt_zero, Nat.le_zero_eq, Nat.reduceAdd, Nat.reduceMul, Nat.reduceSub, Nat.reduceEqDiff, Nat.reduceLT, Nat.reduceLeDiff, sC_def, sR_def, sC_1, sC_2, sR_1, sR_2, sC_st, sR_st, sR_no, sR_refuse, and_self, true_and, and_true, false_and, and_false, f_X11_rewrite, f_X4_ofKind, f_X4_changeKind, c_hasKind hC, c_forKind0, h3, hk, hk5, k1, e1]
          · simp (disch := omega) only [ne_eq, i_lt0, i_le0, i_eq0, i_n1, i_ltl, i_lel, i_eql, i_lt, i_le, i_eq, i_in, i_tn, i_add, i_addl, i_addr, i_mul, i_mulr, i_mull, if_true, if_false, eq_self, decide_eq_true_eq, decide_true, decide_false, Option.bind_some, Option.bind_none, fu_lt, Bool.false_eq_true, Bool.true_eq_false, not_true_eq_false, not_false_eq_true, Nat.not_lt_zero, Nat.le_zero_eq, Nat.reduceAdd, Nat.reduceMul, Nat.reduceSub, Nat.reduceEqDiff, Nat.reduceLT, Nat.reduceLeDiff, sC_def, sR_def, sC_1, sC_2, sR_1, sR_2, sC_st, sR_st, sR_no, sR_refuse, and_self, true_and, and_true, false_and, and_false, f_X12_rewrite, ek, hk, r_isInl2', r_isIn1_9, h2, h3, q0, n01, m0, b1, g1]
          · rw [sC_piw (by omega), sR_piw (by omega)]
          · rw [dset_f (by omega)]; exact Nat.le_refl _
          · rw [dset_f (by omega)]; exact Nat.le_refl _
        · refine ⟨-1, sC s1 5, sR s2 5, ?_, ?_, dI_s hI⟩
          · simp (disch := omega) only [ne_eq, i_lt0, i_le0, i_eq0, i_n1, i_ltl, i_lel, i_eql, i_lt, i_le, i_eq, i_in, i_tn, i_add, i_addl, i_addr, i_mul, i_mulr, i_mull, if_true, if_false, eq_self, decide_eq_true_eq, decide_true, decide_false, Option.bind_some, Option.bind_none, fu_lt, Bool.false_eq_true, Bool.true_eq_false, not_true_eq_false, not_false_eq_true, Nat.not_lt_zero, Nat.le_zero_eq, Nat.reduceAdd, Nat.reduceMul, Nat.reduceSub, Nat.reduceEqDiff, Nat.reduceLT, Nat.reduceLeDiff, sC_def, sR_def, sC_1, sC_2, sR_1, sR_2, sC_st, sR_st, sR_no, sR_refuse, and_self, true_and, and_true, false_and, and_false, f_X11_rewrite, c_hasKind hC, hk, c_forKind0, h3]
            try rfl
          · simp (disch := omega) only [ne_eq, i_lt0, i_le0, i_eq0, i_n1, i_ltl, i_lel, i_eql, i_lt, i_le, i_eq, i_in, i_tn, i_add, i_addl, i_addr, i_mul, i_mulr, i_mull, if_true, if_false, eq_self, decide_eq_true_eq, decide_true, decide_false, Option.bind_some, Option.bind_none, fu_lt, Bool.false_eq_true, Bool.true_eq_false, not_true_eq_false, not_false_eq_true, Nat.not_lt_zero, Nat.le_zero_eq, Nat.reduceAdd, Nat.reduceMul, Nat.reduceSub, Nat.reduceEqDiff, Nat.reduceLT, Nat.reduceLeDiff, sC_def, sR_def, sC_1, sC_2, sR_1, sR_2, sC_st, sR_st, sR_no, sR_refuse, and_self, true_and, and_true, false_and, and_false, f_X12_rewrite, ek, hk, r_isInl2', r_isIn1_9, h2, h3, q0, n01]
      | 1, _ =>
        have q1 : Int32.ofNat 1 = 1 := rfl
        simp only [q1] at h2 ⊢
        by_cases h3 : ¬ a3 < 0 ∧ a3 ≤ 9
        · obtain ⟨v, hv9, rfl⟩ := i_upto (n := 9) (by omega) h3
          refine ⟨Int32.ofNat (D 2 k), fu_pi (sC s1 0) 13 k (Int32.ofNat v), fu_pi (sR s2 0) 122 (11 + k) (Int32.ofNat v), ?_, ?_, dI_upd (D' := dset D 2 k v) hI hQ (eqC2_tr (eqC2_of eqC_sC) (eqC2_pi (by omega))) (eqR2_tr (eqR2_of eqR_sR) (eqR2_pi (by omega))) ?_ (dV_set (by omega) hv (by omega) (by omega) (by omega) (by omega) (by omega) (by omega)) (dC_put (f := 2) (by omega) (hc 0)) (dR_put2 hv hk5 (hr 0)) ?_ ?_⟩
          · simp (disch := omega) only [ne_eq, i_lt0, i_le0, i_eq0, i_n1, i_ltl, i_lel, i_eql, i_lt, i_le, i_eq, i_in, i_tn, i_add, i_addl, i_addr, i_mul, i_mulr, i_mull, if_true, if_false, eq_self, decide_eq_true_eq, decide_true, decide_false, Option.bind_some, Option.bind_none, fu_lt, Bool.false_eq_true, Bool.true_eq_false, not_true_eq_false, not_false_eq_true, Nat.not_lt_zero, Nat.le_zero_eq, Nat.reduceAdd, Nat.reduceMul, Nat.reduceSub, Nat.reduceEqDiff, Nat.reduceLT, Nat.reduceLeDiff, sC_def, sR_def, sC_1, sC_2, sR_1, sR_2, sC_st, sR_st, sR_no, sR_refuse, and_self, true_and, and_true, false_and, and_false, f_X11_rewrite, f_X4_ofKind, f_X4_changeKind, c_hasKind hC, c_forKind1, h3, hk, hk5, k2, e1, n10]
          · simp (disch := omega) only [ne_eq, i_lt0, i_le0, i_eq0, i_n1, i_ltl, i_lel, i_eql, i_lt, i_le, i_eq, i_in, i_tn, i_add, i_addl, i_addr, i_mul, i_mulr, i_mull, if_true, if_false, eq_self, decide_eq_true_eq, decide_true, decide_false, Option.bind_some, Option.bind_none, fu_lt, Bool.false_eq_true, Bool.true_eq_false, not_true_eq_false, not_false_eq_true, Nat.not_lt_zero, Nat.le_zero_eq, Nat.reduceAdd, Nat.reduceMul, Nat.reduceSub, Nat.reduceEqDiff, Nat.reduceLT, Nat.reduceLeDiff, sC_def, sR_def, sC_1, sC_2, sR_1, sR_2, sC_st, sR_st, sR_no, sR_refuse, and_self, true_and, and_true, false_and, and_false, f_X12_rewrite, ek, hk, r_isInl2', r_isInl9, h2, h3, m1, b2, g2]
          · rw [sC_piw (by omega), sR_piw (by omega)]
          · rw [dset_f (by omega)]; exact Nat.le_refl _
          · rw [dset_f (by omega)]; exact Nat.le_refl _
        · refine ⟨-1, sC s1 5, sR s2 5, ?_, ?_, dI_s hI⟩
          · simp (disch := omega) only [ne_eq, i_lt0, i_le0, i_eq0, i_n1, i_ltl, i_lel, i_eql, i_lt, i_le, i_eq, i_in, i_tn, i_add, i_addl, i_addr, i_mul, i_mulr, i_mull, if_true, if_false, eq_self, decide_eq_true_eq, decide_true, decide_false, Option.bind_some, Option.bind_none, fu_lt, Bool.false_eq_true, Bool.true_eq_false, not_true_eq_false, not_false_eq_true, Nat.not_lt_zero, Nat.le_zero_eq, Nat.reduceAdd, Nat.reduceMul, Nat.reduceSub, Nat.reduceEqDiff, Nat.reduceLT, Nat.reduceLeDiff, sC_def, sR_def, sC_1, sC_2, sR_1, sR_2, sC_st, sR_st, sR_no, sR_refuse, and_self, true_and, and_true, false_and, and_false, f_X11_rewrite, c_hasKind hC, hk, c_forKind1, h3]
            try rfl
          · simp (disch := omega) only [ne_eq, i_lt0, i_le0, i_eq0, i_n1, i_ltl, i_lel, i_eql, i_lt, i_le, i_eq, i_in, i_tn, i_add, i_addl, i_addr, i_mul, i_mulr, i_mull, if_true, if_false, eq_self, decide_eq_true_eq, decide_true, decide_false, Option.bind_some, Option.bind_none, fu_lt, Bool.false_eq_true, Bool.true_eq_false, not_true_eq_false, not_false_eq_true, Nat.not_lt_zero, Nat.le_zero_eq, Nat.reduceAdd, Nat.reduceMul, Nat.reduceSub, Nat.reduceEqDiff, Nat.reduceLT, Nat.reduceLeDiff, sC_def, sR_def, sC_1, sC_2, sR_1, sR_2, sC_st, sR_st, sR_no, sR_refuse, and_self, true_and, and_true, false_and, and_false, f_X12_rewrite, ek, hk, r_isInl2', r_isInl9, h2, h3]
      | 2, _ =>
        have q2 : Int32.ofNat 2 = 2 := rfl
        simp only [q2] at h2 ⊢
        by_cases h3 : ¬ a3 < 1 ∧ a3 ≤ 9
        · obtain ⟨v, hv1, hv9, rfl⟩ := i_in1 (n := 9) (by omega) h3
          refine ⟨Int32.ofNat (D 3 k), fu_pi (sC s1 0) 14 k (Int32.ofNat v), fu_pi (sR s2 0) 122 (16 + k) (Int32.ofNat v), ?_, ?_, dI_upd (D' := dset D 3 k v) hI hQ (eqC2_tr (eqC2_of eqC_sC) (eqC2_pi (by omega))) (eqR2_tr (eqR2_of eqR_sR) (eqR2_pi (by omega))) ?_ (dV_set (by omega) hv (by omega) (by omega) (by omega) (by omega) (by omega) (by omega)) (dC_put (f := 3) (by omega) (hc 0)) (dR_put3 hv hk5 (hr 0)) ?_ ?_⟩
          · simp (disch := omega) only [ne_eq, i_lt0, i_le0, i_eq0, i_n1, i_ltl, i_lel, i_eql, i_lt, i_le, i_eq, i_in, i_tn, i_add, i_addl, i_addr, i_mul, i_mulr, i_mull, if_true, if_false, eq_self, decide_eq_true_eq, decide_true, decide_false, Option.bind_some, Option.bind_none, fu_lt, Bool.false_eq_true, Bool.true_eq_false, not_true_eq_false, not_false_eq_true, Nat.not_lt_zero, Nat.le_zero_eq, Nat.reduceAdd, Nat.reduceMul, Nat.reduceSub, Nat.reduceEqDiff, Nat.reduceLT, Nat.reduceLeDiff, sC_def, sR_def, sC_1, sC_2, sR_1, sR_2, sC_st, sR_st, sR_no, sR_refuse, and_self, true_and, and_true, false_and, and_false, f_X11_rewrite, f_X4_ofKind, f_X4_changeKind, c_hasKind hC, c_forKind2, h3, hk, hk5, k3, e1, n20, n21]
          · simp (disch := omega) only [ne_eq, i_lt0, i_le0, i_eq0, i_n1, i_ltl, i_lel, i_eql, i_lt, i_le, i_eq, i_in, i_tn, i_add, i_addl, i_addr, i_mul, i_mulr, i_mull, if_true, if_false, eq_self, decide_eq_true_eq, decide_true, decide_false, Option.bind_some, Option.bind_none, fu_lt, Bool.false_eq_true, Bool.true_eq_false, not_true_eq_false, not_false_eq_true, Nat.not_lt_zero, Nat.le_zero_eq, Nat.reduceAdd, Nat.reduceMul, Nat.reduceSub, Nat.reduceEqDiff, Nat.reduceLT, Nat.reduceLeDiff, sC_def, sR_def, sC_1, sC_2, sR_1, sR_2, sC_st, sR_st, sR_no, sR_refuse, and_self, true_and, and_true, false_and, and_false, f_X12_rewrite, ek, hk, r_isInl2', r_isIn1_9, h2, h3, n21, m2, b3, g3]
          · rw [sC_piw (by omega), sR_piw (by omega)]
          · rw [dset_f (by omega)]; exact Nat.le_refl _
          · rw [dset_f (by omega)]; exact Nat.le_refl _
        · refine ⟨-1, sC s1 5, sR s2 5, ?_, ?_, dI_s hI⟩
          · simp (disch := omega) only [ne_eq, i_lt0, i_le0, i_eq0, i_n1, i_ltl, i_lel, i_eql, i_lt, i_le, i_eq, i_in, i_tn, i_add, i_addl, i_addr, i_mul, i_mulr, i_mull, if_true, if_false, eq_self, decide_eq_true_eq, decide_true, decide_false, Option.bind_some, Option.bind_none, fu_lt, Bool.false_eq_true, Bool.true_eq_false, not_true_eq_false, not_false_eq_true, Nat.not_lt_zero, Nat.le_zero_eq, Nat.reduceAdd, Nat.reduceMul, Nat.reduceSub, Nat.reduceEqDiff, Nat.reduceLT, Nat.reduceLeDiff, sC_def, sR_def, sC_1, sC_2, sR_1, sR_2, sC_st, sR_st, sR_no, sR_refuse, and_self, true_and, and_true, false_and, and_false, f_X11_rewrite, c_hasKind hC, hk, c_forKind2, h3]
            try rfl
          · simp (disch := omega) only [ne_eq, i_lt0, i_le0, i_eq0, i_n1, i_ltl, i_lel, i_eql, i_lt, i_le, i_eq, i_in, i_tn, i_add, i_addl, i_addr, i_mul, i_mulr, i_mull, if_true, if_false, eq_self, decide_eq_true_eq, decide_true, decide_false, Option.bind_some, Option.bind_none, fu_lt, Bool.false_eq_true, Bool.true_eq_false, not_true_eq_false, not_false_eq_true, Nat.not_lt_zero, Nat.le_zero_eq, Nat.reduceAdd, Nat.reduceMul, Nat.reduceSub, Nat.reduceEqDiff, Nat.reduceLT, Nat.reduceLeDiff, sC_def, sR_def, sC_1, sC_2, sR_1, sR_2, sC_st, sR_st, sR_no, sR_refuse, and_self, true_and, and_true, false_and, and_false, f_X12_rewrite, ek, hk, r_isInl2', r_isIn1_9, h2, h3, n21]
    · refine ⟨-1, sC s1 5, sR s2 5, ?_, ?_, dI_s hI⟩
      · simp (disch := omega) only [ne_eq, i_lt0, i_le0, i_eq0, i_n1, i_ltl, i_lel, i_eql, i_lt, i_le, i_eq, i_in, i_tn, i_add, i_addl, i_addr, i_mul, i_mulr, i_mull, if_true, if_false, eq_self, decide_eq_true_eq, decide_true, decide_false, Option.bind_some, Option.bind_none, fu_lt, Bool.false_eq_true, Bool.true_eq_false, not_true_eq_false, not_false_eq_true, Nat.not_lt_zero, Nat.le_zero_eq, Nat.reduceAdd, Nat.reduceMul, Nat.reduceSub, Nat.reduceEqDiff, Nat.reduceLT, Nat.reduceLeDiff, sC_def, sR_def, sC_1, sC_2, sR_1, sR_2, sC_st, sR_st, sR_no, sR_refuse, and_self, true_and, and_true, false_and, and_false, f_X11_rewrite, c_hasKind hC, hk, c_forKindN h2]
        try rfl
      · simp (disch := omega) only [ne_eq, i_lt0, i_le0, i_eq0, i_n1, i_ltl, i_lel, i_eql, i_lt, i_le, i_eq, i_in, i_tn, i_add, i_addl, i_addr, i_mul, i_mulr, i_mull, if_true, if_false, eq_self, decide_eq_true_eq, decide_true, decide_false, Option.bind_some, Option.bind_none, fu_lt, Bool.false_eq_true, Bool.true_eq_false, not_true_eq_false, not_false_eq_true, Nat.not_lt_zero, Nat.le_zero_eq, Nat.reduceAdd, Nat.reduceMul, Nat.reduceSub, Nat.reduceEqDiff, Nat.reduceLT, Nat.reduceLeDiff, sC_def, sR_def, sC_1, sC_2, sR_1, sR_2, sC_st, sR_st, sR_no, sR_refuse, and_self, true_and, and_true, false_and, and_false, f_X12_rewrite, ek, hk, r_isInl2', h2]
  · refine ⟨-1, sC s1 2, sR s2 2, ?_, ?_, dI_s hI⟩
    · simp (disch := omega) only [ne_eq, i_lt0, i_le0, i_eq0, i_n1, i_ltl, i_lel, i_eql, i_lt, i_le, i_eq, i_in, i_tn, i_add, i_addl, i_addr, i_mul, i_mulr, i_mull, if_true, if_false, eq_self, decide_eq_true_eq, decide_true, decide_false, Option.bind_some, Option.bind_none, fu_lt, Bool.false_eq_true, Bool.true_eq_false, not_true_eq_false, not_false_eq_true, Nat.not_lt_zero, Nat.le_zero_eq, Nat.reduceAdd, Nat.reduceMul, Nat.reduceSub, Nat.reduceEqDiff, Nat.reduceLT, Nat.reduceLeDiff, sC_def, sR_def, sC_1, sC_2, sR_1, sR_2, sC_st, sR_st, sR_no, sR_refuse, and_self, true_and, and_true, false_and, and_false, f_X11_rewrite, c_hasKind hC, h1]
      try rfl
    · simp (disch := omega) only [ne_eq, i_lt0, i_le0, i_eq0, i_n1, i_ltl, i_lel, i_eql, i_lt, i_le, i_eq, i_in, i_tn, i_add, i_addl, i_addr, i_mul, i_mulr, i_mull, if_true, if_false, eq_self, decide_eq_true_eq, decide_true, decide_false, Option.bind_some, Option.bind_none, fu_lt, Bool.false_eq_true, Bool.true_eq_false, not_true_eq_false, not_false_eq_true, Nat.not_lt_zero, Nat.le_zero_eq, Nat.reduceAdd, Nat.reduceMul, Nat.reduceSub, Nat.reduceEqDiff, Nat.reduceLT, Nat.reduceLeDiff, sC_def, sR_def, sC_1, sC_2, sR_1, sR_2, sC_st, sR_st, sR_no, sR_refuse, and_self, true_and, and_true, false_and, and_false, f_X12_rewrite, ek, h1]
