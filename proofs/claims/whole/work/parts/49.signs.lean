/-! signs, tongue -/
def d_or (f : Nat → Nat) : Nat → Nat
  | 0 => 0
  | n + 1 => d_or f n ||| f n
theorem d_or_s (f : Nat → Nat) (n : Nat) : d_or f (n + 1) = d_or f n ||| f n := rfl
theorem d_or_lt {f : Nat → Nat} {m : Nat} : ∀ {n}, (∀ k, k < n → f k < 2 ^ m) → d_or f n < 2 ^ m
  | 0, _ => Nat.two_pow_pos m
  | n + 1, h => Nat.or_lt_two_pow (d_or_lt fun k hk => h k (by omega)) (h n (by omega))
theorem d_or_congr {f g : Nat → Nat} : ∀ {n}, (∀ k, k < n → f k = g k) → d_or f n = d_or g n
  | 0, _ => rfl
  | n + 1, h => by rw [d_or_s, d_or_s, d_or_congr (fun k hk => h k (by omega)), h n (by omega)]
/-- how many are in a set -/
def d_pop (a : Nat) : Nat := d_sum (fun k => (a.testBit k).toNat) 10
theorem d_pop_le {a : Nat} : d_pop a ≤ 10 := by
  have h : d_pop a ≤ 10 * 1 := d_sum_le fun k _ => by cases a.testBit k <;> simp
  omega
theorem r_hasn {a b : Nat} (ha : a < 2147483648) (hb : b < 31) : f_X12_has (Int32.ofNat a) (Int32.ofNat b) = a.testBit b := r_has ha hb
theorem r_sizeOf {a : Nat} (ha : a < 2147483648) : f_X12_sizeOf (Int32.ofNat a) = some (Int32.ofNat (d_pop a)) := by
  have hL : l_X12_sizeOf_4 fu_N (Int32.ofNat a) 0 0 = some (Int32.ofNat (d_pop a)) := lp_up (l := fun f σ k => l_X12_sizeOf_4 f (Int32.ofNat a) (Int32.ofNat σ) (Int32.ofNat k)) (N := 10) (S := fun k => d_sum (fun k => (a.testBit k).toNat) k) (r := Int32.ofNat (d_pop a)) (fun n k hk => by
      have hk31 : k < 31 := by omega
      show l_X12_sizeOf_4 (n + 1) (Int32.ofNat a) (Int32.ofNat (d_sum (fun k => (a.testBit k).toNat) k)) (Int32.ofNat k) = _
      simp (maxSteps := 1000000) (disch := omega) only [ne_eq, i_lt0, i_le0, i_eq0, i_n1, i_ltl, i_lel, i_eql, i_lt, i_le, i_eq, i_in, i_tn, i_add, i_addl, i_addr, i_mul, i_mulr, i_mull, if_true, if_false, eq_self, decide_eq_true_eq, decide_true, decide_false, Option.bind_some, Option.bind_none, ↓fu_ltd, ↓reduceIte, ↓ob_ite, ↓ob_asc, Bool.false_eq_true, Bool.true_eq_false, not_true_eq_false, not_false_eq_true, Nat.not_lt_zero, Nat.le_zero_eq, Nat.reduceAdd, Nat.reduceMul, Nat.reduceSub, Nat.reduceEqDiff, Nat.reduceLT, Nat.reduceLeDiff, sC_def, sR_def, sC_1, sC_2, sR_1, sR_2, sC_st, sR_st, sR_no, sR_refuse, and_self, true_and, and_true, false_and, and_false, l_X12_sizeOf_4, hk, r_hasn ha hk31, fu_b_n, i_add1, d_sum_s]
      cases a.testBit k <;> rfl) (fun n => by
      show l_X12_sizeOf_4 (n + 1) (Int32.ofNat a) (Int32.ofNat (d_pop a)) (Int32.ofNat 10) = _
      simp (maxSteps := 1000000) (disch := omega) only [ne_eq, i_lt0, i_le0, i_eq0, i_n1, i_ltl, i_lel, i_eql, i_lt, i_le, i_eq, i_in, i_tn, i_add, i_addl, i_addr, i_mul, i_mulr, i_mull, if_true, if_false, eq_self, decide_eq_true_eq, decide_true, decide_false, Option.bind_some, Option.bind_none, ↓fu_ltd, ↓reduceIte, ↓ob_ite, ↓ob_asc, Bool.false_eq_true, Bool.true_eq_false, not_true_eq_false, not_false_eq_true, Nat.not_lt_zero, Nat.le_zero_eq, Nat.reduceAdd, Nat.reduceMul, Nat.reduceSub, Nat.reduceEqDiff, Nat.reduceLT, Nat.reduceLeDiff, sC_def, sR_def, sC_1, sC_2, sR_1, sR_2, sC_st, sR_st, sR_no, sR_refuse, and_self, true_and, and_true, false_and, and_false, l_X12_sizeOf_4, Nat.lt_irrefl]) (f := fu_N) (k := 0) (by omega) (fu_N_gt (by omega))
  simp (maxSteps := 1000000) (disch := omega) only [ne_eq, i_lt0, i_le0, i_eq0, i_n1, i_ltl, i_lel, i_eql, i_lt, i_le, i_eq, i_in, i_tn, i_add, i_addl, i_addr, i_mul, i_mulr, i_mull, if_true, if_false, eq_self, decide_eq_true_eq, decide_true, decide_false, Option.bind_some, Option.bind_none, ↓fu_ltd, ↓reduceIte, ↓ob_ite, ↓ob_asc, Bool.false_eq_true, Bool.true_eq_false, not_true_eq_false, not_false_eq_true, Nat.not_lt_zero, Nat.le_zero_eq, Nat.reduceAdd, Nat.reduceMul, Nat.reduceSub, Nat.reduceEqDiff, Nat.reduceLT, Nat.reduceLeDiff, sC_def, sR_def, sC_1, sC_2, sR_1, sR_2, sC_st, sR_st, sR_no, sR_refuse, and_self, true_and, and_true, false_and, and_false, f_X12_sizeOf, hL]
theorem c_bits0 : ∀ a, a < 1024 → f_J6_bitCount_0f7a4 (Int32.ofNat a) = Int32.ofNat (d_pop a) := by decide +kernel
theorem c_bits {a : Nat} (ha : a < 1024) : f_J6_bitCount_0f7a4 (Int32.ofNat a) = Int32.ofNat (d_pop a) := c_bits0 a ha
def d_sgn (D : dD) (o q : Nat) : Nat := d_or (fun k => if d_by D o k = q then 2 ^ d_spy D o k else 0) (D 0 3)
theorem d_sgn_lt {D : dD} {o q : Nat} : d_sgn D o q < 1024 := d_or_lt (m := 10) fun k _ => by
  by_cases h : d_by D o k = q
  · rw [if_pos h]
    exact Nat.pow_lt_pow_right (by omega) d_spy_lt
  · rw [if_neg h]
    omega
theorem i_or0 {a : Nat} : Int32.ofNat a ||| 0 = Int32.ofNat a := (i_or (b := 0)).trans (by rw [Nat.or_zero])
section SGN
variable {s : fu_S} {P : Nat} {D : dD} {o q : Nat}
theorem c_spotSet (h : dC s P D) (hv : dV D) (ho : o < D 0 4) (hq : q < D 0 4) : f_X1_spotSet s P (Int32.ofNat o) (Int32.ofNat q) = some (Int32.ofNat (d_sgn D o q)) := by
  have hp4 := hv.1
  have c3 := h.1.2.2.2.1
  have hL : l_X1_spotSet_5 fu_N s P (Int32.ofNat o) (Int32.ofNat q) 0 0 = some (Int32.ofNat (d_sgn D o q)) := lp_up (l := fun f σ k => l_X1_spotSet_5 f s P (Int32.ofNat o) (Int32.ofNat q) (Int32.ofNat σ) (Int32.ofNat k)) (N := D 0 3) (S := fun k => d_or (fun k => if d_by D o k = q then 2 ^ d_spy D o k else 0) k) (r := Int32.ofNat (d_sgn D o q)) (fun n k hk => by
      have e1 := c_bearerBy h hv ho hk
      have e2 := c_spotBy h hv ho hk
      have e3 : d_by D o k < D 0 4 := d_by_lt ho
      have e4 : d_spy D o k < 10 := d_spy_lt
      show l_X1_spotSet_5 (n + 1) s P (Int32.ofNat o) (Int32.ofNat q) (Int32.ofNat (d_or (fun k => if d_by D o k = q then 2 ^ d_spy D o k else 0) k)) (Int32.ofNat k) = _
      by_cases h1 : d_by D o k = q
      · simp (maxSteps := 1000000) (disch := omega) only [ne_eq, i_lt0, i_le0, i_eq0, i_n1, i_ltl, i_lel, i_eql, i_lt, i_le, i_eq, i_in, i_tn, i_add, i_addl, i_addr, i_mul, i_mulr, i_mull, if_true, if_false, eq_self, decide_eq_true_eq, decide_true, decide_false, Option.bind_some, Option.bind_none, ↓fu_ltd, ↓reduceIte, ↓ob_ite, ↓ob_asc, Bool.false_eq_true, Bool.true_eq_false, not_true_eq_false, not_false_eq_true, Nat.not_lt_zero, Nat.le_zero_eq, Nat.reduceAdd, Nat.reduceMul, Nat.reduceSub, Nat.reduceEqDiff, Nat.reduceLT, Nat.reduceLeDiff, sC_def, sR_def, sC_1, sC_2, sR_1, sR_2, sC_st, sR_st, sR_no, sR_refuse, and_self, true_and, and_true, false_and, and_false, l_X1_spotSet_5, f_X4_kinds, c3, hk, e1, e2, h1, i_shl, i_or, i_add1, d_or_s]
      · simp (maxSteps := 1000000) (disch := omega) only [ne_eq, i_lt0, i_le0, i_eq0, i_n1, i_ltl, i_lel, i_eql, i_lt, i_le, i_eq, i_in, i_tn, i_add, i_addl, i_addr, i_mul, i_mulr, i_mull, if_true, if_false, eq_self, decide_eq_true_eq, decide_true, decide_false, Option.bind_some, Option.bind_none, ↓fu_ltd, ↓reduceIte, ↓ob_ite, ↓ob_asc, Bool.false_eq_true, Bool.true_eq_false, not_true_eq_false, not_false_eq_true, Nat.not_lt_zero, Nat.le_zero_eq, Nat.reduceAdd, Nat.reduceMul, Nat.reduceSub, Nat.reduceEqDiff, Nat.reduceLT, Nat.reduceLeDiff, sC_def, sR_def, sC_1, sC_2, sR_1, sR_2, sC_st, sR_st, sR_no, sR_refuse, and_self, true_and, and_true, false_and, and_false, l_X1_spotSet_5, f_X4_kinds, c3, hk, e1, h1, i_or0, i_add1, d_or_s, Nat.or_zero]) (fun n => by
      show l_X1_spotSet_5 (n + 1) s P (Int32.ofNat o) (Int32.ofNat q) (Int32.ofNat (d_sgn D o q)) (Int32.ofNat (D 0 3)) = _
      simp (maxSteps := 1000000) (disch := omega) only [ne_eq, i_lt0, i_le0, i_eq0, i_n1, i_ltl, i_lel, i_eql, i_lt, i_le, i_eq, i_in, i_tn, i_add, i_addl, i_addr, i_mul, i_mulr, i_mull, if_true, if_false, eq_self, decide_eq_true_eq, decide_true, decide_false, Option.bind_some, Option.bind_none, ↓fu_ltd, ↓reduceIte, ↓ob_ite, ↓ob_asc, Bool.false_eq_true, Bool.true_eq_false, not_true_eq_false, not_false_eq_true, Nat.not_lt_zero, Nat.le_zero_eq, Nat.reduceAdd, Nat.reduceMul, Nat.reduceSub, Nat.reduceEqDiff, Nat.reduceLT, Nat.reduceLeDiff, sC_def, sR_def, sC_1, sC_2, sR_1, sR_2, sC_st, sR_st, sR_no, sR_refuse, and_self, true_and, and_true, false_and, and_false, l_X1_spotSet_5, f_X4_kinds, c3, Nat.lt_irrefl]) (f := fu_N) (k := 0) (by omega) (fu_N_gt (by omega))
  simp (maxSteps := 1000000) (disch := omega) only [ne_eq, i_lt0, i_le0, i_eq0, i_n1, i_ltl, i_lel, i_eql, i_lt, i_le, i_eq, i_in, i_tn, i_add, i_addl, i_addr, i_mul, i_mulr, i_mull, if_true, if_false, eq_self, decide_eq_true_eq, decide_true, decide_false, Option.bind_some, Option.bind_none, ↓fu_ltd, ↓reduceIte, ↓ob_ite, ↓ob_asc, Bool.false_eq_true, Bool.true_eq_false, not_true_eq_false, not_false_eq_true, Nat.not_lt_zero, Nat.le_zero_eq, Nat.reduceAdd, Nat.reduceMul, Nat.reduceSub, Nat.reduceEqDiff, Nat.reduceLT, Nat.reduceLeDiff, sC_def, sR_def, sC_1, sC_2, sR_1, sR_2, sC_st, sR_st, sR_no, sR_refuse, and_self, true_and, and_true, false_and, and_false, f_X1_spotSet, hL]
theorem r_signsL (h : dR s 0 D) (hv : dV D) (ho : o < D 0 4) (hq : q < D 0 4) : l_X12_signs_39 fu_N s (Int32.ofNat o) (Int32.ofNat q) 0 0 = some (Int32.ofNat (d_sgn D o q)) := by
  have hp4 := hv.1
  have c3 := (dR_0 h).1.1
  exact lp_up (l := fun f σ k => l_X12_signs_39 f s (Int32.ofNat o) (Int32.ofNat q) (Int32.ofNat σ) (Int32.ofNat k)) (N := D 0 3) (S := fun k => d_or (fun k => if d_by D o k = q then 2 ^ d_spy D o k else 0) k) (r := Int32.ofNat (d_sgn D o q)) (fun n k hk => by
      have e1 := r_bearerBy h hv ho hk
      have e2 := r_spotBy h hv ho hk
      have e3 : d_by D o k < D 0 4 := d_by_lt ho
      have e4 : d_spy D o k < 10 := d_spy_lt
      show l_X12_signs_39 (n + 1) s (Int32.ofNat o) (Int32.ofNat q) (Int32.ofNat (d_or (fun k => if d_by D o k = q then 2 ^ d_spy D o k else 0) k)) (Int32.ofNat k) = _
      by_cases h1 : d_by D o k = q
      · simp (maxSteps := 1000000) (disch := omega) only [ne_eq, i_lt0, i_le0, i_eq0, i_n1, i_ltl, i_lel, i_eql, i_lt, i_le, i_eq, i_in, i_tn, i_add, i_addl, i_addr, i_mul, i_mulr, i_mull, if_true, if_false, eq_self, decide_eq_true_eq, decide_true, decide_false, Option.bind_some, Option.bind_none, ↓fu_ltd, ↓reduceIte, ↓ob_ite, ↓ob_asc, Bool.false_eq_true, Bool.true_eq_false, not_true_eq_false, not_false_eq_true, Nat.not_lt_zero, Nat.le_zero_eq, Nat.reduceAdd, Nat.reduceMul, Nat.reduceSub, Nat.reduceEqDiff, Nat.reduceLT, Nat.reduceLeDiff, sC_def, sR_def, sC_1, sC_2, sR_1, sR_2, sC_st, sR_st, sR_no, sR_refuse, and_self, true_and, and_true, false_and, and_false, l_X12_signs_39, c3, hk, e1, e2, h1, i_shl, i_or, i_add1, d_or_s]
      · simp (maxSteps := 1000000) (disch := omega) only [ne_eq, i_lt0, i_le0, i_eq0, i_n1, i_ltl, i_lel, i_eql, i_lt, i_le, i_eq, i_in, i_tn, i_add, i_addl, i_addr, i_mul, i_mulr, i_mull, if_true, if_false, eq_self, decide_eq_true_eq, decide_true, decide_false, Option.bind_some, Option.bind_none, ↓fu_ltd, ↓reduceIte, ↓ob_ite, ↓ob_asc, Bool.false_eq_true, Bool.true_eq_false, not_true_eq_false, not_false_eq_true, Nat.not_lt_zero, Nat.le_zero_eq, Nat.reduceAdd, Nat.reduceMul, Nat.reduceSub, Nat.reduceEqDiff, Nat.reduceLT, Nat.reduceLeDiff, sC_def, sR_def, sC_1, sC_2, sR_1, sR_2, sC_st, sR_st, sR_no, sR_refuse, and_self, true_and, and_true, false_and, and_false, l_X12_signs_39, c3, hk, e1, h1, i_or0, i_add1, d_or_s, Nat.or_zero]) (fun n => by
      show l_X12_signs_39 (n + 1) s (Int32.ofNat o) (Int32.ofNat q) (Int32.ofNat (d_sgn D o q)) (Int32.ofNat (D 0 3)) = _
      simp (maxSteps := 1000000) (disch := omega) only [ne_eq, i_lt0, i_le0, i_eq0, i_n1, i_ltl, i_lel, i_eql, i_lt, i_le, i_eq, i_in, i_tn, i_add, i_addl, i_addr, i_mul, i_mulr, i_mull, if_true, if_false, eq_self, decide_eq_true_eq, decide_true, decide_false, Option.bind_some, Option.bind_none, ↓fu_ltd, ↓reduceIte, ↓ob_ite, ↓ob_asc, Bool.false_eq_true, Bool.true_eq_false, not_true_eq_false, not_false_eq_true, Nat.not_lt_zero, Nat.le_zero_eq, Nat.reduceAdd, Nat.reduceMul, Nat.reduceSub, Nat.reduceEqDiff, Nat.reduceLT, Nat.reduceLeDiff, sC_def, sR_def, sC_1, sC_2, sR_1, sR_2, sC_st, sR_st, sR_no, sR_refuse, and_self, true_and, and_true, false_and, and_false, l_X12_signs_39, c3, Nat.lt_irrefl]) (f := fu_N) (k := 0) (by omega) (fu_N_gt (by omega))
end SGN
theorem hd_38 : lw_E_38 dI := by
  intro s1 s2 hI a1 a2
  obtain ⟨D, hv, hC, hR, -⟩ := dI_D hI
  have hp4 := hv.1
  have hc := fun x => dC_s (x := x) (by omega : (11 : Nat) ≠ 0) hC
  have hr := fun x => dR_s (x := x) hv hR
  have ep := fun x y => r_isPerson (x := y) (hr x) hv
  by_cases h1 : ¬ a1 < 0 ∧ a1 < Int32.ofNat (D 0 4)
  · obtain ⟨p, hp, rfl⟩ := i_is (by omega) h1
    by_cases h2 : ¬ a2 < 0 ∧ a2 < Int32.ofNat (D 0 4)
    · obtain ⟨q, hq, rfl⟩ := i_is (by omega) h2
      have e1 := c_spotSet (hc 0) hv hp hq
      have e2 := r_signsL (hr 0) hv hp hq
      have hs := d_sgn_lt (D := D) (o := p) (q := q)
      refine ⟨Int32.ofNat (d_pop (d_sgn D p q)), sC s1 0, sR s2 0, ?_, ?_, dI_s hI⟩
      · simp (maxSteps := 1000000) (disch := omega) only [ne_eq, i_lt0, i_le0, i_eq0, i_n1, i_ltl, i_lel, i_eql, i_lt, i_le, i_eq, i_in, i_tn, i_add, i_addl, i_addr, i_mul, i_mulr, i_mull, if_true, if_false, eq_self, decide_eq_true_eq, decide_true, decide_false, Option.bind_some, Option.bind_none, ↓fu_ltd, ↓reduceIte, ↓ob_ite, ↓ob_asc, Bool.false_eq_true, Bool.true_eq_false, not_true_eq_false, not_false_eq_true, Nat.not_lt_zero, Nat.le_zero_eq, Nat.reduceAdd, Nat.reduceMul, Nat.reduceSub, Nat.reduceEqDiff, Nat.reduceLT, Nat.reduceLeDiff, sC_def, sR_def, sC_1, sC_2, sR_1, sR_2, sC_st, sR_st, sR_no, sR_refuse, and_self, true_and, and_true, false_and, and_false, f_X11_signs, f_X11_coupleStatus, c_hasPerson hC, hp, hq, e1, c_bits hs]
      · simp (maxSteps := 1000000) (disch := omega) only [ne_eq, i_lt0, i_le0, i_eq0, i_n1, i_ltl, i_lel, i_eql, i_lt, i_le, i_eq, i_in, i_tn, i_add, i_addl, i_addr, i_mul, i_mulr, i_mull, if_true, if_false, eq_self, decide_eq_true_eq, decide_true, decide_false, Option.bind_some, Option.bind_none, ↓fu_ltd, ↓reduceIte, ↓ob_ite, ↓ob_asc, Bool.false_eq_true, Bool.true_eq_false, not_true_eq_false, not_false_eq_true, Nat.not_lt_zero, Nat.le_zero_eq, Nat.reduceAdd, Nat.reduceMul, Nat.reduceSub, Nat.reduceEqDiff, Nat.reduceLT, Nat.reduceLeDiff, sC_def, sR_def, sC_1, sC_2, sR_1, sR_2, sC_st, sR_st, sR_no, sR_refuse, and_self, true_and, and_true, false_and, and_false, f_X12_signs, ep, hp, hq, e2, r_sizeOf]
    · refine ⟨-1, sC s1 2, sR s2 2, ?_, ?_, dI_s hI⟩
      · simp (maxSteps := 1000000) (disch := omega) only [ne_eq, i_lt0, i_le0, i_eq0, i_n1, i_ltl, i_lel, i_eql, i_lt, i_le, i_eq, i_in, i_tn, i_add, i_addl, i_addr, i_mul, i_mulr, i_mull, if_true, if_false, eq_self, decide_eq_true_eq, decide_true, decide_false, Option.bind_some, Option.bind_none, ↓fu_ltd, ↓reduceIte, ↓ob_ite, ↓ob_asc, Bool.false_eq_true, Bool.true_eq_false, not_true_eq_false, not_false_eq_true, Nat.not_lt_zero, Nat.le_zero_eq, Nat.reduceAdd, Nat.reduceMul, Nat.reduceSub, Nat.reduceEqDiff, Nat.reduceLT, Nat.reduceLeDiff, sC_def, sR_def, sC_1, sC_2, sR_1, sR_2, sC_st, sR_st, sR_no, sR_refuse, and_self, true_and, and_true, false_and, and_false, f_X11_signs, f_X11_coupleStatus, c_hasPerson hC, hp, h2]
        try rfl
      · simp (maxSteps := 1000000) (disch := omega) only [ne_eq, i_lt0, i_le0, i_eq0, i_n1, i_ltl, i_lel, i_eql, i_lt, i_le, i_eq, i_in, i_tn, i_add, i_addl, i_addr, i_mul, i_mulr, i_mull, if_true, if_false, eq_self, decide_eq_true_eq, decide_true, decide_false, Option.bind_some, Option.bind_none, ↓fu_ltd, ↓reduceIte, ↓ob_ite, ↓ob_asc, Bool.false_eq_true, Bool.true_eq_false, not_true_eq_false, not_false_eq_true, Nat.not_lt_zero, Nat.le_zero_eq, Nat.reduceAdd, Nat.reduceMul, Nat.reduceSub, Nat.reduceEqDiff, Nat.reduceLT, Nat.reduceLeDiff, sC_def, sR_def, sC_1, sC_2, sR_1, sR_2, sC_st, sR_st, sR_no, sR_refuse, and_self, true_and, and_true, false_and, and_false, f_X12_signs, ep, hp, h2]
  · refine ⟨-1, sC s1 2, sR s2 2, ?_, ?_, dI_s hI⟩
    · simp (maxSteps := 1000000) (disch := omega) only [ne_eq, i_lt0, i_le0, i_eq0, i_n1, i_ltl, i_lel, i_eql, i_lt, i_le, i_eq, i_in, i_tn, i_add, i_addl, i_addr, i_mul, i_mulr, i_mull, if_true, if_false, eq_self, decide_eq_true_eq, decide_true, decide_false, Option.bind_some, Option.bind_none, ↓fu_ltd, ↓reduceIte, ↓ob_ite, ↓ob_asc, Bool.false_eq_true, Bool.true_eq_false, not_true_eq_false, not_false_eq_true, Nat.not_lt_zero, Nat.le_zero_eq, Nat.reduceAdd, Nat.reduceMul, Nat.reduceSub, Nat.reduceEqDiff, Nat.reduceLT, Nat.reduceLeDiff, sC_def, sR_def, sC_1, sC_2, sR_1, sR_2, sC_st, sR_st, sR_no, sR_refuse, and_self, true_and, and_true, false_and, and_false, f_X11_signs, f_X11_coupleStatus, c_hasPerson hC, h1]
      try rfl
    · simp (maxSteps := 1000000) (disch := omega) only [ne_eq, i_lt0, i_le0, i_eq0, i_n1, i_ltl, i_lel, i_eql, i_lt, i_le, i_eq, i_in, i_tn, i_add, i_addl, i_addr, i_mul, i_mulr, i_mull, if_true, if_false, eq_self, decide_eq_true_eq, decide_true, decide_false, Option.bind_some, Option.bind_none, ↓fu_ltd, ↓reduceIte, ↓ob_ite, ↓ob_asc, Bool.false_eq_true, Bool.true_eq_false, not_true_eq_false, not_false_eq_true, Nat.not_lt_zero, Nat.le_zero_eq, Nat.reduceAdd, Nat.reduceMul, Nat.reduceSub, Nat.reduceEqDiff, Nat.reduceLT, Nat.reduceLeDiff, sC_def, sR_def, sC_1, sC_2, sR_1, sR_2, sC_st, sR_st, sR_no, sR_refuse, and_self, true_and, and_true, false_and, and_false, f_X12_signs, ep, h1]
theorem r_isInl12 {x : Int32} : f_X12_isIn (Int32.toInt64 x) (0 : Int64) (12 : Int64) = decide (¬ x < 0 ∧ x ≤ 12) := r_isInN (n := 12) (by omega)
theorem hd_43 : lw_E_43 dI := by
  intro s1 s2 hI a1
  obtain ⟨D, hv, hC, hR, -⟩ := dI_D hI
  have hp4 := hv.1
  by_cases h1 : ¬ a1 < 0 ∧ a1 ≤ 12
  · obtain ⟨m, hm, rfl⟩ := i_upto (n := 12) (by omega) h1
    have c0 : (sC s1 0).1 11 0 = Int32.ofNat (D 0 0) := by rw [sC_1 (by omega)]; exact (dC_11 hC).1.1
    have g3 : (sR s2 0).1 122 3 = Int32.ofNat (D 0 0) := by rw [sR_1 (by omega)]; exact (dR_0 hR).1.2.2.2.1
    have o16 : D 0 0 ≤ 16 := by omega
    have l16 : (16 : Int64) = Int64.ofNat 16 := rfl
    have e1 : l_X11_tongue_36 fu_N (sC s1 0) (Int32.ofNat m) 1 1 0 = some (Int64.ofNat (16 ^ m), Int64.ofNat ((16 - D 0 0) ^ m)) := by
      generalize sC s1 0 = u at *
      exact lp_up (l := fun f (σ : Int64 × Int64) k => l_X11_tongue_36 f u (Int32.ofNat m) σ.1 σ.2 (Int32.ofNat k)) (N := m) (S := fun k => (Int64.ofNat (16 ^ k), Int64.ofNat ((16 - D 0 0) ^ k))) (r := (Int64.ofNat (16 ^ m), Int64.ofNat ((16 - D 0 0) ^ m))) (fun n k hk => by
        show l_X11_tongue_36 (n + 1) u (Int32.ofNat m) (Int64.ofNat (16 ^ k)) (Int64.ofNat ((16 - D 0 0) ^ k)) (Int32.ofNat k) = _
        simp (maxSteps := 1000000) (disch := omega) only [ne_eq, i_lt0, i_le0, i_eq0, i_n1, i_ltl, i_lel, i_eql, i_lt, i_le, i_eq, i_in, i_tn, i_add, i_addl, i_addr, i_mul, i_mulr, i_mull, if_true, if_false, eq_self, decide_eq_true_eq, decide_true, decide_false, Option.bind_some, Option.bind_none, ↓fu_ltd, ↓reduceIte, ↓ob_ite, ↓ob_asc, Bool.false_eq_true, Bool.true_eq_false, not_true_eq_false, not_false_eq_true, Nat.not_lt_zero, Nat.le_zero_eq, Nat.reduceAdd, Nat.reduceMul, Nat.reduceSub, Nat.reduceEqDiff, Nat.reduceLT, Nat.reduceLeDiff, sC_def, sR_def, sC_1, sC_2, sR_1, sR_2, sC_st, sR_st, sR_no, sR_refuse, and_self, true_and, and_true, false_and, and_false, l_X11_tongue_36, f_X4_odds, hk, c0, i_subr, o16, j_of, l16, j_mul, i_add1, Nat.pow_succ]) (fun n => by
        show l_X11_tongue_36 (n + 1) u (Int32.ofNat m) (Int64.ofNat (16 ^ m)) (Int64.ofNat ((16 - D 0 0) ^ m)) (Int32.ofNat m) = _
        simp (maxSteps := 1000000) (disch := omega) only [ne_eq, i_lt0, i_le0, i_eq0, i_n1, i_ltl, i_lel, i_eql, i_lt, i_le, i_eq, i_in, i_tn, i_add, i_addl, i_addr, i_mul, i_mulr, i_mull, if_true, if_false, eq_self, decide_eq_true_eq, decide_true, decide_false, Option.bind_some, Option.bind_none, ↓fu_ltd, ↓reduceIte, ↓ob_ite, ↓ob_asc, Bool.false_eq_true, Bool.true_eq_false, not_true_eq_false, not_false_eq_true, Nat.not_lt_zero, Nat.le_zero_eq, Nat.reduceAdd, Nat.reduceMul, Nat.reduceSub, Nat.reduceEqDiff, Nat.reduceLT, Nat.reduceLeDiff, sC_def, sR_def, sC_1, sC_2, sR_1, sR_2, sC_st, sR_st, sR_no, sR_refuse, and_self, true_and, and_true, false_and, and_false, l_X11_tongue_36, Nat.lt_irrefl]) (f := fu_N) (k := 0) (by omega) (fu_N_gt (by omega))
    have e2 : l_X12_tongue_36 fu_N (sR s2 0) (Int32.ofNat m) 1 1 0 = some (Int64.ofNat ((16 - D 0 0) ^ m), Int64.ofNat (16 ^ m)) := by
      generalize sR s2 0 = u at *
      exact lp_up (l := fun f (σ : Int64 × Int64) k => l_X12_tongue_36 f u (Int32.ofNat m) σ.1 σ.2 (Int32.ofNat k)) (N := m) (S := fun k => (Int64.ofNat ((16 - D 0 0) ^ k), Int64.ofNat (16 ^ k))) (r := (Int64.ofNat ((16 - D 0 0) ^ m), Int64.ofNat (16 ^ m))) (fun n k hk => by
        show l_X12_tongue_36 (n + 1) u (Int32.ofNat m) (Int64.ofNat ((16 - D 0 0) ^ k)) (Int64.ofNat (16 ^ k)) (Int32.ofNat k) = _
        simp (maxSteps := 1000000) (disch := omega) only [ne_eq, i_lt0, i_le0, i_eq0, i_n1, i_ltl, i_lel, i_eql, i_lt, i_le, i_eq, i_in, i_tn, i_add, i_addl, i_addr, i_mul, i_mulr, i_mull, if_true, if_false, eq_self, decide_eq_true_eq, decide_true, decide_false, Option.bind_some, Option.bind_none, ↓fu_ltd, ↓reduceIte, ↓ob_ite, ↓ob_asc, Bool.false_eq_true, Bool.true_eq_false, not_true_eq_false, not_false_eq_true, Nat.not_lt_zero, Nat.le_zero_eq, Nat.reduceAdd, Nat.reduceMul, Nat.reduceSub, Nat.reduceEqDiff, Nat.reduceLT, Nat.reduceLeDiff, sC_def, sR_def, sC_1, sC_2, sR_1, sR_2, sC_st, sR_st, sR_no, sR_refuse, and_self, true_and, and_true, false_and, and_false, l_X12_tongue_36, hk, g3, i_subr, o16, j_of, l16, j_mul, i_add1, Nat.pow_succ]) (fun n => by
        show l_X12_tongue_36 (n + 1) u (Int32.ofNat m) (Int64.ofNat ((16 - D 0 0) ^ m)) (Int64.ofNat (16 ^ m)) (Int32.ofNat m) = _
        simp (maxSteps := 1000000) (disch := omega) only [ne_eq, i_lt0, i_le0, i_eq0, i_n1, i_ltl, i_lel, i_eql, i_lt, i_le, i_eq, i_in, i_tn, i_add, i_addl, i_addr, i_mul, i_mulr, i_mull, if_true, if_false, eq_self, decide_eq_true_eq, decide_true, decide_false, Option.bind_some, Option.bind_none, ↓fu_ltd, ↓reduceIte, ↓ob_ite, ↓ob_asc, Bool.false_eq_true, Bool.true_eq_false, not_true_eq_false, not_false_eq_true, Nat.not_lt_zero, Nat.le_zero_eq, Nat.reduceAdd, Nat.reduceMul, Nat.reduceSub, Nat.reduceEqDiff, Nat.reduceLT, Nat.reduceLeDiff, sC_def, sR_def, sC_1, sC_2, sR_1, sR_2, sC_st, sR_st, sR_no, sR_refuse, and_self, true_and, and_true, false_and, and_false, l_X12_tongue_36, Nat.lt_irrefl]) (f := fu_N) (k := 0) (by omega) (fu_N_gt (by omega))
    have hA : 16 ^ m ≤ 16 ^ 12 := Nat.pow_le_pow_right (by omega) hm
    have hB : (16 - D 0 0) ^ m ≤ 16 ^ m := Nat.pow_le_pow_left (by omega) m
    have hA0 : 0 < 16 ^ m := Nat.pow_pos (by omega)
    generalize 16 ^ m = A at *
    generalize (16 - D 0 0) ^ m = B at *
    have e3 := c_tell (s := sC s1 0) (t := A - B) (b := A) (by omega) hA0 (by omega)
    have e4 := r_fraction (s := sR s2 0) (t := A - B) (b := A) (by omega) hA0 (by omega)
    refine ⟨true, _, _, ?_, ?_, dI_tell (x := Int64.ofNat ((A - B) / Nat.gcd (A - B) A)) (y := Int64.ofNat (A / Nat.gcd (A - B) A)) (s1 := sC s1 0) (s2 := sR s2 0) (dI_s hI)⟩
    · simp (maxSteps := 1000000) (disch := omega) only [ne_eq, i_lt0, i_le0, i_eq0, i_n1, i_ltl, i_lel, i_eql, i_lt, i_le, i_eq, i_in, i_tn, i_add, i_addl, i_addr, i_mul, i_mulr, i_mull, if_true, if_false, eq_self, decide_eq_true_eq, decide_true, decide_false, Option.bind_some, Option.bind_none, ↓fu_ltd, ↓reduceIte, ↓ob_ite, ↓ob_asc, Bool.false_eq_true, Bool.true_eq_false, not_true_eq_false, not_false_eq_true, Nat.not_lt_zero, Nat.le_zero_eq, Nat.reduceAdd, Nat.reduceMul, Nat.reduceSub, Nat.reduceEqDiff, Nat.reduceLT, Nat.reduceLeDiff, sC_def, sR_def, sC_1, sC_2, sR_1, sR_2, sC_st, sR_st, sR_no, sR_refuse, and_self, true_and, and_true, false_and, and_false, f_X11_tongue, hm, e1, j_sub, hB, e3]
    · simp (maxSteps := 1000000) (disch := omega) only [ne_eq, i_lt0, i_le0, i_eq0, i_n1, i_ltl, i_lel, i_eql, i_lt, i_le, i_eq, i_in, i_tn, i_add, i_addl, i_addr, i_mul, i_mulr, i_mull, if_true, if_false, eq_self, decide_eq_true_eq, decide_true, decide_false, Option.bind_some, Option.bind_none, ↓fu_ltd, ↓reduceIte, ↓ob_ite, ↓ob_asc, Bool.false_eq_true, Bool.true_eq_false, not_true_eq_false, not_false_eq_true, Nat.not_lt_zero, Nat.le_zero_eq, Nat.reduceAdd, Nat.reduceMul, Nat.reduceSub, Nat.reduceEqDiff, Nat.reduceLT, Nat.reduceLeDiff, sC_def, sR_def, sC_1, sC_2, sR_1, sR_2, sC_st, sR_st, sR_no, sR_refuse, and_self, true_and, and_true, false_and, and_false, f_X12_tongue, r_isInl12, hm, e2, j_sub, hB, e4]
  · refine ⟨false, sC s1 5, sR s2 5, ?_, ?_, dI_s hI⟩
    · by_cases h5 : a1 < 0
      · simp (maxSteps := 1000000) (disch := omega) only [ne_eq, i_lt0, i_le0, i_eq0, i_n1, i_ltl, i_lel, i_eql, i_lt, i_le, i_eq, i_in, i_tn, i_add, i_addl, i_addr, i_mul, i_mulr, i_mull, if_true, if_false, eq_self, decide_eq_true_eq, decide_true, decide_false, Option.bind_some, Option.bind_none, ↓fu_ltd, ↓reduceIte, ↓ob_ite, ↓ob_asc, Bool.false_eq_true, Bool.true_eq_false, not_true_eq_false, not_false_eq_true, Nat.not_lt_zero, Nat.le_zero_eq, Nat.reduceAdd, Nat.reduceMul, Nat.reduceSub, Nat.reduceEqDiff, Nat.reduceLT, Nat.reduceLeDiff, sC_def, sR_def, sC_1, sC_2, sR_1, sR_2, sC_st, sR_st, sR_no, sR_refuse, and_self, true_and, and_true, false_and, and_false, f_X11_tongue, h5]
        try rfl
      · have h6 : ¬ a1 ≤ 12 := fun z => h1 ⟨h5, z⟩
        simp (maxSteps := 1000000) (disch := omega) only [ne_eq, i_lt0, i_le0, i_eq0, i_n1, i_ltl, i_lel, i_eql, i_lt, i_le, i_eq, i_in, i_tn, i_add, i_addl, i_addr, i_mul, i_mulr, i_mull, if_true, if_false, eq_self, decide_eq_true_eq, decide_true, decide_false, Option.bind_some, Option.bind_none, ↓fu_ltd, ↓reduceIte, ↓ob_ite, ↓ob_asc, Bool.false_eq_true, Bool.true_eq_false, not_true_eq_false, not_false_eq_true, Nat.not_lt_zero, Nat.le_zero_eq, Nat.reduceAdd, Nat.reduceMul, Nat.reduceSub, Nat.reduceEqDiff, Nat.reduceLT, Nat.reduceLeDiff, sC_def, sR_def, sC_1, sC_2, sR_1, sR_2, sC_st, sR_st, sR_no, sR_refuse, and_self, true_and, and_true, false_and, and_false, f_X11_tongue, h5, h6]
        try rfl
    · simp (maxSteps := 1000000) (disch := omega) only [ne_eq, i_lt0, i_le0, i_eq0, i_n1, i_ltl, i_lel, i_eql, i_lt, i_le, i_eq, i_in, i_tn, i_add, i_addl, i_addr, i_mul, i_mulr, i_mull, if_true, if_false, eq_self, decide_eq_true_eq, decide_true, decide_false, Option.bind_some, Option.bind_none, ↓fu_ltd, ↓reduceIte, ↓ob_ite, ↓ob_asc, Bool.false_eq_true, Bool.true_eq_false, not_true_eq_false, not_false_eq_true, Nat.not_lt_zero, Nat.le_zero_eq, Nat.reduceAdd, Nat.reduceMul, Nat.reduceSub, Nat.reduceEqDiff, Nat.reduceLT, Nat.reduceLeDiff, sC_def, sR_def, sC_1, sC_2, sR_1, sR_2, sC_st, sR_st, sR_no, sR_refuse, and_self, true_and, and_true, false_and, and_false, f_X12_tongue, r_isInl12, h1]
