/-! trays: laid anew -/
/-- k places from q on hold 0 -/
def zer (s : fu_S) (P q k : Nat) : fu_S := (s.1, fun a r => if a = P ∧ q ≤ r ∧ r < q + k then 0 else s.2 a r)
theorem zer_0 {s : fu_S} {P q : Nat} : zer s P q 0 = s := by
  unfold zer
  have : (fun a r => if a = P ∧ q ≤ r ∧ r < q + 0 then (0 : Int64) else s.2 a r) = s.2 := by
    funext a r
    rw [if_neg (by omega)]
  rw [this]
theorem zer_s {s : fu_S} {P q k : Nat} : fu_pl (zer s P q k) P (q + k) 0 = zer s P q (k + 1) := by
  unfold fu_pl zer
  refine congrArg (Prod.mk s.1) ?_
  funext a r
  show (if a = P ∧ r = q + k then (0 : Int64) else (if a = P ∧ q ≤ r ∧ r < q + k then 0 else s.2 a r)) = if a = P ∧ q ≤ r ∧ r < q + (k + 1) then 0 else s.2 a r
  by_cases h1 : a = P ∧ r = q + k
  · rw [if_pos h1, if_pos (by omega)]
  · rw [if_neg h1]
    by_cases h2 : a = P ∧ q ≤ r ∧ r < q + k
    · rw [if_pos h2, if_pos (by omega)]
    · rw [if_neg h2, if_neg (by omega)]
theorem zer_1 {s : fu_S} {P q k : Nat} : (zer s P q k).1 = s.1 := rfl
theorem zer_2 {s : fu_S} {P q k a : Nat} (h : a ≠ P) : (zer s P q k).2 a = s.2 a := by
  funext r
  exact if_neg (fun z => h z.1)
theorem c_makeL {s : fu_S} {t : Nat} (ht : t < 4) : l_X7_make_44 fu_N s (Int32.ofNat t) 0 = some (zer s 2 (t * 60) 60) := by
  have hL := lp_up (l := fun f σ k => l_X7_make_44 f σ (Int32.ofNat t) (Int32.ofNat k)) (N := 60) (S := fun k => zer s 2 (t * 60) k) (r := zer s 2 (t * 60) 60) (fun n k hk => by
      have m1 : t * 60 + k < 240 := by omega
      show l_X7_make_44 (n + 1) (zer s 2 (t * 60) k) (Int32.ofNat t) (Int32.ofNat k) = _
      simp (disch := omega) only [ne_eq, i_lt0, i_le0, i_eq0, i_n1, i_ltl, i_lel, i_eql, i_lt, i_le, i_eq, i_in, i_tn, i_add, i_addl, i_addr, i_mul, i_mulr, i_mull, if_true, if_false, eq_self, decide_eq_true_eq, decide_true, decide_false, Option.bind_some, Option.bind_none, fu_lt, Bool.false_eq_true, Bool.true_eq_false, not_true_eq_false, not_false_eq_true, Nat.not_lt_zero, Nat.le_zero_eq, Nat.reduceAdd, Nat.reduceMul, Nat.reduceSub, Nat.reduceEqDiff, Nat.reduceLT, Nat.reduceLeDiff, sC_def, sR_def, sC_1, sC_2, sR_1, sR_2, sC_st, sR_st, sR_no, sR_refuse, and_self, true_and, and_true, false_and, and_false, l_X7_make_44, hk, m1, zer_s, i_add1]) (fun n => by
      show l_X7_make_44 (n + 1) (zer s 2 (t * 60) 60) (Int32.ofNat t) (Int32.ofNat 60) = _
      simp (disch := omega) only [ne_eq, i_lt0, i_le0, i_eq0, i_n1, i_ltl, i_lel, i_eql, i_lt, i_le, i_eq, i_in, i_tn, i_add, i_addl, i_addr, i_mul, i_mulr, i_mull, if_true, if_false, eq_self, decide_eq_true_eq, decide_true, decide_false, Option.bind_some, Option.bind_none, fu_lt, Bool.false_eq_true, Bool.true_eq_false, not_true_eq_false, not_false_eq_true, Nat.not_lt_zero, Nat.le_zero_eq, Nat.reduceAdd, Nat.reduceMul, Nat.reduceSub, Nat.reduceEqDiff, Nat.reduceLT, Nat.reduceLeDiff, sC_def, sR_def, sC_1, sC_2, sR_1, sR_2, sC_st, sR_st, sR_no, sR_refuse, and_self, true_and, and_true, false_and, and_false, l_X7_make_44, Nat.lt_irrefl]) (f := fu_N) (k := 0) (by omega) (fu_N_gt (by omega))
  simp only [zer_0] at hL
  exact hL
theorem r_trayL {s : fu_S} {t m : Nat} (ht : t < 4) (hm : m ≤ 60) : l_X12_tray_74 fu_N s (Int32.ofNat t) (Int32.ofNat m) 0 = some (zer s 120 (60 * t) m) := by
  have hL := lp_up (l := fun f σ k => l_X12_tray_74 f σ (Int32.ofNat t) (Int32.ofNat m) (Int32.ofNat k)) (N := m) (S := fun k => zer s 120 (60 * t) k) (r := zer s 120 (60 * t) m) (fun n k hk => by
      have m1 : 60 * t + k < 240 := by omega
      show l_X12_tray_74 (n + 1) (zer s 120 (60 * t) k) (Int32.ofNat t) (Int32.ofNat m) (Int32.ofNat k) = _
      simp (disch := omega) only [ne_eq, i_lt0, i_le0, i_eq0, i_n1, i_ltl, i_lel, i_eql, i_lt, i_le, i_eq, i_in, i_tn, i_add, i_addl, i_addr, i_mul, i_mulr, i_mull, if_true, if_false, eq_self, decide_eq_true_eq, decide_true, decide_false, Option.bind_some, Option.bind_none, fu_lt, Bool.false_eq_true, Bool.true_eq_false, not_true_eq_false, not_false_eq_true, Nat.not_lt_zero, Nat.le_zero_eq, Nat.reduceAdd, Nat.reduceMul, Nat.reduceSub, Nat.reduceEqDiff, Nat.reduceLT, Nat.reduceLeDiff, sC_def, sR_def, sC_1, sC_2, sR_1, sR_2, sC_st, sR_st, sR_no, sR_refuse, and_self, true_and, and_true, false_and, and_false, l_X12_tray_74, hk, m1, zer_s, i_add1]) (fun n => by
      show l_X12_tray_74 (n + 1) (zer s 120 (60 * t) m) (Int32.ofNat t) (Int32.ofNat m) (Int32.ofNat m) = _
      simp (disch := omega) only [ne_eq, i_lt0, i_le0, i_eq0, i_n1, i_ltl, i_lel, i_eql, i_lt, i_le, i_eq, i_in, i_tn, i_add, i_addl, i_addr, i_mul, i_mulr, i_mull, if_true, if_false, eq_self, decide_eq_true_eq, decide_true, decide_false, Option.bind_some, Option.bind_none, fu_lt, Bool.false_eq_true, Bool.true_eq_false, not_true_eq_false, not_false_eq_true, Nat.not_lt_zero, Nat.le_zero_eq, Nat.reduceAdd, Nat.reduceMul, Nat.reduceSub, Nat.reduceEqDiff, Nat.reduceLT, Nat.reduceLeDiff, sC_def, sR_def, sC_1, sC_2, sR_1, sR_2, sC_st, sR_st, sR_no, sR_refuse, and_self, true_and, and_true, false_and, and_false, l_X12_tray_74, Nat.lt_irrefl]) (f := fu_N) (k := 0) (by omega) (fu_N_gt (by omega))
  simp only [zer_0] at hL
  exact hL
