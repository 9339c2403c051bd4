/-! share -/
def d_fc : Nat → Nat
  | 0 => 1
  | n + 1 => d_fc n * (n + 1)
theorem d_fc_le : ∀ n, n < 11 → d_fc n ≤ 3628800 := by decide
theorem d_fc_pos : ∀ n, 0 < d_fc n
  | 0 => Nat.one_pos
  | n + 1 => Nat.mul_pos (d_fc_pos n) (by omega)
theorem d_sum_add {f g : Nat → Nat} : ∀ {n}, d_sum (fun k => f k + g k) n = d_sum f n + d_sum g n
  | 0 => rfl
  | n + 1 => by
    rw [d_sum_s, d_sum_s, d_sum_s, d_sum_add]
    omega
theorem d_sum_mono {f g : Nat → Nat} : ∀ {n}, (∀ k, k < n → f k ≤ g k) → d_sum f n ≤ d_sum g n
  | 0, _ => Nat.le_refl _
  | n + 1, h => by
    rw [d_sum_s, d_sum_s]
    have := h n (by omega)
    have := d_sum_mono (f := f) (g := g) (n := n) (fun k hk => h k (by omega))
    omega
theorem d_sum_ext {f : Nat → Nat} {n : Nat} : ∀ {m}, (∀ k, n ≤ k → k < n + m → f k = 0) → d_sum f (n + m) = d_sum f n
  | 0, _ => rfl
  | m + 1, h => by
    rw [← Nat.add_assoc, d_sum_s, d_sum_ext (m := m) (fun k h1 h2 => h k h1 (by omega)), h _ (by omega) (by omega)]
    rfl
theorem d_pop_sub {a b : Nat} (h : ∀ i, a.testBit i = true → b.testBit i = true) : d_pop a ≤ d_pop b := by
  unfold d_pop
  refine d_sum_mono fun k _ => ?_
  have := h k
  cases h1 : a.testBit k
  · exact Nat.zero_le _
  · rw [this h1]; exact Nat.le_refl _
theorem d_pop_out {a t : Nat} (ht : t < 10) (h : a.testBit t = true) : d_pop a = d_pop (d_nb a (2 ^ t)) + 1 := by
  have e : ∀ k, k < 10 → (a.testBit k).toNat = ((d_nb a (2 ^ t)).testBit k).toNat + (if k = t then (fun _ => 1) k else 0) := fun k hk => by
    rw [d_nb_bit (by omega), Nat.testBit_two_pow]
    by_cases e : k = t
    · rw [e, h]; simp
    · have : ¬ t = k := fun z => e z.symm
      simp [e, this]
  unfold d_pop
  rw [d_sum_congr e, d_sum_add, d_sum_one, if_pos ht]
theorem d_pop_8 : ∀ a, a < 256 → d_pop a ≤ 8 := by decide +kernel
theorem i_255 {a : Nat} (h : a < 256) : Int32.ofNat a &&& 255 = Int32.ofNat a := (i_and (b := 255)).trans (congrArg Int32.ofNat ((Nat.and_two_pow_sub_one_eq_mod a 8).trans (Nat.mod_eq_of_lt h)))
section SHR
variable {s : fu_S} {P : Nat} {D : dD} {S b n t p k c O x : Nat}
theorem c_orders (hn : n < 9) : f_X9_orders (Int32.ofNat n) = some (Int64.ofNat (d_fc n)) := by
  by_cases h : n < 1
  · rw [show n = 0 by omega]
    show Option.bind (l_X9_orders_4 (4095 + 1) 0 1 2) _ = _
    rw [l_X9_orders_4, if_neg (by decide)]
    rfl
  · have hL : l_X9_orders_4 fu_N (Int32.ofNat n) 1 2 = some (Int64.ofNat (d_fc n)) := lp_fr (l := fun f σ k => l_X9_orders_4 f (Int32.ofNat n) σ (Int32.ofNat k)) (a := 2) (b := n + 1) (S := fun k => Int64.ofNat (d_fc (k - 1))) (r := Int64.ofNat (d_fc n)) (fun f k ha hk => by
      have hkn : k ≤ n := by omega
      have hk8 : k ≤ 8 := by omega
      have x1 : d_fc k = d_fc (k - 1) * k := by
        obtain ⟨j, rfl⟩ : ∃ j, k = j + 1 := ⟨k - 1, by omega⟩
        rfl
      show l_X9_orders_4 (f + 1) (Int32.ofNat n) (Int64.ofNat (d_fc (k - 1))) (Int32.ofNat k) = l_X9_orders_4 f (Int32.ofNat n) (Int64.ofNat (d_fc k)) (Int32.ofNat (k + 1))
      rw [x1]
      simp (maxSteps := 1000000) (disch := omega) only [ne_eq, i_lt0, i_le0, i_eq0, i_n1, i_ltl, i_lel, i_eql, i_lt, i_le, i_eq, i_in, i_tn, i_add, i_addl, i_addr, i_mul, i_mulr, i_mull, if_true, if_false, eq_self, decide_eq_true_eq, decide_true, decide_false, Option.bind_some, Option.bind_none, ↓fu_ltd, ↓reduceIte, ↓ob_ite, ↓ob_asc, Bool.false_eq_true, Bool.true_eq_false, not_true_eq_false, not_false_eq_true, Nat.not_lt_zero, Nat.le_zero_eq, Nat.reduceAdd, Nat.reduceMul, Nat.reduceSub, Nat.reduceEqDiff, Nat.reduceLT, Nat.reduceLeDiff, sC_def, sR_def, sC_1, sC_2, sR_1, sR_2, sC_st, sR_st, sR_no, sR_refuse, and_self, true_and, and_true, false_and, and_false, l_X9_orders_4, hkn, hk8, j_of, j_mul, i_add1]) (fun f => by
      have hkn : ¬ n + 1 ≤ n := by omega
      show l_X9_orders_4 (f + 1) (Int32.ofNat n) (Int64.ofNat (d_fc n)) (Int32.ofNat (n + 1)) = _
      simp (maxSteps := 1000000) (disch := omega) only [ne_eq, i_lt0, i_le0, i_eq0, i_n1, i_ltl, i_lel, i_eql, i_lt, i_le, i_eq, i_in, i_tn, i_add, i_addl, i_addr, i_mul, i_mulr, i_mull, if_true, if_false, eq_self, decide_eq_true_eq, decide_true, decide_false, Option.bind_some, Option.bind_none, ↓fu_ltd, ↓reduceIte, ↓ob_ite, ↓ob_asc, Bool.false_eq_true, Bool.true_eq_false, not_true_eq_false, not_false_eq_true, Nat.not_lt_zero, Nat.le_zero_eq, Nat.reduceAdd, Nat.reduceMul, Nat.reduceSub, Nat.reduceEqDiff, Nat.reduceLT, Nat.reduceLeDiff, sC_def, sR_def, sC_1, sC_2, sR_1, sR_2, sC_st, sR_st, sR_no, sR_refuse, and_self, true_and, and_true, false_and, and_false, l_X9_orders_4, hkn]) (f := fu_N) (k := 2) (by omega) (by omega) (fu_N_gt (by omega))
    simp (maxSteps := 1000000) (disch := omega) only [ne_eq, i_lt0, i_le0, i_eq0, i_n1, i_ltl, i_lel, i_eql, i_lt, i_le, i_eq, i_in, i_tn, i_add, i_addl, i_addr, i_mul, i_mulr, i_mull, if_true, if_false, eq_self, decide_eq_true_eq, decide_true, decide_false, Option.bind_some, Option.bind_none, ↓fu_ltd, ↓reduceIte, ↓ob_ite, ↓ob_asc, Bool.false_eq_true, Bool.true_eq_false, not_true_eq_false, not_false_eq_true, Nat.not_lt_zero, Nat.le_zero_eq, Nat.reduceAdd, Nat.reduceMul, Nat.reduceSub, Nat.reduceEqDiff, Nat.reduceLT, Nat.reduceLeDiff, sC_def, sR_def, sC_1, sC_2, sR_1, sR_2, sC_st, sR_st, sR_no, sR_refuse, and_self, true_and, and_true, false_and, and_false, f_X9_orders, hL]
theorem r_fact (hn : n < 11) : f_X12_factorial (Int32.ofNat n) = some (Int64.ofNat (d_fc n)) := by
  by_cases h : n < 1
  · rw [show n = 0 by omega]
    show Option.bind (l_X12_factorial_4 (4095 + 1) 0 1 2) _ = _
    rw [l_X12_factorial_4, if_neg (by decide)]
    rfl
  · have hL : l_X12_factorial_4 fu_N (Int32.ofNat n) 1 2 = some (Int64.ofNat (d_fc n)) := lp_fr (l := fun f σ k => l_X12_factorial_4 f (Int32.ofNat n) σ (Int32.ofNat k)) (a := 2) (b := n + 1) (S := fun k => Int64.ofNat (d_fc (k - 1))) (r := Int64.ofNat (d_fc n)) (fun f k ha hk => by
      have hkn : k ≤ n := by omega
      have x1 : d_fc k = d_fc (k - 1) * k := by
        obtain ⟨j, rfl⟩ : ∃ j, k = j + 1 := ⟨k - 1, by omega⟩
        rfl
      show l_X12_factorial_4 (f + 1) (Int32.ofNat n) (Int64.ofNat (d_fc (k - 1))) (Int32.ofNat k) = l_X12_factorial_4 f (Int32.ofNat n) (Int64.ofNat (d_fc k)) (Int32.ofNat (k + 1))
      rw [x1]
      simp (maxSteps := 1000000) (disch := omega) only [ne_eq, i_lt0, i_le0, i_eq0, i_n1, i_ltl, i_lel, i_eql, i_lt, i_le, i_eq, i_in, i_tn, i_add, i_addl, i_addr, i_mul, i_mulr, i_mull, if_true, if_false, eq_self, decide_eq_true_eq, decide_true, decide_false, Option.bind_some, Option.bind_none, ↓fu_ltd, ↓reduceIte, ↓ob_ite, ↓ob_asc, Bool.false_eq_true, Bool.true_eq_false, not_true_eq_false, not_false_eq_true, Nat.not_lt_zero, Nat.le_zero_eq, Nat.reduceAdd, Nat.reduceMul, Nat.reduceSub, Nat.reduceEqDiff, Nat.reduceLT, Nat.reduceLeDiff, sC_def, sR_def, sC_1, sC_2, sR_1, sR_2, sC_st, sR_st, sR_no, sR_refuse, and_self, true_and, and_true, false_and, and_false, l_X12_factorial_4, hkn, j_of, j_mul, i_add1]) (fun f => by
      have hkn : ¬ n + 1 ≤ n := by omega
      show l_X12_factorial_4 (f + 1) (Int32.ofNat n) (Int64.ofNat (d_fc n)) (Int32.ofNat (n + 1)) = _
      simp (maxSteps := 1000000) (disch := omega) only [ne_eq, i_lt0, i_le0, i_eq0, i_n1, i_ltl, i_lel, i_eql, i_lt, i_le, i_eq, i_in, i_tn, i_add, i_addl, i_addr, i_mul, i_mulr, i_mull, if_true, if_false, eq_self, decide_eq_true_eq, decide_true, decide_false, Option.bind_some, Option.bind_none, ↓fu_ltd, ↓reduceIte, ↓ob_ite, ↓ob_asc, Bool.false_eq_true, Bool.true_eq_false, not_true_eq_false, not_false_eq_true, Nat.not_lt_zero, Nat.le_zero_eq, Nat.reduceAdd, Nat.reduceMul, Nat.reduceSub, Nat.reduceEqDiff, Nat.reduceLT, Nat.reduceLeDiff, sC_def, sR_def, sC_1, sC_2, sR_1, sR_2, sC_st, sR_st, sR_no, sR_refuse, and_self, true_and, and_true, false_and, and_false, l_X12_factorial_4, hkn]) (f := fu_N) (k := 2) (by omega) (by omega) (fu_N_gt (by omega))
    simp (maxSteps := 1000000) (disch := omega) only [ne_eq, i_lt0, i_le0, i_eq0, i_n1, i_ltl, i_lel, i_eql, i_lt, i_le, i_eq, i_in, i_tn, i_add, i_addl, i_addr, i_mul, i_mulr, i_mull, if_true, if_false, eq_self, decide_eq_true_eq, decide_true, decide_false, Option.bind_some, Option.bind_none, ↓fu_ltd, ↓reduceIte, ↓ob_ite, ↓ob_asc, Bool.false_eq_true, Bool.true_eq_false, not_true_eq_false, not_false_eq_true, Nat.not_lt_zero, Nat.le_zero_eq, Nat.reduceAdd, Nat.reduceMul, Nat.reduceSub, Nat.reduceEqDiff, Nat.reduceLT, Nat.reduceLeDiff, sC_def, sR_def, sC_1, sC_2, sR_1, sR_2, sC_st, sR_st, sR_no, sR_refuse, and_self, true_and, and_true, false_and, and_false, f_X12_factorial, hL]
/-- what those ahead leave to t, by all their orders -/
def d_tm (D : dD) (p O t c a : Nat) : Nat := if d_nb a O = 0 then d_fc (d_pop a) * d_fc (c - d_pop a) * (d_cost D p (a ||| 2 ^ t) - d_cost D p a) else 0
theorem d_tm_le (hv : dV D) (hp : p ≤ 59) (hc : c ≤ 10) (a : Nat) : d_tm D p O t c a ≤ 3628800 * 3628800 * 118 := by
  unfold d_tm
  split
  · have h1 := d_fc_le (d_pop a) (by have := d_pop_le (a := a); omega)
    have h2 := d_fc_le (c - d_pop a) (by omega)
    have h3 := d_cost_le (S := a ||| 2 ^ t) hv hp
    exact Nat.mul_le_mul (Nat.mul_le_mul h1 h2) (by omega)
  · omega
theorem sub_bits (hO : O < 2147483648) (ha : x < 2147483648) (h : d_nb x O = 0) : x ≤ O := by
  have h1 := (d_nb_0 ha).mp h
  have h2 : x &&& O = x := by
    apply Nat.eq_of_testBit_eq
    intro i
    rw [Nat.testBit_and]
    cases hi : x.testBit i
    · rfl
    · rw [h1 i hi]; rfl
  rw [← h2]
  exact Nat.and_le_right
theorem or_bit_lt (hS : S < 2 ^ n) (ht : t < n) : S ||| 2 ^ t < 2 ^ n := Nat.or_lt_two_pow hS (Nat.pow_lt_pow_right (by omega) ht)
theorem c_share (hd : dC s P D) (hv : dV D) (hp : p ≤ 59) (hS : S < 2 ^ D 0 5) (ht : t < D 0 5) : f_X9_shareOfAllOrders s P (Int32.ofNat p) (Int32.ofNat S) (Int32.ofNat t) = some (Int64.ofNat (d_sum (d_tm D p (d_nb S (2 ^ t)) t (d_pop (d_nb S (2 ^ t)))) (d_nb S (2 ^ t) + 1))) := by
  have hp4 := hv.1
  have h8 : 2 ^ D 0 5 ≤ 2 ^ 8 := Nat.pow_le_pow_right (by omega) (by omega)
  have hO : d_nb S (2 ^ t) ≤ S := d_nb_le
  have e255 : Int32.ofNat S &&& 255 = Int32.ofNat S := i_255 (by omega)
  have e0 : Int32.ofNat S &&& (((1 : Int32) <<< (Int32.ofNat t &&& 31)) ^^^ -1) = Int32.ofNat (d_nb S (2 ^ t)) := i_nand1 (by omega)
  generalize hOO : d_nb S (2 ^ t) = O at *
  have hpc := d_pop_8 O (by omega)
  have e1 := c_bits (a := O) (by omega)
  have hL : l_X9_shareOfAllOrders_26 fu_N s P (Int32.ofNat p) (Int32.ofNat t) (Int32.ofNat O) (Int32.ofNat (d_pop O)) 0 0 = some (Int64.ofNat (d_sum (d_tm D p O t (d_pop O)) (O + 1))) := lp_up (l := fun f σ k => l_X9_shareOfAllOrders_26 f s P (Int32.ofNat p) (Int32.ofNat t) (Int32.ofNat O) (Int32.ofNat (d_pop O)) σ (Int32.ofNat k)) (N := O + 1) (S := fun k => Int64.ofNat (d_sum (d_tm D p O t (d_pop O)) k)) (r := Int64.ofNat (d_sum (d_tm D p O t (d_pop O)) (O + 1))) (fun n k hk => by
      have hkO : k ≤ O := by omega
      have hkS : k < 2 ^ D 0 5 := by omega
      have e2 := c_cost hd hv hp hkS
      have e3 := c_cost hd hv hp (or_bit_lt hkS ht)
      have e4 := c_bits (a := k) (by omega)
      have hpk := d_pop_8 k (by omega)
      have e5 := c_orders (n := d_pop k) (by omega)
      have e6 := c_orders (n := d_pop O - d_pop k) (by omega)
      have e7 : Int32.ofNat k &&& (Int32.ofNat O ^^^ -1) = Int32.ofNat (d_nb k O) := i_nand
      have hm := d_cost_mono (S := k) (S' := k ||| 2 ^ t) hv hkS hp (fun i hi => by rw [Nat.testBit_or, hi, Bool.true_or])
      have hc := d_cost_le (S := k ||| 2 ^ t) hv hp
      have hnb : d_nb k O ≤ k := d_nb_le
      have hsub : d_nb k O = 0 → d_pop k ≤ d_pop O := fun z => d_pop_sub ((d_nb_0 (by omega)).mp z)
      show l_X9_shareOfAllOrders_26 (n + 1) s P (Int32.ofNat p) (Int32.ofNat t) (Int32.ofNat O) (Int32.ofNat (d_pop O)) (Int64.ofNat (d_sum (d_tm D p O t (d_pop O)) k)) (Int32.ofNat k) = l_X9_shareOfAllOrders_26 n s P (Int32.ofNat p) (Int32.ofNat t) (Int32.ofNat O) (Int32.ofNat (d_pop O)) (Int64.ofNat (d_sum (d_tm D p O t (d_pop O)) (k + 1))) (Int32.ofNat (k + 1))
      rw [d_sum_s]
      generalize d_sum (d_tm D p O t (d_pop O)) k = A at *
      unfold d_tm
      generalize d_cost D p (k ||| 2 ^ t) = C1 at *
      generalize d_cost D p k = C2 at *
      generalize d_pop O = G at *
      generalize d_pop k = G' at *
      by_cases hz : d_nb k O = 0
      · have hle := hsub hz
        have ht31 : t < 31 := by omega
        have x1 : Int32.ofNat G - Int32.ofNat G' = Int32.ofNat (G - G') := i_sub hle
        have x2 : Int32.toInt64 (Int32.ofNat C1 - Int32.ofNat C2) = Int64.ofNat (C1 - C2) := by
          rw [i_sub hm, j_of (by omega)]
        simp (maxSteps := 1000000) (disch := omega) only [ne_eq, i_lt0, i_le0, i_eq0, i_n1, i_ltl, i_lel, i_eql, i_lt, i_le, i_eq, i_in, i_tn, i_add, i_addl, i_addr, i_mul, i_mulr, i_mull, if_true, if_false, eq_self, decide_eq_true_eq, decide_true, decide_false, Option.bind_some, Option.bind_none, ↓fu_ltd, ↓reduceIte, ↓ob_ite, ↓ob_asc, Bool.false_eq_true, Bool.true_eq_false, not_true_eq_false, not_false_eq_true, Nat.not_lt_zero, Nat.le_zero_eq, Nat.reduceAdd, Nat.reduceMul, Nat.reduceSub, Nat.reduceEqDiff, Nat.reduceLT, Nat.reduceLeDiff, sC_def, sR_def, sC_1, sC_2, sR_1, sR_2, sC_st, sR_st, sR_no, sR_refuse, and_self, true_and, and_true, false_and, and_false, l_X9_shareOfAllOrders_26, hkO, e7, hz, i_shl, i_or, e3, e2, e4, e5, x1, e6, x2, j_mul, j_add, i_add1]
      · simp (maxSteps := 1000000) (disch := omega) only [ne_eq, i_lt0, i_le0, i_eq0, i_n1, i_ltl, i_lel, i_eql, i_lt, i_le, i_eq, i_in, i_tn, i_add, i_addl, i_addr, i_mul, i_mulr, i_mull, if_true, if_false, eq_self, decide_eq_true_eq, decide_true, decide_false, Option.bind_some, Option.bind_none, ↓fu_ltd, ↓reduceIte, ↓ob_ite, ↓ob_asc, Bool.false_eq_true, Bool.true_eq_false, not_true_eq_false, not_false_eq_true, Nat.not_lt_zero, Nat.le_zero_eq, Nat.reduceAdd, Nat.reduceMul, Nat.reduceSub, Nat.reduceEqDiff, Nat.reduceLT, Nat.reduceLeDiff, sC_def, sR_def, sC_1, sC_2, sR_1, sR_2, sC_st, sR_st, sR_no, sR_refuse, and_self, true_and, and_true, false_and, and_false, l_X9_shareOfAllOrders_26, hkO, e7, hz, i_add1, Nat.add_zero]) (fun n => by
      have hkO : ¬ O + 1 ≤ O := by omega
      generalize d_sum (d_tm D p O t (d_pop O)) (O + 1) = A at *
      show l_X9_shareOfAllOrders_26 (n + 1) s P (Int32.ofNat p) (Int32.ofNat t) (Int32.ofNat O) (Int32.ofNat (d_pop O)) (Int64.ofNat A) (Int32.ofNat (O + 1)) = _
      simp (maxSteps := 1000000) (disch := omega) only [ne_eq, i_lt0, i_le0, i_eq0, i_n1, i_ltl, i_lel, i_eql, i_lt, i_le, i_eq, i_in, i_tn, i_add, i_addl, i_addr, i_mul, i_mulr, i_mull, if_true, if_false, eq_self, decide_eq_true_eq, decide_true, decide_false, Option.bind_some, Option.bind_none, ↓fu_ltd, ↓reduceIte, ↓ob_ite, ↓ob_asc, Bool.false_eq_true, Bool.true_eq_false, not_true_eq_false, not_false_eq_true, Nat.not_lt_zero, Nat.le_zero_eq, Nat.reduceAdd, Nat.reduceMul, Nat.reduceSub, Nat.reduceEqDiff, Nat.reduceLT, Nat.reduceLeDiff, sC_def, sR_def, sC_1, sC_2, sR_1, sR_2, sC_st, sR_st, sR_no, sR_refuse, and_self, true_and, and_true, false_and, and_false, l_X9_shareOfAllOrders_26, hkO]) (f := fu_N) (k := 0) (by omega) (fu_N_gt (by omega))
  generalize d_sum (d_tm D p O t (d_pop O)) (O + 1) = A at *
  simp (maxSteps := 1000000) (disch := omega) only [ne_eq, i_lt0, i_le0, i_eq0, i_n1, i_ltl, i_lel, i_eql, i_lt, i_le, i_eq, i_in, i_tn, i_add, i_addl, i_addr, i_mul, i_mulr, i_mull, if_true, if_false, eq_self, decide_eq_true_eq, decide_true, decide_false, Option.bind_some, Option.bind_none, ↓fu_ltd, ↓reduceIte, ↓ob_ite, ↓ob_asc, Bool.false_eq_true, Bool.true_eq_false, not_true_eq_false, not_false_eq_true, Nat.not_lt_zero, Nat.le_zero_eq, Nat.reduceAdd, Nat.reduceMul, Nat.reduceSub, Nat.reduceEqDiff, Nat.reduceLT, Nat.reduceLeDiff, sC_def, sR_def, sC_1, sC_2, sR_1, sR_2, sC_st, sR_st, sR_no, sR_refuse, and_self, true_and, and_true, false_and, and_false, f_X9_shareOfAllOrders, e255, e0, e1, hL]
theorem r_share (hd : dR s 0 D) (hv : dV D) (hp : p ≤ 59) (hS : S < 2 ^ D 0 5) (ht : t < D 0 5) (hb : S.testBit t = true) : l_X12_share_66 fu_N s (Int32.ofNat p) (Int32.ofNat S) (Int32.ofNat t) (Int32.ofNat (d_pop S)) 0 0 = some (Int64.ofNat (d_sum (d_tm D p (d_nb S (2 ^ t)) t (d_pop (d_nb S (2 ^ t)))) (d_nb S (2 ^ t) + 1))) := by
  have hp4 := hv.1
  have h8 : 2 ^ D 0 5 ≤ 2 ^ 8 := Nat.pow_le_pow_right (by omega) (by omega)
  have hO : d_nb S (2 ^ t) ≤ S := d_nb_le
  have hOb : ∀ i, i < 32 → (d_nb S (2 ^ t)).testBit i = (S.testBit i && !decide (t = i)) := fun i hi => by rw [d_nb_bit hi, Nat.testBit_two_pow]
  rw [d_pop_out (a := S) (t := t) (by omega) hb]
  generalize hOO : d_nb S (2 ^ t) = O at *
  have hpc := d_pop_le (a := O)
  have key : ∀ k, k < 2147483648 → (d_nb k O = 0 ↔ d_nb k S = 0 ∧ k.testBit t = false) := fun k hk => by
    rw [d_nb_0 hk, d_nb_0 hk]
    constructor
    · intro h
      refine ⟨fun i hi => ?_, ?_⟩
      · have h1 := h i hi
        have hi32 : i < 32 := by
          refine Classical.byContradiction fun z => ?_
          rw [bit_hi (n := 31) hk (by omega)] at hi
          exact Bool.noConfusion hi
        rw [hOb i hi32, Bool.and_eq_true] at h1
        exact h1.1
      · cases hz : k.testBit t
        · rfl
        · have h1 := h t hz
          rw [hOb t (by omega)] at h1
          simp at h1
    · rintro ⟨h1, h2⟩ i hi
      have hi32 : i < 32 := by
        refine Classical.byContradiction fun z => ?_
        rw [bit_hi (n := 31) hk (by omega)] at hi
        exact Bool.noConfusion hi
      rw [hOb i hi32, h1 i hi]
      have : ¬ t = i := fun z => by rw [z, hi] at h2; exact Bool.noConfusion h2
      simp [this]
  have hfin : d_sum (d_tm D p O t (d_pop O)) (S + 1) = d_sum (d_tm D p O t (d_pop O)) (O + 1) := by
    have hz : ∀ k, O + 1 ≤ k → k < O + 1 + (S - O) → d_tm D p O t (d_pop O) k = 0 := fun k hk hk2 => by
      unfold d_tm
      rw [if_neg]
      intro z
      have := sub_bits (O := O) (x := k) (by omega) (by omega) z
      omega
    have := d_sum_ext (f := d_tm D p O t (d_pop O)) (n := O + 1) (m := S - O) hz
    rw [show O + 1 + (S - O) = S + 1 by omega] at this
    exact this
  rw [← hfin]
  exact lp_up (l := fun f σ k => l_X12_share_66 f s (Int32.ofNat p) (Int32.ofNat S) (Int32.ofNat t) (Int32.ofNat (d_pop O + 1)) σ (Int32.ofNat k)) (N := S + 1) (S := fun k => Int64.ofNat (d_sum (d_tm D p O t (d_pop O)) k)) (r := Int64.ofNat (d_sum (d_tm D p O t (d_pop O)) (S + 1))) (fun n k hk => by
      have hkO : k ≤ S := by omega
      have hkS : k < 2 ^ D 0 5 := by omega
      have ht31 : t < 31 := by omega
      have e2 := r_cost hd hv hp hkS
      have e3 := r_cost hd hv hp (or_bit_lt hkS ht)
      have e4 := r_sizeOf (a := k) (by omega)
      have hpk := d_pop_le (a := k)
      have e5 := r_fact (n := d_pop k) (by omega)
      have e6 := r_fact (n := d_pop O - d_pop k) (by omega)
      have e7 : Int32.ofNat k &&& (Int32.ofNat S ^^^ -1) = Int32.ofNat (d_nb k S) := i_nand
      have e8 : f_X12_has (Int32.ofNat k) (Int32.ofNat t) = k.testBit t := r_has (by omega) ht31
      have hm := d_cost_mono (S := k) (S' := k ||| 2 ^ t) hv hkS hp (fun i hi => by rw [Nat.testBit_or, hi, Bool.true_or])
      have hc := d_cost_le (S := k ||| 2 ^ t) hv hp
      have hnb : d_nb k S ≤ k := d_nb_le
      have hsub : d_nb k O = 0 → d_pop k ≤ d_pop O := fun z => d_pop_sub ((d_nb_0 (by omega)).mp z)
      have hkey := key k (by omega)
      show l_X12_share_66 (n + 1) s (Int32.ofNat p) (Int32.ofNat S) (Int32.ofNat t) (Int32.ofNat (d_pop O + 1)) (Int64.ofNat (d_sum (d_tm D p O t (d_pop O)) k)) (Int32.ofNat k) = l_X12_share_66 n s (Int32.ofNat p) (Int32.ofNat S) (Int32.ofNat t) (Int32.ofNat (d_pop O + 1)) (Int64.ofNat (d_sum (d_tm D p O t (d_pop O)) (k + 1))) (Int32.ofNat (k + 1))
      rw [d_sum_s]
      generalize d_sum (d_tm D p O t (d_pop O)) k = A at *
      unfold d_tm
      generalize d_cost D p (k ||| 2 ^ t) = C1 at *
      generalize d_cost D p k = C2 at *
      generalize d_pop O = G at *
      generalize d_pop k = G' at *
      by_cases hz : d_nb k S = 0
      · cases hb2 : k.testBit t
        · rw [hb2] at e8
          have hz2 := hkey.mpr ⟨hz, hb2⟩
          have hle := hsub hz2
          have x1 : Int32.ofNat (G + 1) - 1 - Int32.ofNat G' = Int32.ofNat (G - G') := by rw [i_add1s, i_sub hle]
          have x2 : Int32.toInt64 (Int32.ofNat C1 - Int32.ofNat C2) = Int64.ofNat (C1 - C2) := by
            rw [i_sub hm, j_of (by omega)]
          simp (maxSteps := 1000000) (disch := omega) only [ne_eq, i_lt0, i_le0, i_eq0, i_n1, i_ltl, i_lel, i_eql, i_lt, i_le, i_eq, i_in, i_tn, i_add, i_addl, i_addr, i_mul, i_mulr, i_mull, if_true, if_false, eq_self, decide_eq_true_eq, decide_true, decide_false, Option.bind_some, Option.bind_none, ↓fu_ltd, ↓reduceIte, ↓ob_ite, ↓ob_asc, Bool.false_eq_true, Bool.true_eq_false, not_true_eq_false, not_false_eq_true, Nat.not_lt_zero, Nat.le_zero_eq, Nat.reduceAdd, Nat.reduceMul, Nat.reduceSub, Nat.reduceEqDiff, Nat.reduceLT, Nat.reduceLeDiff, sC_def, sR_def, sC_1, sC_2, sR_1, sR_2, sC_st, sR_st, sR_no, sR_refuse, and_self, true_and, and_true, false_and, and_false, l_X12_share_66, hkO, e7, hz, e8, i_shl, i_or, e3, e2, e4, e5, x1, e6, x2, j_mul, j_add, i_add1, hz2]
        · rw [hb2] at e8
          have hz2 : ¬ d_nb k O = 0 := fun z => by have := (hkey.mp z).2; rw [hb2] at this; exact Bool.noConfusion this
          simp (maxSteps := 1000000) (disch := omega) only [ne_eq, i_lt0, i_le0, i_eq0, i_n1, i_ltl, i_lel, i_eql, i_lt, i_le, i_eq, i_in, i_tn, i_add, i_addl, i_addr, i_mul, i_mulr, i_mull, if_true, if_false, eq_self, decide_eq_true_eq, decide_true, decide_false, Option.bind_some, Option.bind_none, ↓fu_ltd, ↓reduceIte, ↓ob_ite, ↓ob_asc, Bool.false_eq_true, Bool.true_eq_false, not_true_eq_false, not_false_eq_true, Nat.not_lt_zero, Nat.le_zero_eq, Nat.reduceAdd, Nat.reduceMul, Nat.reduceSub, Nat.reduceEqDiff, Nat.reduceLT, Nat.reduceLeDiff, sC_def, sR_def, sC_1, sC_2, sR_1, sR_2, sC_st, sR_st, sR_no, sR_refuse, and_self, true_and, and_true, false_and, and_false, l_X12_share_66, hkO, e7, hz, e8, i_add1, hz2, Nat.add_zero]
      · have hz2 : ¬ d_nb k O = 0 := fun z => hz (hkey.mp z).1
        simp (maxSteps := 1000000) (disch := omega) only [ne_eq, i_lt0, i_le0, i_eq0, i_n1, i_ltl, i_lel, i_eql, i_lt, i_le, i_eq, i_in, i_tn, i_add, i_addl, i_addr, i_mul, i_mulr, i_mull, if_true, if_false, eq_self, decide_eq_true_eq, decide_true, decide_false, Option.bind_some, Option.bind_none, ↓fu_ltd, ↓reduceIte, ↓ob_ite, ↓ob_asc, Bool.false_eq_true, Bool.true_eq_false, not_true_eq_false, not_false_eq_true, Nat.not_lt_zero, Nat.le_zero_eq, Nat.reduceAdd, Nat.reduceMul, Nat.reduceSub, Nat.reduceEqDiff, Nat.reduceLT, Nat.reduceLeDiff, sC_def, sR_def, sC_1, sC_2, sR_1, sR_2, sC_st, sR_st, sR_no, sR_refuse, and_self, true_and, and_true, false_and, and_false, l_X12_share_66, hkO, e7, hz, i_add1, hz2, Nat.add_zero]) (fun n => by
      have hkO : ¬ S + 1 ≤ S := by omega
      generalize d_sum (d_tm D p O t (d_pop O)) (S + 1) = A at *
      show l_X12_share_66 (n + 1) s (Int32.ofNat p) (Int32.ofNat S) (Int32.ofNat t) (Int32.ofNat (d_pop O + 1)) (Int64.ofNat A) (Int32.ofNat (S + 1)) = _
      simp (maxSteps := 1000000) (disch := omega) only [ne_eq, i_lt0, i_le0, i_eq0, i_n1, i_ltl, i_lel, i_eql, i_lt, i_le, i_eq, i_in, i_tn, i_add, i_addl, i_addr, i_mul, i_mulr, i_mull, if_true, if_false, eq_self, decide_eq_true_eq, decide_true, decide_false, Option.bind_some, Option.bind_none, ↓fu_ltd, ↓reduceIte, ↓ob_ite, ↓ob_asc, Bool.false_eq_true, Bool.true_eq_false, not_true_eq_false, not_false_eq_true, Nat.not_lt_zero, Nat.le_zero_eq, Nat.reduceAdd, Nat.reduceMul, Nat.reduceSub, Nat.reduceEqDiff, Nat.reduceLT, Nat.reduceLeDiff, sC_def, sR_def, sC_1, sC_2, sR_1, sR_2, sC_st, sR_st, sR_no, sR_refuse, and_self, true_and, and_true, false_and, and_false, l_X12_share_66, hkO]) (f := fu_N) (k := 0) (by omega) (fu_N_gt (by omega))
end SHR
theorem hd_40 : lw_E_40 dI := by
  intro s1 s2 hI a1 a2 a3
  obtain ⟨D, hv, hC, hR, -⟩ := dI_D hI
  have hp4 := hv.1
  have h8 : 2 ^ D 0 5 ≤ 2 ^ 8 := Nat.pow_le_pow_right (by omega) (by omega)
  have hr := fun x => dR_s (x := x) hv hR
  have hc := fun x => dC_s (x := x) (by omega : (11 : Nat) ≠ 0) hC
  have ew := r_isW (x := a1) (y := a2) (hr 0) hv
  have et := fun x => r_isThing (x := a3) (hr x) hv
  by_cases h3 : ¬ a3 < 0 ∧ a3 < Int32.ofNat (D 0 5)
  · obtain ⟨t, ht, rfl⟩ := i_is (by omega) h3
    by_cases h1 : ¬ a1 < 0 ∧ a1 ≤ 59
    · by_cases h2 : ¬ a2 < 0 ∧ a2 < Int32.ofNat (2 ^ D 0 5)
      · rw [decide_eq_true ⟨h1, h2⟩] at ew
        have y1 : f_X4_isHome 11 a1 = true := by rw [c_isHome, decide_eq_true h1]
        have y2 : f_X4_isThingSet s1 11 a2 = true := by rw [c_isTS hC hv, decide_eq_true h2]
        obtain ⟨p, hp, rfl⟩ := i_upto (n := 59) (by omega) h1
        obtain ⟨S, hS, rfl⟩ := i_is (by omega) h2
        have ht31 : t < 31 := by omega
        have hS31 : S < 2147483648 := by omega
        have e8 : f_X12_has (Int32.ofNat S) (Int32.ofNat t) = S.testBit t := r_has (by omega) ht31
        cases hb : S.testBit t
        · rw [hb] at e8
          refine ⟨false, sC s1 8, sR s2 8, ?_, ?_, dI_s hI⟩
          · simp (maxSteps := 1000000) (disch := omega) only [ne_eq, i_lt0, i_le0, i_eq0, i_n1, i_ltl, i_lel, i_eql, i_lt, i_le, i_eq, i_in, i_tn, i_add, i_addl, i_addr, i_mul, i_mulr, i_mull, if_true, if_false, eq_self, decide_eq_true_eq, decide_true, decide_false, Option.bind_some, Option.bind_none, ↓fu_ltd, ↓reduceIte, ↓ob_ite, ↓ob_asc, Bool.false_eq_true, Bool.true_eq_false, not_true_eq_false, not_false_eq_true, Nat.not_lt_zero, Nat.le_zero_eq, Nat.reduceAdd, Nat.reduceMul, Nat.reduceSub, Nat.reduceEqDiff, Nat.reduceLT, Nat.reduceLeDiff, sC_def, sR_def, sC_1, sC_2, sR_1, sR_2, sC_st, sR_st, sR_no, sR_refuse, and_self, true_and, and_true, false_and, and_false, f_X11_share, c_hasThing hC, ht, y1, y2, i_bit0, hb]
            try rfl
          · simp (maxSteps := 1000000) (disch := omega) only [ne_eq, i_lt0, i_le0, i_eq0, i_n1, i_ltl, i_lel, i_eql, i_lt, i_le, i_eq, i_in, i_tn, i_add, i_addl, i_addr, i_mul, i_mulr, i_mull, if_true, if_false, eq_self, decide_eq_true_eq, decide_true, decide_false, Option.bind_some, Option.bind_none, ↓fu_ltd, ↓reduceIte, ↓ob_ite, ↓ob_asc, Bool.false_eq_true, Bool.true_eq_false, not_true_eq_false, not_false_eq_true, Nat.not_lt_zero, Nat.le_zero_eq, Nat.reduceAdd, Nat.reduceMul, Nat.reduceSub, Nat.reduceEqDiff, Nat.reduceLT, Nat.reduceLeDiff, sC_def, sR_def, sC_1, sC_2, sR_1, sR_2, sC_st, sR_st, sR_no, sR_refuse, and_self, true_and, and_true, false_and, and_false, f_X12_share, et, ht, ew, e8]
        · rw [hb] at e8
          have e1 := c_share (hc 0) hv hp hS ht
          have e2 := r_share (hr 0) hv hp hS ht hb
          have hpS := d_pop_8 S (by omega)
          have e3 := c_bits (a := S) (by omega)
          have e4 := r_sizeOf (a := S) (by omega)
          have e5 := c_orders (n := d_pop S) (by omega)
          have e6 := r_fact (n := d_pop S) (by omega)
          have hle : d_nb S (2 ^ t) ≤ S := d_nb_le
          have hA : d_sum (d_tm D p (d_nb S (2 ^ t)) t (d_pop (d_nb S (2 ^ t)))) (d_nb S (2 ^ t) + 1) ≤ (d_nb S (2 ^ t) + 1) * (3628800 * 3628800 * 118) := d_sum_le fun k _ => d_tm_le hv hp (by have := d_pop_le (a := d_nb S (2 ^ t)); omega) k
          have hB := d_fc_le (d_pop S) (by omega)
          have hB0 := d_fc_pos (d_pop S)
          have hA2 : (d_nb S (2 ^ t) + 1) * (3628800 * 3628800 * 118) ≤ 256 * (3628800 * 3628800 * 118) := Nat.mul_le_mul_right _ (by omega)
          generalize d_sum (d_tm D p (d_nb S (2 ^ t)) t (d_pop (d_nb S (2 ^ t)))) (d_nb S (2 ^ t) + 1) = A at *
          generalize d_fc (d_pop S) = B at *
          have e7 := c_tell (s := sC s1 0) (t := A) (b := B) (by omega) hB0 (by omega)
          have e9 := r_fraction (s := sR s2 0) (t := A) (b := B) (by omega) hB0 (by omega)
          have z1 : (fu_pl (fu_pl (sC s1 0) 0 16 (Int64.ofNat (A / Nat.gcd A B))) 0 17 (Int64.ofNat (B / Nat.gcd A B))).1 0 15 = 0 := by
            rw [l1, l1, sC_st]
          refine ⟨true, _, _, ?_, ?_, dI_tell (x := Int64.ofNat (A / Nat.gcd A B)) (y := Int64.ofNat (B / Nat.gcd A B)) (s1 := sC s1 0) (s2 := sR s2 0) (dI_s hI)⟩
          · simp (maxSteps := 1000000) (disch := omega) only [ne_eq, i_lt0, i_le0, i_eq0, i_n1, i_ltl, i_lel, i_eql, i_lt, i_le, i_eq, i_in, i_tn, i_add, i_addl, i_addr, i_mul, i_mulr, i_mull, if_true, if_false, eq_self, decide_eq_true_eq, decide_true, decide_false, Option.bind_some, Option.bind_none, ↓fu_ltd, ↓reduceIte, ↓ob_ite, ↓ob_asc, Bool.false_eq_true, Bool.true_eq_false, not_true_eq_false, not_false_eq_true, Nat.not_lt_zero, Nat.le_zero_eq, Nat.reduceAdd, Nat.reduceMul, Nat.reduceSub, Nat.reduceEqDiff, Nat.reduceLT, Nat.reduceLeDiff, sC_def, sR_def, sC_1, sC_2, sR_1, sR_2, sC_st, sR_st, sR_no, sR_refuse, and_self, true_and, and_true, false_and, and_false, f_X11_share, c_hasThing hC, ht, y1, y2, i_bit0, hb, e1, e3, e5, e7, z1]
          · simp (maxSteps := 1000000) (disch := omega) only [ne_eq, i_lt0, i_le0, i_eq0, i_n1, i_ltl, i_lel, i_eql, i_lt, i_le, i_eq, i_in, i_tn, i_add, i_addl, i_addr, i_mul, i_mulr, i_mull, if_true, if_false, eq_self, decide_eq_true_eq, decide_true, decide_false, Option.bind_some, Option.bind_none, ↓fu_ltd, ↓reduceIte, ↓ob_ite, ↓ob_asc, Bool.false_eq_true, Bool.true_eq_false, not_true_eq_false, not_false_eq_true, Nat.not_lt_zero, Nat.le_zero_eq, Nat.reduceAdd, Nat.reduceMul, Nat.reduceSub, Nat.reduceEqDiff, Nat.reduceLT, Nat.reduceLeDiff, sC_def, sR_def, sC_1, sC_2, sR_1, sR_2, sC_st, sR_st, sR_no, sR_refuse, and_self, true_and, and_true, false_and, and_false, f_X12_share, et, ht, ew, e8, e4, e2, e6, e9]
      · rw [decide_eq_false (fun z => h2 z.2)] at ew
        have y1 : f_X4_isHome 11 a1 = true := by rw [c_isHome, decide_eq_true h1]
        have y2 : f_X4_isThingSet s1 11 a2 = false := by rw [c_isTS hC hv, decide_eq_false h2]
        refine ⟨false, sC s1 5, sR s2 5, ?_, ?_, dI_s hI⟩
        · simp (maxSteps := 1000000) (disch := omega) only [ne_eq, i_lt0, i_le0, i_eq0, i_n1, i_ltl, i_lel, i_eql, i_lt, i_le, i_eq, i_in, i_tn, i_add, i_addl, i_addr, i_mul, i_mulr, i_mull, if_true, if_false, eq_self, decide_eq_true_eq, decide_true, decide_false, Option.bind_some, Option.bind_none, ↓fu_ltd, ↓reduceIte, ↓ob_ite, ↓ob_asc, Bool.false_eq_true, Bool.true_eq_false, not_true_eq_false, not_false_eq_true, Nat.not_lt_zero, Nat.le_zero_eq, Nat.reduceAdd, Nat.reduceMul, Nat.reduceSub, Nat.reduceEqDiff, Nat.reduceLT, Nat.reduceLeDiff, sC_def, sR_def, sC_1, sC_2, sR_1, sR_2, sC_st, sR_st, sR_no, sR_refuse, and_self, true_and, and_true, false_and, and_false, f_X11_share, c_hasThing hC, ht, y1, y2]
          try rfl
        · simp (maxSteps := 1000000) (disch := omega) only [ne_eq, i_lt0, i_le0, i_eq0, i_n1, i_ltl, i_lel, i_eql, i_lt, i_le, i_eq, i_in, i_tn, i_add, i_addl, i_addr, i_mul, i_mulr, i_mull, if_true, if_false, eq_self, decide_eq_true_eq, decide_true, decide_false, Option.bind_some, Option.bind_none, ↓fu_ltd, ↓reduceIte, ↓ob_ite, ↓ob_asc, Bool.false_eq_true, Bool.true_eq_false, not_true_eq_false, not_false_eq_true, Nat.not_lt_zero, Nat.le_zero_eq, Nat.reduceAdd, Nat.reduceMul, Nat.reduceSub, Nat.reduceEqDiff, Nat.reduceLT, Nat.reduceLeDiff, sC_def, sR_def, sC_1, sC_2, sR_1, sR_2, sC_st, sR_st, sR_no, sR_refuse, and_self, true_and, and_true, false_and, and_false, f_X12_share, et, ht, ew]
    · rw [decide_eq_false (fun z => h1 z.1)] at ew
      have y1 : f_X4_isHome 11 a1 = false := by rw [c_isHome, decide_eq_false h1]
      refine ⟨false, sC s1 5, sR s2 5, ?_, ?_, dI_s hI⟩
      · simp (maxSteps := 1000000) (disch := omega) only [ne_eq, i_lt0, i_le0, i_eq0, i_n1, i_ltl, i_lel, i_eql, i_lt, i_le, i_eq, i_in, i_tn, i_add, i_addl, i_addr, i_mul, i_mulr, i_mull, if_true, if_false, eq_self, decide_eq_true_eq, decide_true, decide_false, Option.bind_some, Option.bind_none, ↓fu_ltd, ↓reduceIte, ↓ob_ite, ↓ob_asc, Bool.false_eq_true, Bool.true_eq_false, not_true_eq_false, not_false_eq_true, Nat.not_lt_zero, Nat.le_zero_eq, Nat.reduceAdd, Nat.reduceMul, Nat.reduceSub, Nat.reduceEqDiff, Nat.reduceLT, Nat.reduceLeDiff, sC_def, sR_def, sC_1, sC_2, sR_1, sR_2, sC_st, sR_st, sR_no, sR_refuse, and_self, true_and, and_true, false_and, and_false, f_X11_share, c_hasThing hC, ht, y1]
        try rfl
      · simp (maxSteps := 1000000) (disch := omega) only [ne_eq, i_lt0, i_le0, i_eq0, i_n1, i_ltl, i_lel, i_eql, i_lt, i_le, i_eq, i_in, i_tn, i_add, i_addl, i_addr, i_mul, i_mulr, i_mull, if_true, if_false, eq_self, decide_eq_true_eq, decide_true, decide_false, Option.bind_some, Option.bind_none, ↓fu_ltd, ↓reduceIte, ↓ob_ite, ↓ob_asc, Bool.false_eq_true, Bool.true_eq_false, not_true_eq_false, not_false_eq_true, Nat.not_lt_zero, Nat.le_zero_eq, Nat.reduceAdd, Nat.reduceMul, Nat.reduceSub, Nat.reduceEqDiff, Nat.reduceLT, Nat.reduceLeDiff, sC_def, sR_def, sC_1, sC_2, sR_1, sR_2, sC_st, sR_st, sR_no, sR_refuse, and_self, true_and, and_true, false_and, and_false, f_X12_share, et, ht, ew]
  · refine ⟨false, sC s1 2, sR s2 2, ?_, ?_, dI_s hI⟩
    · simp (maxSteps := 1000000) (disch := omega) only [ne_eq, i_lt0, i_le0, i_eq0, i_n1, i_ltl, i_lel, i_eql, i_lt, i_le, i_eq, i_in, i_tn, i_add, i_addl, i_addr, i_mul, i_mulr, i_mull, if_true, if_false, eq_self, decide_eq_true_eq, decide_true, decide_false, Option.bind_some, Option.bind_none, ↓fu_ltd, ↓reduceIte, ↓ob_ite, ↓ob_asc, Bool.false_eq_true, Bool.true_eq_false, not_true_eq_false, not_false_eq_true, Nat.not_lt_zero, Nat.le_zero_eq, Nat.reduceAdd, Nat.reduceMul, Nat.reduceSub, Nat.reduceEqDiff, Nat.reduceLT, Nat.reduceLeDiff, sC_def, sR_def, sC_1, sC_2, sR_1, sR_2, sC_st, sR_st, sR_no, sR_refuse, and_self, true_and, and_true, false_and, and_false, f_X11_share, c_hasThing hC, h3]
      try rfl
    · simp (maxSteps := 1000000) (disch := omega) only [ne_eq, i_lt0, i_le0, i_eq0, i_n1, i_ltl, i_lel, i_eql, i_lt, i_le, i_eq, i_in, i_tn, i_add, i_addl, i_addr, i_mul, i_mulr, i_mull, if_true, if_false, eq_self, decide_eq_true_eq, decide_true, decide_false, Option.bind_some, Option.bind_none, ↓fu_ltd, ↓reduceIte, ↓ob_ite, ↓ob_asc, Bool.false_eq_true, Bool.true_eq_false, not_true_eq_false, not_false_eq_true, Nat.not_lt_zero, Nat.le_zero_eq, Nat.reduceAdd, Nat.reduceMul, Nat.reduceSub, Nat.reduceEqDiff, Nat.reduceLT, Nat.reduceLeDiff, sC_def, sR_def, sC_1, sC_2, sR_1, sR_2, sC_st, sR_st, sR_no, sR_refuse, and_self, true_and, and_true, false_and, and_false, f_X12_share, et, h3]
