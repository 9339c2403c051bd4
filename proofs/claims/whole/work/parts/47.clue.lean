/-! sums -/
def d_sum (f : Nat → Nat) : Nat → Nat
  | 0 => 0
  | n + 1 => d_sum f n + f n
theorem d_sum_s (f : Nat → Nat) (n : Nat) : d_sum f (n + 1) = d_sum f n + f n := rfl
theorem d_sum_le {f : Nat → Nat} {B : Nat} : ∀ {n}, (∀ k, k < n → f k ≤ B) → d_sum f n ≤ n * B
  | 0, _ => by simp [d_sum]
  | n + 1, h => by
    have h1 := d_sum_le (fun k (hk : k < n) => h k (by omega))
    have h2 := h n (by omega)
    rw [d_sum_s, Nat.succ_mul]
    omega
theorem d_sum_0 {f : Nat → Nat} : ∀ {n}, d_sum f n = 0 ↔ ∀ k, k < n → f k = 0
  | 0 => by simp [d_sum]
  | n + 1 => by
    rw [d_sum_s]
    constructor
    · intro h k hk
      by_cases e : k = n
      · subst e; omega
      · exact (d_sum_0 (n := n)).mp (by omega) k (by omega)
    · intro h
      rw [d_sum_0.mpr (fun k hk => h k (by omega)), h n (by omega)]
theorem d_sum_congr {f g : Nat → Nat} : ∀ {n}, (∀ k, k < n → f k = g k) → d_sum f n = d_sum g n
  | 0, _ => rfl
  | n + 1, h => by rw [d_sum_s, d_sum_s, d_sum_congr (fun k hk => h k (by omega)), h n (by omega)]
theorem d_sum_one {f : Nat → Nat} {w : Nat} : ∀ {n}, d_sum (fun k => if k = w then f k else 0) n = if w < n then f w else 0
  | 0 => by simp [d_sum]
  | n + 1 => by
    rw [d_sum_s, d_sum_one]
    by_cases e : n = w
    · subst e
      simp
    · by_cases h : w < n
      · rw [if_pos h, if_neg e, if_pos (by omega)]; rfl
      · rw [if_neg h, if_neg e, if_neg (by omega)]
/-! couples -/
def d_it (D : dD) (p q o k : Nat) : Bool := decide (d_by D o k = p) && decide (d_spy D o k = q)
def d_cnt (D : dD) (p q o : Nat) : Nat := d_sum (fun k => (d_it D p q o k).toNat) (D 0 3)
def d_wgt (D : dD) (p q o : Nat) : Nat := d_sum (fun k => if d_it D p q o k = true then D 3 k else 0) (D 0 3)
section CLU
variable {s : fu_S} {P : Nat} {D : dD} {t p q o k b : Nat}
theorem c_bearerBy (h : dC s P D) (hv : dV D) (ho : o < D 0 4) (hk : k < D 0 3) : f_X4_bearerBy s P (Int32.ofNat o) (Int32.ofNat k) = some (Int32.ofNat (d_by D o k)) := by
  have hp4 := hv.1
  have hb := dV_k hv hk
  have hk5 : k < 5 := by omega
  have hp0 : ¬ D 0 4 = 0 := by omega
  have e1 := (h.2.1 k hk).1
  have e2 := h.1.2.2.2.2.1
  simp (maxSteps := 1000000) (disch := omega) only [ne_eq, i_lt0, i_le0, i_eq0, i_n1, i_ltl, i_lel, i_eql, i_lt, i_le, i_eq, i_in, i_tn, i_add, i_addl, i_addr, i_mul, i_mulr, i_mull, if_true, if_false, eq_self, decide_eq_true_eq, decide_true, decide_false, Option.bind_some, Option.bind_none, ↓fu_ltd, ↓reduceIte, ↓ob_ite, ↓ob_asc, Bool.false_eq_true, Bool.true_eq_false, not_true_eq_false, not_false_eq_true, Nat.not_lt_zero, Nat.le_zero_eq, Nat.reduceAdd, Nat.reduceMul, Nat.reduceSub, Nat.reduceEqDiff, Nat.reduceLT, Nat.reduceLeDiff, sC_def, sR_def, sC_1, sC_2, sR_1, sR_2, sC_st, sR_st, sR_no, sR_refuse, and_self, true_and, and_true, false_and, and_false, f_X4_bearerBy, f_X4_bearerBySteps, c_hasKind h, hk, hk5, e1, e2, ho, hp0, i_rem]
  rfl
theorem c_spotBy (h : dC s P D) (hv : dV D) (ho : o < D 0 4) (hk : k < D 0 3) : f_X4_spotBy s P (Int32.ofNat o) (Int32.ofNat k) = some (Int32.ofNat (d_spy D o k)) := by
  have hp4 := hv.1
  have hb := dV_k hv hk
  have hk5 : k < 5 := by omega
  have e1 := (h.2.1 k hk).2.1
  simp (maxSteps := 1000000) (disch := omega) only [ne_eq, i_lt0, i_le0, i_eq0, i_n1, i_ltl, i_lel, i_eql, i_lt, i_le, i_eq, i_in, i_tn, i_add, i_addl, i_addr, i_mul, i_mulr, i_mull, if_true, if_false, eq_self, decide_eq_true_eq, decide_true, decide_false, Option.bind_some, Option.bind_none, ↓fu_ltd, ↓reduceIte, ↓ob_ite, ↓ob_asc, Bool.false_eq_true, Bool.true_eq_false, not_true_eq_false, not_false_eq_true, Nat.not_lt_zero, Nat.le_zero_eq, Nat.reduceAdd, Nat.reduceMul, Nat.reduceSub, Nat.reduceEqDiff, Nat.reduceLT, Nat.reduceLeDiff, sC_def, sR_def, sC_1, sC_2, sR_1, sR_2, sC_st, sR_st, sR_no, sR_refuse, and_self, true_and, and_true, false_and, and_false, f_X4_spotBy, f_X4_spotFrom, c_hasKind h, hk, hk5, e1, i_rem10]
  rfl
theorem c_itches (h : dC s P D) (hv : dV D) (ho : o < D 0 4) (hk : k < D 0 3) (hp : p < D 0 4) (hq : q < 10) : f_X1_itches s P (Int32.ofNat o) (Int32.ofNat k) (Int32.ofNat p) (Int32.ofNat q) = some (d_it D p q o k) := by
  have hp4 := hv.1
  have e1 := c_bearerBy h hv ho hk
  have e2 := c_spotBy h hv ho hk
  have e3 : d_by D o k < D 0 4 := d_by_lt ho
  have e4 : d_spy D o k < 10 := d_spy_lt
  unfold d_it
  by_cases h1 : d_by D o k = p
  · by_cases h2 : d_spy D o k = q
    · simp (maxSteps := 1000000) (disch := omega) only [ne_eq, i_lt0, i_le0, i_eq0, i_n1, i_ltl, i_lel, i_eql, i_lt, i_le, i_eq, i_in, i_tn, i_add, i_addl, i_addr, i_mul, i_mulr, i_mull, if_true, if_false, eq_self, decide_eq_true_eq, decide_true, decide_false, Option.bind_some, Option.bind_none, ↓fu_ltd, ↓reduceIte, ↓ob_ite, ↓ob_asc, Bool.false_eq_true, Bool.true_eq_false, not_true_eq_false, not_false_eq_true, Nat.not_lt_zero, Nat.le_zero_eq, Nat.reduceAdd, Nat.reduceMul, Nat.reduceSub, Nat.reduceEqDiff, Nat.reduceLT, Nat.reduceLeDiff, sC_def, sR_def, sC_1, sC_2, sR_1, sR_2, sC_st, sR_st, sR_no, sR_refuse, and_self, true_and, and_true, false_and, and_false, f_X1_itches, e1, e2, h1, h2, Bool.and_self]
    · simp (maxSteps := 1000000) (disch := omega) only [ne_eq, i_lt0, i_le0, i_eq0, i_n1, i_ltl, i_lel, i_eql, i_lt, i_le, i_eq, i_in, i_tn, i_add, i_addl, i_addr, i_mul, i_mulr, i_mull, if_true, if_false, eq_self, decide_eq_true_eq, decide_true, decide_false, Option.bind_some, Option.bind_none, ↓fu_ltd, ↓reduceIte, ↓ob_ite, ↓ob_asc, Bool.false_eq_true, Bool.true_eq_false, not_true_eq_false, not_false_eq_true, Nat.not_lt_zero, Nat.le_zero_eq, Nat.reduceAdd, Nat.reduceMul, Nat.reduceSub, Nat.reduceEqDiff, Nat.reduceLT, Nat.reduceLeDiff, sC_def, sR_def, sC_1, sC_2, sR_1, sR_2, sC_st, sR_st, sR_no, sR_refuse, and_self, true_and, and_true, false_and, and_false, f_X1_itches, e1, e2, h1, h2, Bool.and_false]
  · simp (maxSteps := 1000000) (disch := omega) only [ne_eq, i_lt0, i_le0, i_eq0, i_n1, i_ltl, i_lel, i_eql, i_lt, i_le, i_eq, i_in, i_tn, i_add, i_addl, i_addr, i_mul, i_mulr, i_mull, if_true, if_false, eq_self, decide_eq_true_eq, decide_true, decide_false, Option.bind_some, Option.bind_none, ↓fu_ltd, ↓reduceIte, ↓ob_ite, ↓ob_asc, Bool.false_eq_true, Bool.true_eq_false, not_true_eq_false, not_false_eq_true, Nat.not_lt_zero, Nat.le_zero_eq, Nat.reduceAdd, Nat.reduceMul, Nat.reduceSub, Nat.reduceEqDiff, Nat.reduceLT, Nat.reduceLeDiff, sC_def, sR_def, sC_1, sC_2, sR_1, sR_2, sC_st, sR_st, sR_no, sR_refuse, and_self, true_and, and_true, false_and, and_false, f_X1_itches, e1, h1, Bool.false_and]
theorem fu_b_n {x : Bool} : fu_b x = Int32.ofNat x.toNat := by cases x <;> rfl
theorem if_tf {x : Bool} : (if x = true then some true else some false) = some x := by cases x <;> rfl
theorem c_cnt1 (h : dC s P D) (hv : dV D) (ho : o < D 0 4) (hp : p < D 0 4) (hq : q < 10) : l_X1_countCouples_17 fu_N s P (Int32.ofNat p) (Int32.ofNat q) (Int32.ofNat b) (Int32.ofNat o) 0 = some (Int32.ofNat (b + d_cnt D p q o)) := by
  have hp4 := hv.1
  have c3 := h.1.2.2.2.1
  exact lp_up (l := fun f σ k => l_X1_countCouples_17 f s P (Int32.ofNat p) (Int32.ofNat q) (Int32.ofNat σ) (Int32.ofNat o) (Int32.ofNat k)) (N := D 0 3) (S := fun k => b + d_sum (fun k => (d_it D p q o k).toNat) k) (r := Int32.ofNat (b + d_cnt D p q o)) (fun n k hk => by
      have e1 := c_itches h hv ho hk hp hq
      show l_X1_countCouples_17 (n + 1) s P (Int32.ofNat p) (Int32.ofNat q) (Int32.ofNat (b + d_sum (fun k => (d_it D p q o k).toNat) k)) (Int32.ofNat o) (Int32.ofNat k) = _
      simp (maxSteps := 1000000) (disch := omega) only [ne_eq, i_lt0, i_le0, i_eq0, i_n1, i_ltl, i_lel, i_eql, i_lt, i_le, i_eq, i_in, i_tn, i_add, i_addl, i_addr, i_mul, i_mulr, i_mull, if_true, if_false, eq_self, decide_eq_true_eq, decide_true, decide_false, Option.bind_some, Option.bind_none, ↓fu_ltd, ↓reduceIte, ↓ob_ite, ↓ob_asc, Bool.false_eq_true, Bool.true_eq_false, not_true_eq_false, not_false_eq_true, Nat.not_lt_zero, Nat.le_zero_eq, Nat.reduceAdd, Nat.reduceMul, Nat.reduceSub, Nat.reduceEqDiff, Nat.reduceLT, Nat.reduceLeDiff, sC_def, sR_def, sC_1, sC_2, sR_1, sR_2, sC_st, sR_st, sR_no, sR_refuse, and_self, true_and, and_true, false_and, and_false, l_X1_countCouples_17, f_X4_kinds, c3, hk, e1, if_tf, fu_b_n, i_add1, d_sum_s, Nat.add_assoc]
      cases d_it D p q o k <;> rfl) (fun n => by
      show l_X1_countCouples_17 (n + 1) s P (Int32.ofNat p) (Int32.ofNat q) (Int32.ofNat (b + d_cnt D p q o)) (Int32.ofNat o) (Int32.ofNat (D 0 3)) = _
      simp (maxSteps := 1000000) (disch := omega) only [ne_eq, i_lt0, i_le0, i_eq0, i_n1, i_ltl, i_lel, i_eql, i_lt, i_le, i_eq, i_in, i_tn, i_add, i_addl, i_addr, i_mul, i_mulr, i_mull, if_true, if_false, eq_self, decide_eq_true_eq, decide_true, decide_false, Option.bind_some, Option.bind_none, ↓fu_ltd, ↓reduceIte, ↓ob_ite, ↓ob_asc, Bool.false_eq_true, Bool.true_eq_false, not_true_eq_false, not_false_eq_true, Nat.not_lt_zero, Nat.le_zero_eq, Nat.reduceAdd, Nat.reduceMul, Nat.reduceSub, Nat.reduceEqDiff, Nat.reduceLT, Nat.reduceLeDiff, sC_def, sR_def, sC_1, sC_2, sR_1, sR_2, sC_st, sR_st, sR_no, sR_refuse, and_self, true_and, and_true, false_and, and_false, l_X1_countCouples_17, f_X4_kinds, c3, Nat.lt_irrefl]) (f := fu_N) (k := 0) (by omega) (fu_N_gt (by omega))
theorem c_cnt (h : dC s P D) (hv : dV D) (hp : p < D 0 4) (hq : q < 10) : f_X1_countCouples s P (Int32.ofNat p) (Int32.ofNat q) = some (Int32.ofNat (d_sum (d_cnt D p q) (D 0 4))) := by
  have hp4 := hv.1
  have c4 := h.1.2.2.2.2.1
  have hL : l_X1_countCouples_5 fu_N s P (Int32.ofNat p) (Int32.ofNat q) 0 0 = some (Int32.ofNat (d_sum (d_cnt D p q) (D 0 4))) := lp_up (l := fun f σ k => l_X1_countCouples_5 f s P (Int32.ofNat p) (Int32.ofNat q) (Int32.ofNat σ) (Int32.ofNat k)) (N := D 0 4) (S := fun k => d_sum (d_cnt D p q) k) (r := Int32.ofNat (d_sum (d_cnt D p q) (D 0 4))) (fun n k hk => by
      have e1 := c_cnt1 (b := d_sum (d_cnt D p q) k) h hv hk hp hq
      show l_X1_countCouples_5 (n + 1) s P (Int32.ofNat p) (Int32.ofNat q) (Int32.ofNat (d_sum (d_cnt D p q) k)) (Int32.ofNat k) = _
      simp (maxSteps := 1000000) (disch := omega) only [ne_eq, i_lt0, i_le0, i_eq0, i_n1, i_ltl, i_lel, i_eql, i_lt, i_le, i_eq, i_in, i_tn, i_add, i_addl, i_addr, i_mul, i_mulr, i_mull, if_true, if_false, eq_self, decide_eq_true_eq, decide_true, decide_false, Option.bind_some, Option.bind_none, ↓fu_ltd, ↓reduceIte, ↓ob_ite, ↓ob_asc, Bool.false_eq_true, Bool.true_eq_false, not_true_eq_false, not_false_eq_true, Nat.not_lt_zero, Nat.le_zero_eq, Nat.reduceAdd, Nat.reduceMul, Nat.reduceSub, Nat.reduceEqDiff, Nat.reduceLT, Nat.reduceLeDiff, sC_def, sR_def, sC_1, sC_2, sR_1, sR_2, sC_st, sR_st, sR_no, sR_refuse, and_self, true_and, and_true, false_and, and_false, l_X1_countCouples_5, f_X4_people, c4, hk, e1, i_add1, d_sum_s]) (fun n => by
      show l_X1_countCouples_5 (n + 1) s P (Int32.ofNat p) (Int32.ofNat q) (Int32.ofNat (d_sum (d_cnt D p q) (D 0 4))) (Int32.ofNat (D 0 4)) = _
      simp (maxSteps := 1000000) (disch := omega) only [ne_eq, i_lt0, i_le0, i_eq0, i_n1, i_ltl, i_lel, i_eql, i_lt, i_le, i_eq, i_in, i_tn, i_add, i_addl, i_addr, i_mul, i_mulr, i_mull, if_true, if_false, eq_self, decide_eq_true_eq, decide_true, decide_false, Option.bind_some, Option.bind_none, ↓fu_ltd, ↓reduceIte, ↓ob_ite, ↓ob_asc, Bool.false_eq_true, Bool.true_eq_false, not_true_eq_false, not_false_eq_true, Nat.not_lt_zero, Nat.le_zero_eq, Nat.reduceAdd, Nat.reduceMul, Nat.reduceSub, Nat.reduceEqDiff, Nat.reduceLT, Nat.reduceLeDiff, sC_def, sR_def, sC_1, sC_2, sR_1, sR_2, sC_st, sR_st, sR_no, sR_refuse, and_self, true_and, and_true, false_and, and_false, l_X1_countCouples_5, f_X4_people, c4, Nat.lt_irrefl]) (f := fu_N) (k := 0) (by omega) (fu_N_gt (by omega))
  simp (maxSteps := 1000000) (disch := omega) only [ne_eq, i_lt0, i_le0, i_eq0, i_n1, i_ltl, i_lel, i_eql, i_lt, i_le, i_eq, i_in, i_tn, i_add, i_addl, i_addr, i_mul, i_mulr, i_mull, if_true, if_false, eq_self, decide_eq_true_eq, decide_true, decide_false, Option.bind_some, Option.bind_none, ↓fu_ltd, ↓reduceIte, ↓ob_ite, ↓ob_asc, Bool.false_eq_true, Bool.true_eq_false, not_true_eq_false, not_false_eq_true, Nat.not_lt_zero, Nat.le_zero_eq, Nat.reduceAdd, Nat.reduceMul, Nat.reduceSub, Nat.reduceEqDiff, Nat.reduceLT, Nat.reduceLeDiff, sC_def, sR_def, sC_1, sC_2, sR_1, sR_2, sC_st, sR_st, sR_no, sR_refuse, and_self, true_and, and_true, false_and, and_false, f_X1_countCouples, hL]
theorem c_wgt (h : dC s P D) (hv : dV D) (ho : o < D 0 4) (hp : p < D 0 4) (hq : q < 10) : f_X1_weightOf s P (Int32.ofNat p) (Int32.ofNat q) (Int32.ofNat o) = some (Int32.ofNat (d_wgt D p q o)) := by
  have hp4 := hv.1
  have c3 := h.1.2.2.2.1
  have hL : l_X1_weightOf_6 fu_N s P (Int32.ofNat p) (Int32.ofNat q) (Int32.ofNat o) 0 0 = some (Int32.ofNat (d_wgt D p q o)) := lp_up (l := fun f σ k => l_X1_weightOf_6 f s P (Int32.ofNat p) (Int32.ofNat q) (Int32.ofNat o) (Int32.ofNat σ) (Int32.ofNat k)) (N := D 0 3) (S := fun k => d_sum (fun k => if d_it D p q o k = true then D 3 k else 0) k) (r := Int32.ofNat (d_wgt D p q o)) (fun n k hk => by
      have e1 := c_itches h hv ho hk hp hq
      have hk5 : k < 5 := by omega
      have e2 := (h.2.1 k hk).2.2
      have z0 : ¬ ((2 : Int32) = 0) := by decide
      have z1 : ¬ ((2 : Int32) = 1) := by decide
      have e3 : f_X4_weightOfKind s P (Int32.ofNat k) = some (Int32.ofNat (D 3 k)) := by
        simp (maxSteps := 1000000) (disch := omega) only [ne_eq, i_lt0, i_le0, i_eq0, i_n1, i_ltl, i_lel, i_eql, i_lt, i_le, i_eq, i_in, i_tn, i_add, i_addl, i_addr, i_mul, i_mulr, i_mull, if_true, if_false, eq_self, decide_eq_true_eq, decide_true, decide_false, Option.bind_some, Option.bind_none, ↓fu_ltd, ↓reduceIte, ↓ob_ite, ↓ob_asc, Bool.false_eq_true, Bool.true_eq_false, not_true_eq_false, not_false_eq_true, Nat.not_lt_zero, Nat.le_zero_eq, Nat.reduceAdd, Nat.reduceMul, Nat.reduceSub, Nat.reduceEqDiff, Nat.reduceLT, Nat.reduceLeDiff, sC_def, sR_def, sC_1, sC_2, sR_1, sR_2, sC_st, sR_st, sR_no, sR_refuse, and_self, true_and, and_true, false_and, and_false, f_X4_weightOfKind, f_X4_ofKind, c_hasKind h, hk, hk5, e2, z0, z1]
      show l_X1_weightOf_6 (n + 1) s P (Int32.ofNat p) (Int32.ofNat q) (Int32.ofNat o) (Int32.ofNat (d_sum (fun k => if d_it D p q o k = true then D 3 k else 0) k)) (Int32.ofNat k) = _
      cases hz : d_it D p q o k
      · have i_add0 : ∀ a, Int32.ofNat a + 0 = Int32.ofNat a := fun a => i_add (b := 0)
        simp (maxSteps := 1000000) (disch := omega) only [ne_eq, i_lt0, i_le0, i_eq0, i_n1, i_ltl, i_lel, i_eql, i_lt, i_le, i_eq, i_in, i_tn, i_add, i_addl, i_addr, i_mul, i_mulr, i_mull, if_true, if_false, eq_self, decide_eq_true_eq, decide_true, decide_false, Option.bind_some, Option.bind_none, ↓fu_ltd, ↓reduceIte, ↓ob_ite, ↓ob_asc, Bool.false_eq_true, Bool.true_eq_false, not_true_eq_false, not_false_eq_true, Nat.not_lt_zero, Nat.le_zero_eq, Nat.reduceAdd, Nat.reduceMul, Nat.reduceSub, Nat.reduceEqDiff, Nat.reduceLT, Nat.reduceLeDiff, sC_def, sR_def, sC_1, sC_2, sR_1, sR_2, sC_st, sR_st, sR_no, sR_refuse, and_self, true_and, and_true, false_and, and_false, l_X1_weightOf_6, f_X4_kinds, c3, hk, e1, hz, i_add0, i_add1, d_sum_s, Nat.add_zero]
      · simp (maxSteps := 1000000) (disch := omega) only [ne_eq, i_lt0, i_le0, i_eq0, i_n1, i_ltl, i_lel, i_eql, i_lt, i_le, i_eq, i_in, i_tn, i_add, i_addl, i_addr, i_mul, i_mulr, i_mull, if_true, if_false, eq_self, decide_eq_true_eq, decide_true, decide_false, Option.bind_some, Option.bind_none, ↓fu_ltd, ↓reduceIte, ↓ob_ite, ↓ob_asc, Bool.false_eq_true, Bool.true_eq_false, not_true_eq_false, not_false_eq_true, Nat.not_lt_zero, Nat.le_zero_eq, Nat.reduceAdd, Nat.reduceMul, Nat.reduceSub, Nat.reduceEqDiff, Nat.reduceLT, Nat.reduceLeDiff, sC_def, sR_def, sC_1, sC_2, sR_1, sR_2, sC_st, sR_st, sR_no, sR_refuse, and_self, true_and, and_true, false_and, and_false, l_X1_weightOf_6, f_X4_kinds, c3, hk, e1, hz, e3, i_add1, d_sum_s]) (fun n => by
      show l_X1_weightOf_6 (n + 1) s P (Int32.ofNat p) (Int32.ofNat q) (Int32.ofNat o) (Int32.ofNat (d_wgt D p q o)) (Int32.ofNat (D 0 3)) = _
      simp (maxSteps := 1000000) (disch := omega) only [ne_eq, i_lt0, i_le0, i_eq0, i_n1, i_ltl, i_lel, i_eql, i_lt, i_le, i_eq, i_in, i_tn, i_add, i_addl, i_addr, i_mul, i_mulr, i_mull, if_true, if_false, eq_self, decide_eq_true_eq, decide_true, decide_false, Option.bind_some, Option.bind_none, ↓fu_ltd, ↓reduceIte, ↓ob_ite, ↓ob_asc, Bool.false_eq_true, Bool.true_eq_false, not_true_eq_false, not_false_eq_true, Nat.not_lt_zero, Nat.le_zero_eq, Nat.reduceAdd, Nat.reduceMul, Nat.reduceSub, Nat.reduceEqDiff, Nat.reduceLT, Nat.reduceLeDiff, sC_def, sR_def, sC_1, sC_2, sR_1, sR_2, sC_st, sR_st, sR_no, sR_refuse, and_self, true_and, and_true, false_and, and_false, l_X1_weightOf_6, f_X4_kinds, c3, Nat.lt_irrefl]) (f := fu_N) (k := 0) (by omega) (fu_N_gt (by omega))
  simp (maxSteps := 1000000) (disch := omega) only [ne_eq, i_lt0, i_le0, i_eq0, i_n1, i_ltl, i_lel, i_eql, i_lt, i_le, i_eq, i_in, i_tn, i_add, i_addl, i_addr, i_mul, i_mulr, i_mull, if_true, if_false, eq_self, decide_eq_true_eq, decide_true, decide_false, Option.bind_some, Option.bind_none, ↓fu_ltd, ↓reduceIte, ↓ob_ite, ↓ob_asc, Bool.false_eq_true, Bool.true_eq_false, not_true_eq_false, not_false_eq_true, Nat.not_lt_zero, Nat.le_zero_eq, Nat.reduceAdd, Nat.reduceMul, Nat.reduceSub, Nat.reduceEqDiff, Nat.reduceLT, Nat.reduceLeDiff, sC_def, sR_def, sC_1, sC_2, sR_1, sR_2, sC_st, sR_st, sR_no, sR_refuse, and_self, true_and, and_true, false_and, and_false, f_X1_weightOf, hL]
end CLU
