/-! the sets, one loop each -/
theorem fu_N_gt {n : Nat} (h : n ≤ 4000) : n < fu_N := by show n < 4096; omega
theorem d_set_s (p : Nat → Bool) (k : Nat) : d_set p (k + 1) = d_set p k ||| (if p k then 2 ^ k else 0) := rfl
theorem d_set_bd (p : Nat → Bool) {n : Nat} (h : n ≤ 10) : d_set p n < 1024 := Nat.lt_of_lt_of_le (d_set_lt p n) (Nat.pow_le_pow_right (by omega) h)
section SETS
variable {s : fu_S} {P : Nat} {D : dD} {t p q o k : Nat}
theorem c_upSet (h : dC s P D) (hv : dV D) : f_X4_upSet s P = some (Int32.ofNat (d_set (fun t => d_isUp D t) (D 0 5))) := by
  have hp4 := hv.1
  have c5 := h.1.2.2.2.2.2
  have c4 := h.1.2.2.2.2.1
  have hL := lp_up (l := fun n σ k => l_X4_upSet_4 n s P (Int32.ofNat σ) (Int32.ofNat k)) (N := D 0 5) (fun k => d_set (fun t => d_isUp D t) k) (r := Int32.ofNat (d_set (fun t => d_isUp D t) (D 0 5)))
    (fun n k hk => by
      have hk8 : k < 31 := by omega
      have e1 := c_isUp h hv hk
      rw [l_X4_upSet_4, d_set_s]
      cases hz : (fun t => d_isUp D t) k
      · have hzfalse := hz
        try dsimp only at hzfalse
        simp (disch := omega) only [ne_eq, i_lt0, i_le0, i_eq0, i_n1, i_ltl, i_lel, i_eql, i_lt, i_le, i_eq, i_in, i_tn, i_add, i_addl, i_addr, i_mul, i_mulr, i_mull, if_true, if_false, eq_self, decide_eq_true_eq, decide_true, decide_false, Option.bind_some, Option.bind_none, fu_lt, Bool.false_eq_true, Bool.true_eq_false, not_true_eq_false, not_false_eq_true, Nat.not_lt_zero, Nat.le_zero_eq, Nat.reduceAdd, Nat.reduceMul, Nat.reduceSub, Nat.reduceEqDiff, Nat.reduceLT, Nat.reduceLeDiff, sC_def, sR_def, sC_1, sC_2, sR_1, sR_2, sC_st, sR_st, sR_no, sR_refuse, and_self, true_and, and_true, false_and, and_false, hk, i_or, i_shl, hzfalse, c5, e1]
        try simp
        try rfl
      · have hztrue := hz
        try dsimp only at hztrue
        simp (disch := omega) only [ne_eq, i_lt0, i_le0, i_eq0, i_n1, i_ltl, i_lel, i_eql, i_lt, i_le, i_eq, i_in, i_tn, i_add, i_addl, i_addr, i_mul, i_mulr, i_mull, if_true, if_false, eq_self, decide_eq_true_eq, decide_true, decide_false, Option.bind_some, Option.bind_none, fu_lt, Bool.false_eq_true, Bool.true_eq_false, not_true_eq_false, not_false_eq_true, Nat.not_lt_zero, Nat.le_zero_eq, Nat.reduceAdd, Nat.reduceMul, Nat.reduceSub, Nat.reduceEqDiff, Nat.reduceLT, Nat.reduceLeDiff, sC_def, sR_def, sC_1, sC_2, sR_1, sR_2, sC_st, sR_st, sR_no, sR_refuse, and_self, true_and, and_true, false_and, and_false, hk, i_or, i_shl, hztrue, c5, e1]
        try simp
        try rfl
    ) (fun n => by
      rw [l_X4_upSet_4]
      simp (disch := omega) only [ne_eq, i_lt0, i_le0, i_eq0, i_n1, i_ltl, i_lel, i_eql, i_lt, i_le, i_eq, i_in, i_tn, i_add, i_addl, i_addr, i_mul, i_mulr, i_mull, if_true, if_false, eq_self, decide_eq_true_eq, decide_true, decide_false, Option.bind_some, Option.bind_none, fu_lt, Bool.false_eq_true, Bool.true_eq_false, not_true_eq_false, not_false_eq_true, Nat.not_lt_zero, Nat.le_zero_eq, Nat.reduceAdd, Nat.reduceMul, Nat.reduceSub, Nat.reduceEqDiff, Nat.reduceLT, Nat.reduceLeDiff, sC_def, sR_def, sC_1, sC_2, sR_1, sR_2, sC_st, sR_st, sR_no, sR_refuse, and_self, true_and, and_true, false_and, and_false, Nat.lt_irrefl, c5])
    (f := fu_N) (k := 0) (by omega) (fu_N_gt (by omega))
  unfold f_X4_upSet
  exact (congrArg (fun z => Option.bind z _) hL).trans rfl
theorem c_scrSet (h : dC s P D) (hv : dV D) : f_X4_scratchedSet s P = some (Int32.ofNat (d_set (fun t => decide (D 11 t ≠ 0)) (D 0 5))) := by
  have hp4 := hv.1
  have c5 := h.1.2.2.2.2.2
  have c4 := h.1.2.2.2.2.1
  have hL := lp_up (l := fun n σ k => l_X4_scratchedSet_4 n s P (Int32.ofNat σ) (Int32.ofNat k)) (N := D 0 5) (fun k => d_set (fun t => decide (D 11 t ≠ 0)) k) (r := Int32.ofNat (d_set (fun t => decide (D 11 t ≠ 0)) (D 0 5)))
    (fun n k hk => by
      have hk8 : k < 31 := by omega
      have e1 := c_isScratched h hv hk
      rw [l_X4_scratchedSet_4, d_set_s]
      cases hz : (fun t => decide (D 11 t ≠ 0)) k
      · have hzfalse := hz
        try dsimp only at hzfalse
        simp (disch := omega) only [ne_eq, i_lt0, i_le0, i_eq0, i_n1, i_ltl, i_lel, i_eql, i_lt, i_le, i_eq, i_in, i_tn, i_add, i_addl, i_addr, i_mul, i_mulr, i_mull, if_true, if_false, eq_self, decide_eq_true_eq, decide_true, decide_false, Option.bind_some, Option.bind_none, fu_lt, Bool.false_eq_true, Bool.true_eq_false, not_true_eq_false, not_false_eq_true, Nat.not_lt_zero, Nat.le_zero_eq, Nat.reduceAdd, Nat.reduceMul, Nat.reduceSub, Nat.reduceEqDiff, Nat.reduceLT, Nat.reduceLeDiff, sC_def, sR_def, sC_1, sC_2, sR_1, sR_2, sC_st, sR_st, sR_no, sR_refuse, and_self, true_and, and_true, false_and, and_false, hk, i_or, i_shl, hzfalse, c5, e1]
        try simp
        try rfl
      · have hztrue := hz
        try dsimp only at hztrue
        simp (disch := omega) only [ne_eq, i_lt0, i_le0, i_eq0, i_n1, i_ltl, i_lel, i_eql, i_lt, i_le, i_eq, i_in, i_tn, i_add, i_addl, i_addr, i_mul, i_mulr, i_mull, if_true, if_false, eq_self, decide_eq_true_eq, decide_true, decide_false, Option.bind_some, Option.bind_none, fu_lt, Bool.false_eq_true, Bool.true_eq_false, not_true_eq_false, not_false_eq_true, Nat.not_lt_zero, Nat.le_zero_eq, Nat.reduceAdd, Nat.reduceMul, Nat.reduceSub, Nat.reduceEqDiff, Nat.reduceLT, Nat.reduceLeDiff, sC_def, sR_def, sC_1, sC_2, sR_1, sR_2, sC_st, sR_st, sR_no, sR_refuse, and_self, true_and, and_true, false_and, and_false, hk, i_or, i_shl, hztrue, c5, e1]
        try simp
        try rfl
    ) (fun n => by
      rw [l_X4_scratchedSet_4]
      simp (disch := omega) only [ne_eq, i_lt0, i_le0, i_eq0, i_n1, i_ltl, i_lel, i_eql, i_lt, i_le, i_eq, i_in, i_tn, i_add, i_addl, i_addr, i_mul, i_mulr, i_mull, if_true, if_false, eq_self, decide_eq_true_eq, decide_true, decide_false, Option.bind_some, Option.bind_none, fu_lt, Bool.false_eq_true, Bool.true_eq_false, not_true_eq_false, not_false_eq_true, Nat.not_lt_zero, Nat.le_zero_eq, Nat.reduceAdd, Nat.reduceMul, Nat.reduceSub, Nat.reduceEqDiff, Nat.reduceLT, Nat.reduceLeDiff, sC_def, sR_def, sC_1, sC_2, sR_1, sR_2, sC_st, sR_st, sR_no, sR_refuse, and_self, true_and, and_true, false_and, and_false, Nat.lt_irrefl, c5])
    (f := fu_N) (k := 0) (by omega) (fu_N_gt (by omega))
  unfold f_X4_scratchedSet
  exact (congrArg (fun z => Option.bind z _) hL).trans rfl
theorem c_fndSet (h : dC s P D) (hv : dV D) : f_X4_foundSet s P = some (Int32.ofNat (d_set (fun t => d_isF D t) (D 0 5))) := by
  have hp4 := hv.1
  have c5 := h.1.2.2.2.2.2
  have c4 := h.1.2.2.2.2.1
  have hL := lp_up (l := fun n σ k => l_X4_foundSet_4 n s P (Int32.ofNat σ) (Int32.ofNat k)) (N := D 0 5) (fun k => d_set (fun t => d_isF D t) k) (r := Int32.ofNat (d_set (fun t => d_isF D t) (D 0 5)))
    (fun n k hk => by
      have hk8 : k < 31 := by omega
      have e1 := c_isFound h hv hk
      rw [l_X4_foundSet_4, d_set_s]
      cases hz : (fun t => d_isF D t) k
      · have hzfalse := hz
        try dsimp only at hzfalse
        simp (disch := omega) only [ne_eq, i_lt0, i_le0, i_eq0, i_n1, i_ltl, i_lel, i_eql, i_lt, i_le, i_eq, i_in, i_tn, i_add, i_addl, i_addr, i_mul, i_mulr, i_mull, if_true, if_false, eq_self, decide_eq_true_eq, decide_true, decide_false, Option.bind_some, Option.bind_none, fu_lt, Bool.false_eq_true, Bool.true_eq_false, not_true_eq_false, not_false_eq_true, Nat.not_lt_zero, Nat.le_zero_eq, Nat.reduceAdd, Nat.reduceMul, Nat.reduceSub, Nat.reduceEqDiff, Nat.reduceLT, Nat.reduceLeDiff, sC_def, sR_def, sC_1, sC_2, sR_1, sR_2, sC_st, sR_st, sR_no, sR_refuse, and_self, true_and, and_true, false_and, and_false, hk, i_or, i_shl, hzfalse, c5, e1]
        try simp
        try rfl
      · have hztrue := hz
        try dsimp only at hztrue
        simp (disch := omega) only [ne_eq, i_lt0, i_le0, i_eq0, i_n1, i_ltl, i_lel, i_eql, i_lt, i_le, i_eq, i_in, i_tn, i_add, i_addl, i_addr, i_mul, i_mulr, i_mull, if_true, if_false, eq_self, decide_eq_true_eq, decide_true, decide_false, Option.bind_some, Option.bind_none, fu_lt, Bool.false_eq_true, Bool.true_eq_false, not_true_eq_false, not_false_eq_true, Nat.not_lt_zero, Nat.le_zero_eq, Nat.reduceAdd, Nat.reduceMul, Nat.reduceSub, Nat.reduceEqDiff, Nat.reduceLT, Nat.reduceLeDiff, sC_def, sR_def, sC_1, sC_2, sR_1, sR_2, sC_st, sR_st, sR_no, sR_refuse, and_self, true_and, and_true, false_and, and_false, hk, i_or, i_shl, hztrue, c5, e1]
        try simp
        try rfl
    ) (fun n => by
      rw [l_X4_foundSet_4]
      simp (disch := omega) only [ne_eq, i_lt0, i_le0, i_eq0, i_n1, i_ltl, i_lel, i_eql, i_lt, i_le, i_eq, i_in, i_tn, i_add, i_addl, i_addr, i_mul, i_mulr, i_mull, if_true, if_false, eq_self, decide_eq_true_eq, decide_true, decide_false, Option.bind_some, Option.bind_none, fu_lt, Bool.false_eq_true, Bool.true_eq_false, not_true_eq_false, not_false_eq_true, Nat.not_lt_zero, Nat.le_zero_eq, Nat.reduceAdd, Nat.reduceMul, Nat.reduceSub, Nat.reduceEqDiff, Nat.reduceLT, Nat.reduceLeDiff, sC_def, sR_def, sC_1, sC_2, sR_1, sR_2, sC_st, sR_st, sR_no, sR_refuse, and_self, true_and, and_true, false_and, and_false, Nat.lt_irrefl, c5])
    (f := fu_N) (k := 0) (by omega) (fu_N_gt (by omega))
  unfold f_X4_foundSet
  exact (congrArg (fun z => Option.bind z _) hL).trans rfl
theorem c_ableSet (h : dC s P D) (hv : dV D) (ht : t < D 0 5) : f_X4_ableSetFor s P (Int32.ofNat t) = some (Int32.ofNat (d_set (fun p => d_able D p t) (D 0 4))) := by
  have hp4 := hv.1
  have c5 := h.1.2.2.2.2.2
  have c4 := h.1.2.2.2.2.1
  have hL := lp_up (l := fun n σ k => l_X4_ableSetFor_4 n s P (Int32.ofNat t) (Int32.ofNat σ) (Int32.ofNat k)) (N := D 0 4) (fun k => d_set (fun p => d_able D p t) k) (r := Int32.ofNat (d_set (fun p => d_able D p t) (D 0 4)))
    (fun n k hk => by
      have hk8 : k < 31 := by omega
      have e1 := c_isAble h hv ht hk
      rw [l_X4_ableSetFor_4, d_set_s]
      cases hz : (fun p => d_able D p t) k
      · have hzfalse := hz
        try dsimp only at hzfalse
        simp (disch := omega) only [ne_eq, i_lt0, i_le0, i_eq0, i_n1, i_ltl, i_lel, i_eql, i_lt, i_le, i_eq, i_in, i_tn, i_add, i_addl, i_addr, i_mul, i_mulr, i_mull, if_true, if_false, eq_self, decide_eq_true_eq, decide_true, decide_false, Option.bind_some, Option.bind_none, fu_lt, Bool.false_eq_true, Bool.true_eq_false, not_true_eq_false, not_false_eq_true, Nat.not_lt_zero, Nat.le_zero_eq, Nat.reduceAdd, Nat.reduceMul, Nat.reduceSub, Nat.reduceEqDiff, Nat.reduceLT, Nat.reduceLeDiff, sC_def, sR_def, sC_1, sC_2, sR_1, sR_2, sC_st, sR_st, sR_no, sR_refuse, and_self, true_and, and_true, false_and, and_false, hk, i_or, i_shl, hzfalse, c4, e1]
        try simp
        try rfl
      · have hztrue := hz
        try dsimp only at hztrue
        simp (disch := omega) only [ne_eq, i_lt0, i_le0, i_eq0, i_n1, i_ltl, i_lel, i_eql, i_lt, i_le, i_eq, i_in, i_tn, i_add, i_addl, i_addr, i_mul, i_mulr, i_mull, if_true, if_false, eq_self, decide_eq_true_eq, decide_true, decide_false, Option.bind_some, Option.bind_none, fu_lt, Bool.false_eq_true, Bool.true_eq_false, not_true_eq_false, not_false_eq_true, Nat.not_lt_zero, Nat.le_zero_eq, Nat.reduceAdd, Nat.reduceMul, Nat.reduceSub, Nat.reduceEqDiff, Nat.reduceLT, Nat.reduceLeDiff, sC_def, sR_def, sC_1, sC_2, sR_1, sR_2, sC_st, sR_st, sR_no, sR_refuse, and_self, true_and, and_true, false_and, and_false, hk, i_or, i_shl, hztrue, c4, e1]
        try simp
        try rfl
    ) (fun n => by
      rw [l_X4_ableSetFor_4]
      simp (disch := omega) only [ne_eq, i_lt0, i_le0, i_eq0, i_n1, i_ltl, i_lel, i_eql, i_lt, i_le, i_eq, i_in, i_tn, i_add, i_addl, i_addr, i_mul, i_mulr, i_mull, if_true, if_false, eq_self, decide_eq_true_eq, decide_true, decide_false, Option.bind_some, Option.bind_none, fu_lt, Bool.false_eq_true, Bool.true_eq_false, not_true_eq_false, not_false_eq_true, Nat.not_lt_zero, Nat.le_zero_eq, Nat.reduceAdd, Nat.reduceMul, Nat.reduceSub, Nat.reduceEqDiff, Nat.reduceLT, Nat.reduceLeDiff, sC_def, sR_def, sC_1, sC_2, sR_1, sR_2, sC_st, sR_st, sR_no, sR_refuse, and_self, true_and, and_true, false_and, and_false, Nat.lt_irrefl, c4])
    (f := fu_N) (k := 0) (by omega) (fu_N_gt (by omega))
  unfold f_X4_ableSetFor
  exact (congrArg (fun z => Option.bind z _) hL).trans rfl
theorem c_upSetFor (h : dC s P D) (hv : dV D) (hp : p < D 0 4) : f_X4_upSetFor s P (Int32.ofNat p) = some (Int32.ofNat (d_set (fun t => d_isUp D t && d_able D p t) (D 0 5))) := by
  have hp4 := hv.1
  have c5 := h.1.2.2.2.2.2
  have c4 := h.1.2.2.2.2.1
  have hL := lp_up (l := fun n σ k => l_X4_upSetFor_4 n s P (Int32.ofNat p) (Int32.ofNat σ) (Int32.ofNat k)) (N := D 0 5) (fun k => d_set (fun t => d_isUp D t && d_able D p t) k) (r := Int32.ofNat (d_set (fun t => d_isUp D t && d_able D p t) (D 0 5)))
    (fun n k hk => by
      have hk8 : k < 31 := by omega
      have e1 := c_canScratch h hv hk hp
      rw [l_X4_upSetFor_4, d_set_s]
      cases hz : (fun t => d_isUp D t && d_able D p t) k
      · have hzfalse := hz
        try dsimp only at hzfalse
        simp (disch := omega) only [ne_eq, i_lt0, i_le0, i_eq0, i_n1, i_ltl, i_lel, i_eql, i_lt, i_le, i_eq, i_in, i_tn, i_add, i_addl, i_addr, i_mul, i_mulr, i_mull, if_true, if_false, eq_self, decide_eq_true_eq, decide_true, decide_false, Option.bind_some, Option.bind_none, fu_lt, Bool.false_eq_true, Bool.true_eq_false, not_true_eq_false, not_false_eq_true, Nat.not_lt_zero, Nat.le_zero_eq, Nat.reduceAdd, Nat.reduceMul, Nat.reduceSub, Nat.reduceEqDiff, Nat.reduceLT, Nat.reduceLeDiff, sC_def, sR_def, sC_1, sC_2, sR_1, sR_2, sC_st, sR_st, sR_no, sR_refuse, and_self, true_and, and_true, false_and, and_false, hk, i_or, i_shl, hzfalse, c5, e1]
        try simp
        try rfl
      · have hztrue := hz
        try dsimp only at hztrue
        simp (disch := omega) only [ne_eq, i_lt0, i_le0, i_eq0, i_n1, i_ltl, i_lel, i_eql, i_lt, i_le, i_eq, i_in, i_tn, i_add, i_addl, i_addr, i_mul, i_mulr, i_mull, if_true, if_false, eq_self, decide_eq_true_eq, decide_true, decide_false, Option.bind_some, Option.bind_none, fu_lt, Bool.false_eq_true, Bool.true_eq_false, not_true_eq_false, not_false_eq_true, Nat.not_lt_zero, Nat.le_zero_eq, Nat.reduceAdd, Nat.reduceMul, Nat.reduceSub, Nat.reduceEqDiff, Nat.reduceLT, Nat.reduceLeDiff, sC_def, sR_def, sC_1, sC_2, sR_1, sR_2, sC_st, sR_st, sR_no, sR_refuse, and_self, true_and, and_true, false_and, and_false, hk, i_or, i_shl, hztrue, c5, e1]
        try simp
        try rfl
    ) (fun n => by
      rw [l_X4_upSetFor_4]
      simp (disch := omega) only [ne_eq, i_lt0, i_le0, i_eq0, i_n1, i_ltl, i_lel, i_eql, i_lt, i_le, i_eq, i_in, i_tn, i_add, i_addl, i_addr, i_mul, i_mulr, i_mull, if_true, if_false, eq_self, decide_eq_true_eq, decide_true, decide_false, Option.bind_some, Option.bind_none, fu_lt, Bool.false_eq_true, Bool.true_eq_false, not_true_eq_false, not_false_eq_true, Nat.not_lt_zero, Nat.le_zero_eq, Nat.reduceAdd, Nat.reduceMul, Nat.reduceSub, Nat.reduceEqDiff, Nat.reduceLT, Nat.reduceLeDiff, sC_def, sR_def, sC_1, sC_2, sR_1, sR_2, sC_st, sR_st, sR_no, sR_refuse, and_self, true_and, and_true, false_and, and_false, Nat.lt_irrefl, c5])
    (f := fu_N) (k := 0) (by omega) (fu_N_gt (by omega))
  unfold f_X4_upSetFor
  exact (congrArg (fun z => Option.bind z _) hL).trans rfl
theorem c_upOn (h : dC s P D) (hv : dV D) (hp : p < D 0 4) : f_X4_upSetOn s P (Int32.ofNat p) = some (Int32.ofNat (d_set (fun t => decide (d_b D t = p) && d_isUp D t) (D 0 5))) := by
  have hp4 := hv.1
  have c5 := h.1.2.2.2.2.2
  have c4 := h.1.2.2.2.2.1
  have hL := lp_up (l := fun n σ k => l_X4_upSetOn_4 n s P (Int32.ofNat p) (Int32.ofNat σ) (Int32.ofNat k)) (N := D 0 5) (fun k => d_set (fun t => decide (d_b D t = p) && d_isUp D t) k) (r := Int32.ofNat (d_set (fun t => decide (d_b D t = p) && d_isUp D t) (D 0 5)))
    (fun n k hk => by
      have hk8 : k < 31 := by omega
      have e1 := c_isUp h hv hk
      have e2 := c_bearerOf h hv hk
      have e3 := d_b_lt hv hk
      rw [l_X4_upSetOn_4, d_set_s]
      by_cases hq : d_b D k = p
      ·
        cases hu : d_isUp D k
        ·
          simp (disch := omega) only [ne_eq, i_lt0, i_le0, i_eq0, i_n1, i_ltl, i_lel, i_eql, i_lt, i_le, i_eq, i_in, i_tn, i_add, i_addl, i_addr, i_mul, i_mulr, i_mull, if_true, if_false, eq_self, decide_eq_true_eq, decide_true, decide_false, Option.bind_some, Option.bind_none, fu_lt, Bool.false_eq_true, Bool.true_eq_false, not_true_eq_false, not_false_eq_true, Nat.not_lt_zero, Nat.le_zero_eq, Nat.reduceAdd, Nat.reduceMul, Nat.reduceSub, Nat.reduceEqDiff, Nat.reduceLT, Nat.reduceLeDiff, sC_def, sR_def, sC_1, sC_2, sR_1, sR_2, sC_st, sR_st, sR_no, sR_refuse, and_self, true_and, and_true, false_and, and_false, hk, i_or, i_shl, hq, hu, c5, e1, e2]
          try simp [hq, hu]
          try rfl
        ·
          simp (disch := omega) only [ne_eq, i_lt0, i_le0, i_eq0, i_n1, i_ltl, i_lel, i_eql, i_lt, i_le, i_eq, i_in, i_tn, i_add, i_addl, i_addr, i_mul, i_mulr, i_mull, if_true, if_false, eq_self, decide_eq_true_eq, decide_true, decide_false, Option.bind_some, Option.bind_none, fu_lt, Bool.false_eq_true, Bool.true_eq_false, not_true_eq_false, not_false_eq_true, Nat.not_lt_zero, Nat.le_zero_eq, Nat.reduceAdd, Nat.reduceMul, Nat.reduceSub, Nat.reduceEqDiff, Nat.reduceLT, Nat.reduceLeDiff, sC_def, sR_def, sC_1, sC_2, sR_1, sR_2, sC_st, sR_st, sR_no, sR_refuse, and_self, true_and, and_true, false_and, and_false, hk, i_or, i_shl, hq, hu, c5, e1, e2]
          try simp [hq, hu]
          try rfl
      ·
        cases hu : d_isUp D k
        ·
          simp (disch := omega) only [ne_eq, i_lt0, i_le0, i_eq0, i_n1, i_ltl, i_lel, i_eql, i_lt, i_le, i_eq, i_in, i_tn, i_add, i_addl, i_addr, i_mul, i_mulr, i_mull, if_true, if_false, eq_self, decide_eq_true_eq, decide_true, decide_false, Option.bind_some, Option.bind_none, fu_lt, Bool.false_eq_true, Bool.true_eq_false, not_true_eq_false, not_false_eq_true, Nat.not_lt_zero, Nat.le_zero_eq, Nat.reduceAdd, Nat.reduceMul, Nat.reduceSub, Nat.reduceEqDiff, Nat.reduceLT, Nat.reduceLeDiff, sC_def, sR_def, sC_1, sC_2, sR_1, sR_2, sC_st, sR_st, sR_no, sR_refuse, and_self, true_and, and_true, false_and, and_false, hk, i_or, i_shl, hq, hu, c5, e1, e2]
          try simp [hq, hu]
          try rfl
        ·
          simp (disch := omega) only [ne_eq, i_lt0, i_le0, i_eq0, i_n1, i_ltl, i_lel, i_eql, i_lt, i_le, i_eq, i_in, i_tn, i_add, i_addl, i_addr, i_mul, i_mulr, i_mull, if_true, if_false, eq_self, decide_eq_true_eq, decide_true, decide_false, Option.bind_some, Option.bind_none, fu_lt, Bool.false_eq_true, Bool.true_eq_false, not_true_eq_false, not_false_eq_true, Nat.not_lt_zero, Nat.le_zero_eq, Nat.reduceAdd, Nat.reduceMul, Nat.reduceSub, Nat.reduceEqDiff, Nat.reduceLT, Nat.reduceLeDiff, sC_def, sR_def, sC_1, sC_2, sR_1, sR_2, sC_st, sR_st, sR_no, sR_refuse, and_self, true_and, and_true, false_and, and_false, hk, i_or, i_shl, hq, hu, c5, e1, e2]
          try simp [hq, hu]
          try rfl
    ) (fun n => by
      rw [l_X4_upSetOn_4]
      simp (disch := omega) only [ne_eq, i_lt0, i_le0, i_eq0, i_n1, i_ltl, i_lel, i_eql, i_lt, i_le, i_eq, i_in, i_tn, i_add, i_addl, i_addr, i_mul, i_mulr, i_mull, if_true, if_false, eq_self, decide_eq_true_eq, decide_true, decide_false, Option.bind_some, Option.bind_none, fu_lt, Bool.false_eq_true, Bool.true_eq_false, not_true_eq_false, not_false_eq_true, Nat.not_lt_zero, Nat.le_zero_eq, Nat.reduceAdd, Nat.reduceMul, Nat.reduceSub, Nat.reduceEqDiff, Nat.reduceLT, Nat.reduceLeDiff, sC_def, sR_def, sC_1, sC_2, sR_1, sR_2, sC_st, sR_st, sR_no, sR_refuse, and_self, true_and, and_true, false_and, and_false, Nat.lt_irrefl, c5])
    (f := fu_N) (k := 0) (by omega) (fu_N_gt (by omega))
  unfold f_X4_upSetOn
  exact (congrArg (fun z => Option.bind z _) hL).trans rfl
theorem c_ownSet (h : dC s P D) (hv : dV D) (hp : p < D 0 4) : f_X4_ownSetOf s P (Int32.ofNat p) = some (Int32.ofNat (d_set (fun t => decide (D 7 t = p)) (D 0 5))) := by
  have hp4 := hv.1
  have c5 := h.1.2.2.2.2.2
  have c4 := h.1.2.2.2.2.1
  have hL := lp_up (l := fun n σ k => l_X4_ownSetOf_4 n s P (Int32.ofNat p) (Int32.ofNat σ) (Int32.ofNat k)) (N := D 0 5) (fun k => d_set (fun t => decide (D 7 t = p)) k) (r := Int32.ofNat (d_set (fun t => decide (D 7 t = p)) (D 0 5)))
    (fun n k hk => by
      have hk8 : k < 31 := by omega
      have e2 : f_X4_ownerOf s P (Int32.ofNat k) = some (Int32.ofNat (D 7 k)) := by
        have h8 : k < 8 := by omega
        simp (disch := omega) only [ne_eq, i_lt0, i_le0, i_eq0, i_n1, i_ltl, i_lel, i_eql, i_lt, i_le, i_eq, i_in, i_tn, i_add, i_addl, i_addr, i_mul, i_mulr, i_mull, if_true, if_false, eq_self, decide_eq_true_eq, decide_true, decide_false, Option.bind_some, Option.bind_none, fu_lt, Bool.false_eq_true, Bool.true_eq_false, not_true_eq_false, not_false_eq_true, Nat.not_lt_zero, Nat.le_zero_eq, Nat.reduceAdd, Nat.reduceMul, Nat.reduceSub, Nat.reduceEqDiff, Nat.reduceLT, Nat.reduceLeDiff, sC_def, sR_def, sC_1, sC_2, sR_1, sR_2, sC_st, sR_st, sR_no, sR_refuse, and_self, true_and, and_true, false_and, and_false, f_X4_ownerOf, c_hasThing h, hk, h8, (h.2.2.2 k hk).1]
      have e3 := dV_t hv hk
      rw [l_X4_ownSetOf_4, d_set_s]
      by_cases hq : D 7 k = p
      ·
        simp (disch := omega) only [ne_eq, i_lt0, i_le0, i_eq0, i_n1, i_ltl, i_lel, i_eql, i_lt, i_le, i_eq, i_in, i_tn, i_add, i_addl, i_addr, i_mul, i_mulr, i_mull, if_true, if_false, eq_self, decide_eq_true_eq, decide_true, decide_false, Option.bind_some, Option.bind_none, fu_lt, Bool.false_eq_true, Bool.true_eq_false, not_true_eq_false, not_false_eq_true, Nat.not_lt_zero, Nat.le_zero_eq, Nat.reduceAdd, Nat.reduceMul, Nat.reduceSub, Nat.reduceEqDiff, Nat.reduceLT, Nat.reduceLeDiff, sC_def, sR_def, sC_1, sC_2, sR_1, sR_2, sC_st, sR_st, sR_no, sR_refuse, and_self, true_and, and_true, false_and, and_false, hk, i_or, i_shl, hq, c5, e2]
        try simp [hq]
        try rfl
      ·
        simp (disch := omega) only [ne_eq, i_lt0, i_le0, i_eq0, i_n1, i_ltl, i_lel, i_eql, i_lt, i_le, i_eq, i_in, i_tn, i_add, i_addl, i_addr, i_mul, i_mulr, i_mull, if_true, if_false, eq_self, decide_eq_true_eq, decide_true, decide_false, Option.bind_some, Option.bind_none, fu_lt, Bool.false_eq_true, Bool.true_eq_false, not_true_eq_false, not_false_eq_true, Nat.not_lt_zero, Nat.le_zero_eq, Nat.reduceAdd, Nat.reduceMul, Nat.reduceSub, Nat.reduceEqDiff, Nat.reduceLT, Nat.reduceLeDiff, sC_def, sR_def, sC_1, sC_2, sR_1, sR_2, sC_st, sR_st, sR_no, sR_refuse, and_self, true_and, and_true, false_and, and_false, hk, i_or, i_shl, hq, c5, e2]
        try simp [hq]
        try rfl
    ) (fun n => by
      rw [l_X4_ownSetOf_4]
      simp (disch := omega) only [ne_eq, i_lt0, i_le0, i_eq0, i_n1, i_ltl, i_lel, i_eql, i_lt, i_le, i_eq, i_in, i_tn, i_add, i_addl, i_addr, i_mul, i_mulr, i_mull, if_true, if_false, eq_self, decide_eq_true_eq, decide_true, decide_false, Option.bind_some, Option.bind_none, fu_lt, Bool.false_eq_true, Bool.true_eq_false, not_true_eq_false, not_false_eq_true, Nat.not_lt_zero, Nat.le_zero_eq, Nat.reduceAdd, Nat.reduceMul, Nat.reduceSub, Nat.reduceEqDiff, Nat.reduceLT, Nat.reduceLeDiff, sC_def, sR_def, sC_1, sC_2, sR_1, sR_2, sC_st, sR_st, sR_no, sR_refuse, and_self, true_and, and_true, false_and, and_false, Nat.lt_irrefl, c5])
    (f := fu_N) (k := 0) (by omega) (fu_N_gt (by omega))
  unfold f_X4_ownSetOf
  exact (congrArg (fun z => Option.bind z _) hL).trans rfl
theorem r_who (h : dR s 0 D) (hv : dV D) (ht : t < D 0 5) : f_X12_whoCould s (Int32.ofNat t) = some (Int32.ofNat (d_set (fun p => d_able D p t) (D 0 4))) := by
  have hp4 := hv.1
  have c5 := (dR_0 h).1.2.2.1
  have c4 := (dR_0 h).1.2.1
  have hL := lp_up (l := fun n σ k => l_X12_whoCould_4 n s (Int32.ofNat t) (Int32.ofNat σ) (Int32.ofNat k)) (N := D 0 4) (fun k => d_set (fun p => d_able D p t) k) (r := Int32.ofNat (d_set (fun p => d_able D p t) (D 0 4)))
    (fun n k hk => by
      have hk8 : k < 31 := by omega
      have e1 := r_could h hv ht hk
      rw [l_X12_whoCould_4, d_set_s]
      cases hu : d_able D k t
      ·
        simp (disch := omega) only [ne_eq, i_lt0, i_le0, i_eq0, i_n1, i_ltl, i_lel, i_eql, i_lt, i_le, i_eq, i_in, i_tn, i_add, i_addl, i_addr, i_mul, i_mulr, i_mull, if_true, if_false, eq_self, decide_eq_true_eq, decide_true, decide_false, Option.bind_some, Option.bind_none, fu_lt, Bool.false_eq_true, Bool.true_eq_false, not_true_eq_false, not_false_eq_true, Nat.not_lt_zero, Nat.le_zero_eq, Nat.reduceAdd, Nat.reduceMul, Nat.reduceSub, Nat.reduceEqDiff, Nat.reduceLT, Nat.reduceLeDiff, sC_def, sR_def, sC_1, sC_2, sR_1, sR_2, sC_st, sR_st, sR_no, sR_refuse, and_self, true_and, and_true, false_and, and_false, hk, i_or, i_shl, hu, c4, e1]
        try simp [hu]
        try rfl
      ·
        simp (disch := omega) only [ne_eq, i_lt0, i_le0, i_eq0, i_n1, i_ltl, i_lel, i_eql, i_lt, i_le, i_eq, i_in, i_tn, i_add, i_addl, i_addr, i_mul, i_mulr, i_mull, if_true, if_false, eq_self, decide_eq_true_eq, decide_true, decide_false, Option.bind_some, Option.bind_none, fu_lt, Bool.false_eq_true, Bool.true_eq_false, not_true_eq_false, not_false_eq_true, Nat.not_lt_zero, Nat.le_zero_eq, Nat.reduceAdd, Nat.reduceMul, Nat.reduceSub, Nat.reduceEqDiff, Nat.reduceLT, Nat.reduceLeDiff, sC_def, sR_def, sC_1, sC_2, sR_1, sR_2, sC_st, sR_st, sR_no, sR_refuse, and_self, true_and, and_true, false_and, and_false, hk, i_or, i_shl, hu, c4, e1]
        try simp [hu]
        try rfl
    ) (fun n => by
      rw [l_X12_whoCould_4]
      simp (disch := omega) only [ne_eq, i_lt0, i_le0, i_eq0, i_n1, i_ltl, i_lel, i_eql, i_lt, i_le, i_eq, i_in, i_tn, i_add, i_addl, i_addr, i_mul, i_mulr, i_mull, if_true, if_false, eq_self, decide_eq_true_eq, decide_true, decide_false, Option.bind_some, Option.bind_none, fu_lt, Bool.false_eq_true, Bool.true_eq_false, not_true_eq_false, not_false_eq_true, Nat.not_lt_zero, Nat.le_zero_eq, Nat.reduceAdd, Nat.reduceMul, Nat.reduceSub, Nat.reduceEqDiff, Nat.reduceLT, Nat.reduceLeDiff, sC_def, sR_def, sC_1, sC_2, sR_1, sR_2, sC_st, sR_st, sR_no, sR_refuse, and_self, true_and, and_true, false_and, and_false, Nat.lt_irrefl, c4])
    (f := fu_N) (k := 0) (by omega) (fu_N_gt (by omega))
  unfold f_X12_whoCould
  exact (congrArg (fun z => Option.bind z _) hL).trans rfl
theorem r_things0 (h : dR s 0 D) (hv : dV D) : f_X12_things s (0 : Int32) = some (Int32.ofNat (d_set (fun t => d_isUp D t) (D 0 5))) := by
  have hp4 := hv.1
  have c5 := (dR_0 h).1.2.2.1
  have c4 := (dR_0 h).1.2.1
  have hL := lp_up (l := fun n σ k => l_X12_things_4 n s (0 : Int32) (Int32.ofNat σ) (Int32.ofNat k)) (N := D 0 5) (fun k => d_set (fun t => d_isUp D t) k) (r := Int32.ofNat (d_set (fun t => d_isUp D t) (D 0 5)))
    (fun n k hk => by
      have hk8 : k < 31 := by omega
      have e1 := r_isUp h hv hk
      rw [l_X12_things_4, d_set_s]
      cases hu : d_isUp D k
      ·
        simp (disch := omega) only [ne_eq, i_lt0, i_le0, i_eq0, i_n1, i_ltl, i_lel, i_eql, i_lt, i_le, i_eq, i_in, i_tn, i_add, i_addl, i_addr, i_mul, i_mulr, i_mull, if_true, if_false, eq_self, decide_eq_true_eq, decide_true, decide_false, Option.bind_some, Option.bind_none, fu_lt, Bool.false_eq_true, Bool.true_eq_false, not_true_eq_false, not_false_eq_true, Nat.not_lt_zero, Nat.le_zero_eq, Nat.reduceAdd, Nat.reduceMul, Nat.reduceSub, Nat.reduceEqDiff, Nat.reduceLT, Nat.reduceLeDiff, sC_def, sR_def, sC_1, sC_2, sR_1, sR_2, sC_st, sR_st, sR_no, sR_refuse, and_self, true_and, and_true, false_and, and_false, hk, i_or, i_shl, hu, c5, e1]
        try simp [hu]
        try rfl
      ·
        simp (disch := omega) only [ne_eq, i_lt0, i_le0, i_eq0, i_n1, i_ltl, i_lel, i_eql, i_lt, i_le, i_eq, i_in, i_tn, i_add, i_addl, i_addr, i_mul, i_mulr, i_mull, if_true, if_false, eq_self, decide_eq_true_eq, decide_true, decide_false, Option.bind_some, Option.bind_none, fu_lt, Bool.false_eq_true, Bool.true_eq_false, not_true_eq_false, not_false_eq_true, Nat.not_lt_zero, Nat.le_zero_eq, Nat.reduceAdd, Nat.reduceMul, Nat.reduceSub, Nat.reduceEqDiff, Nat.reduceLT, Nat.reduceLeDiff, sC_def, sR_def, sC_1, sC_2, sR_1, sR_2, sC_st, sR_st, sR_no, sR_refuse, and_self, true_and, and_true, false_and, and_false, hk, i_or, i_shl, hu, c5, e1]
        try simp [hu]
        try rfl
    ) (fun n => by
      rw [l_X12_things_4]
      simp (disch := omega) only [ne_eq, i_lt0, i_le0, i_eq0, i_n1, i_ltl, i_lel, i_eql, i_lt, i_le, i_eq, i_in, i_tn, i_add, i_addl, i_addr, i_mul, i_mulr, i_mull, if_true, if_false, eq_self, decide_eq_true_eq, decide_true, decide_false, Option.bind_some, Option.bind_none, fu_lt, Bool.false_eq_true, Bool.true_eq_false, not_true_eq_false, not_false_eq_true, Nat.not_lt_zero, Nat.le_zero_eq, Nat.reduceAdd, Nat.reduceMul, Nat.reduceSub, Nat.reduceEqDiff, Nat.reduceLT, Nat.reduceLeDiff, sC_def, sR_def, sC_1, sC_2, sR_1, sR_2, sC_st, sR_st, sR_no, sR_refuse, and_self, true_and, and_true, false_and, and_false, Nat.lt_irrefl, c5])
    (f := fu_N) (k := 0) (by omega) (fu_N_gt (by omega))
  unfold f_X12_things
  exact (congrArg (fun z => Option.bind z _) hL).trans rfl
theorem r_things1 (h : dR s 0 D) (hv : dV D) : f_X12_things s (1 : Int32) = some (Int32.ofNat (d_set (fun t => decide (D 11 t ≠ 0)) (D 0 5))) := by
  have hp4 := hv.1
  have c5 := (dR_0 h).1.2.2.1
  have c4 := (dR_0 h).1.2.1
  have hL := lp_up (l := fun n σ k => l_X12_things_4 n s (1 : Int32) (Int32.ofNat σ) (Int32.ofNat k)) (N := D 0 5) (fun k => d_set (fun t => decide (D 11 t ≠ 0)) k) (r := Int32.ofNat (d_set (fun t => decide (D 11 t ≠ 0)) (D 0 5)))
    (fun n k hk => by
      have hk8 : k < 31 := by omega
      have e1 := r_isScratched h hv hk
      have z0 : ¬ ((1 : Int32) = 0) := by decide
      rw [l_X12_things_4, d_set_s]
      by_cases hu : D 11 k = 0
      ·
        simp (disch := omega) only [ne_eq, i_lt0, i_le0, i_eq0, i_n1, i_ltl, i_lel, i_eql, i_lt, i_le, i_eq, i_in, i_tn, i_add, i_addl, i_addr, i_mul, i_mulr, i_mull, if_true, if_false, eq_self, decide_eq_true_eq, decide_true, decide_false, Option.bind_some, Option.bind_none, fu_lt, Bool.false_eq_true, Bool.true_eq_false, not_true_eq_false, not_false_eq_true, Nat.not_lt_zero, Nat.le_zero_eq, Nat.reduceAdd, Nat.reduceMul, Nat.reduceSub, Nat.reduceEqDiff, Nat.reduceLT, Nat.reduceLeDiff, sC_def, sR_def, sC_1, sC_2, sR_1, sR_2, sC_st, sR_st, sR_no, sR_refuse, and_self, true_and, and_true, false_and, and_false, hk, i_or, i_shl, hu, c5, e1, z0]
        try simp [hu]
        try rfl
      ·
        simp (disch := omega) only [ne_eq, i_lt0, i_le0, i_eq0, i_n1, i_ltl, i_lel, i_eql, i_lt, i_le, i_eq, i_in, i_tn, i_add, i_addl, i_addr, i_mul, i_mulr, i_mull, if_true, if_false, eq_self, decide_eq_true_eq, decide_true, decide_false, Option.bind_some, Option.bind_none, fu_lt, Bool.false_eq_true, Bool.true_eq_false, not_true_eq_false, not_false_eq_true, Nat.not_lt_zero, Nat.le_zero_eq, Nat.reduceAdd, Nat.reduceMul, Nat.reduceSub, Nat.reduceEqDiff, Nat.reduceLT, Nat.reduceLeDiff, sC_def, sR_def, sC_1, sC_2, sR_1, sR_2, sC_st, sR_st, sR_no, sR_refuse, and_self, true_and, and_true, false_and, and_false, hk, i_or, i_shl, hu, c5, e1, z0]
        try simp [hu]
        try rfl
    ) (fun n => by
      rw [l_X12_things_4]
      simp (disch := omega) only [ne_eq, i_lt0, i_le0, i_eq0, i_n1, i_ltl, i_lel, i_eql, i_lt, i_le, i_eq, i_in, i_tn, i_add, i_addl, i_addr, i_mul, i_mulr, i_mull, if_true, if_false, eq_self, decide_eq_true_eq, decide_true, decide_false, Option.bind_some, Option.bind_none, fu_lt, Bool.false_eq_true, Bool.true_eq_false, not_true_eq_false, not_false_eq_true, Nat.not_lt_zero, Nat.le_zero_eq, Nat.reduceAdd, Nat.reduceMul, Nat.reduceSub, Nat.reduceEqDiff, Nat.reduceLT, Nat.reduceLeDiff, sC_def, sR_def, sC_1, sC_2, sR_1, sR_2, sC_st, sR_st, sR_no, sR_refuse, and_self, true_and, and_true, false_and, and_false, Nat.lt_irrefl, c5])
    (f := fu_N) (k := 0) (by omega) (fu_N_gt (by omega))
  unfold f_X12_things
  exact (congrArg (fun z => Option.bind z _) hL).trans rfl
theorem r_things2 (h : dR s 0 D) (hv : dV D) : f_X12_things s (2 : Int32) = some (Int32.ofNat (d_set (fun t => d_isF D t) (D 0 5))) := by
  have hp4 := hv.1
  have c5 := (dR_0 h).1.2.2.1
  have c4 := (dR_0 h).1.2.1
  have hL := lp_up (l := fun n σ k => l_X12_things_4 n s (2 : Int32) (Int32.ofNat σ) (Int32.ofNat k)) (N := D 0 5) (fun k => d_set (fun t => d_isF D t) k) (r := Int32.ofNat (d_set (fun t => d_isF D t) (D 0 5)))
    (fun n k hk => by
      have hk8 : k < 31 := by omega
      have e1 := r_isFound h hv hk
      have z0 : ¬ ((2 : Int32) = 0) := by decide
      have z1 : ¬ ((2 : Int32) = 1) := by decide
      rw [l_X12_things_4, d_set_s]
      cases hu : d_isF D k
      ·
        simp (disch := omega) only [ne_eq, i_lt0, i_le0, i_eq0, i_n1, i_ltl, i_lel, i_eql, i_lt, i_le, i_eq, i_in, i_tn, i_add, i_addl, i_addr, i_mul, i_mulr, i_mull, if_true, if_false, eq_self, decide_eq_true_eq, decide_true, decide_false, Option.bind_some, Option.bind_none, fu_lt, Bool.false_eq_true, Bool.true_eq_false, not_true_eq_false, not_false_eq_true, Nat.not_lt_zero, Nat.le_zero_eq, Nat.reduceAdd, Nat.reduceMul, Nat.reduceSub, Nat.reduceEqDiff, Nat.reduceLT, Nat.reduceLeDiff, sC_def, sR_def, sC_1, sC_2, sR_1, sR_2, sC_st, sR_st, sR_no, sR_refuse, and_self, true_and, and_true, false_and, and_false, hk, i_or, i_shl, hu, c5, e1, z0, z1]
        try simp [hu]
        try rfl
      ·
        simp (disch := omega) only [ne_eq, i_lt0, i_le0, i_eq0, i_n1, i_ltl, i_lel, i_eql, i_lt, i_le, i_eq, i_in, i_tn, i_add, i_addl, i_addr, i_mul, i_mulr, i_mull, if_true, if_false, eq_self, decide_eq_true_eq, decide_true, decide_false, Option.bind_some, Option.bind_none, fu_lt, Bool.false_eq_true, Bool.true_eq_false, not_true_eq_false, not_false_eq_true, Nat.not_lt_zero, Nat.le_zero_eq, Nat.reduceAdd, Nat.reduceMul, Nat.reduceSub, Nat.reduceEqDiff, Nat.reduceLT, Nat.reduceLeDiff, sC_def, sR_def, sC_1, sC_2, sR_1, sR_2, sC_st, sR_st, sR_no, sR_refuse, and_self, true_and, and_true, false_and, and_false, hk, i_or, i_shl, hu, c5, e1, z0, z1]
        try simp [hu]
        try rfl
    ) (fun n => by
      rw [l_X12_things_4]
      simp (disch := omega) only [ne_eq, i_lt0, i_le0, i_eq0, i_n1, i_ltl, i_lel, i_eql, i_lt, i_le, i_eq, i_in, i_tn, i_add, i_addl, i_addr, i_mul, i_mulr, i_mull, if_true, if_false, eq_self, decide_eq_true_eq, decide_true, decide_false, Option.bind_some, Option.bind_none, fu_lt, Bool.false_eq_true, Bool.true_eq_false, not_true_eq_false, not_false_eq_true, Nat.not_lt_zero, Nat.le_zero_eq, Nat.reduceAdd, Nat.reduceMul, Nat.reduceSub, Nat.reduceEqDiff, Nat.reduceLT, Nat.reduceLeDiff, sC_def, sR_def, sC_1, sC_2, sR_1, sR_2, sC_st, sR_st, sR_no, sR_refuse, and_self, true_and, and_true, false_and, and_false, Nat.lt_irrefl, c5])
    (f := fu_N) (k := 0) (by omega) (fu_N_gt (by omega))
  unfold f_X12_things
  exact (congrArg (fun z => Option.bind z _) hL).trans rfl
theorem r_thingsOfT (h : dR s 0 D) (hv : dV D) (hp : p < D 0 4) : f_X12_thingsOf s (Int32.ofNat p) true = some (Int32.ofNat (d_set (fun t => decide (d_b D t = p) && d_isUp D t) (D 0 5))) := by
  have hp4 := hv.1
  have c5 := (dR_0 h).1.2.2.1
  have c4 := (dR_0 h).1.2.1
  have hL := lp_up (l := fun n σ k => l_X12_thingsOf_5 n s (Int32.ofNat p) true (Int32.ofNat σ) (Int32.ofNat k)) (N := D 0 5) (fun k => d_set (fun t => decide (d_b D t = p) && d_isUp D t) k) (r := Int32.ofNat (d_set (fun t => decide (d_b D t = p) && d_isUp D t) (D 0 5)))
    (fun n k hk => by
      have hk8 : k < 31 := by omega
      have e1 := r_isUp h hv hk
      have e2 := r_bearerOf h hv hk
      have e3 := d_b_lt hv hk
      rw [l_X12_thingsOf_5, d_set_s]
      by_cases hq : d_b D k = p
      ·
        cases hu : d_isUp D k
        ·
          simp (disch := omega) only [ne_eq, i_lt0, i_le0, i_eq0, i_n1, i_ltl, i_lel, i_eql, i_lt, i_le, i_eq, i_in, i_tn, i_add, i_addl, i_addr, i_mul, i_mulr, i_mull, if_true, if_false, eq_self, decide_eq_true_eq, decide_true, decide_false, Option.bind_some, Option.bind_none, fu_lt, Bool.false_eq_true, Bool.true_eq_false, not_true_eq_false, not_false_eq_true, Nat.not_lt_zero, Nat.le_zero_eq, Nat.reduceAdd, Nat.reduceMul, Nat.reduceSub, Nat.reduceEqDiff, Nat.reduceLT, Nat.reduceLeDiff, sC_def, sR_def, sC_1, sC_2, sR_1, sR_2, sC_st, sR_st, sR_no, sR_refuse, and_self, true_and, and_true, false_and, and_false, hk, i_or, i_shl, hq, hu, c5, e1, e2]
          try simp [hq, hu]
          try rfl
        ·
          simp (disch := omega) only [ne_eq, i_lt0, i_le0, i_eq0, i_n1, i_ltl, i_lel, i_eql, i_lt, i_le, i_eq, i_in, i_tn, i_add, i_addl, i_addr, i_mul, i_mulr, i_mull, if_true, if_false, eq_self, decide_eq_true_eq, decide_true, decide_false, Option.bind_some, Option.bind_none, fu_lt, Bool.false_eq_true, Bool.true_eq_false, not_true_eq_false, not_false_eq_true, Nat.not_lt_zero, Nat.le_zero_eq, Nat.reduceAdd, Nat.reduceMul, Nat.reduceSub, Nat.reduceEqDiff, Nat.reduceLT, Nat.reduceLeDiff, sC_def, sR_def, sC_1, sC_2, sR_1, sR_2, sC_st, sR_st, sR_no, sR_refuse, and_self, true_and, and_true, false_and, and_false, hk, i_or, i_shl, hq, hu, c5, e1, e2]
          try simp [hq, hu]
          try rfl
      ·
        cases hu : d_isUp D k
        ·
          simp (disch := omega) only [ne_eq, i_lt0, i_le0, i_eq0, i_n1, i_ltl, i_lel, i_eql, i_lt, i_le, i_eq, i_in, i_tn, i_add, i_addl, i_addr, i_mul, i_mulr, i_mull, if_true, if_false, eq_self, decide_eq_true_eq, decide_true, decide_false, Option.bind_some, Option.bind_none, fu_lt, Bool.false_eq_true, Bool.true_eq_false, not_true_eq_false, not_false_eq_true, Nat.not_lt_zero, Nat.le_zero_eq, Nat.reduceAdd, Nat.reduceMul, Nat.reduceSub, Nat.reduceEqDiff, Nat.reduceLT, Nat.reduceLeDiff, sC_def, sR_def, sC_1, sC_2, sR_1, sR_2, sC_st, sR_st, sR_no, sR_refuse, and_self, true_and, and_true, false_and, and_false, hk, i_or, i_shl, hq, hu, c5, e1, e2]
          try simp [hq, hu]
          try rfl
        ·
          simp (disch := omega) only [ne_eq, i_lt0, i_le0, i_eq0, i_n1, i_ltl, i_lel, i_eql, i_lt, i_le, i_eq, i_in, i_tn, i_add, i_addl, i_addr, i_mul, i_mulr, i_mull, if_true, if_false, eq_self, decide_eq_true_eq, decide_true, decide_false, Option.bind_some, Option.bind_none, fu_lt, Bool.false_eq_true, Bool.true_eq_false, not_true_eq_false, not_false_eq_true, Nat.not_lt_zero, Nat.le_zero_eq, Nat.reduceAdd, Nat.reduceMul, Nat.reduceSub, Nat.reduceEqDiff, Nat.reduceLT, Nat.reduceLeDiff, sC_def, sR_def, sC_1, sC_2, sR_1, sR_2, sC_st, sR_st, sR_no, sR_refuse, and_self, true_and, and_true, false_and, and_false, hk, i_or, i_shl, hq, hu, c5, e1, e2]
          try simp [hq, hu]
          try rfl
    ) (fun n => by
      rw [l_X12_thingsOf_5]
      simp (disch := omega) only [ne_eq, i_lt0, i_le0, i_eq0, i_n1, i_ltl, i_lel, i_eql, i_lt, i_le, i_eq, i_in, i_tn, i_add, i_addl, i_addr, i_mul, i_mulr, i_mull, if_true, if_false, eq_self, decide_eq_true_eq, decide_true, decide_false, Option.bind_some, Option.bind_none, fu_lt, Bool.false_eq_true, Bool.true_eq_false, not_true_eq_false, not_false_eq_true, Nat.not_lt_zero, Nat.le_zero_eq, Nat.reduceAdd, Nat.reduceMul, Nat.reduceSub, Nat.reduceEqDiff, Nat.reduceLT, Nat.reduceLeDiff, sC_def, sR_def, sC_1, sC_2, sR_1, sR_2, sC_st, sR_st, sR_no, sR_refuse, and_self, true_and, and_true, false_and, and_false, Nat.lt_irrefl, c5])
    (f := fu_N) (k := 0) (by omega) (fu_N_gt (by omega))
  unfold f_X12_thingsOf
  exact (congrArg (fun z => Option.bind z _) hL).trans rfl
theorem r_thingsOfF (h : dR s 0 D) (hv : dV D) (hp : p < D 0 4) : f_X12_thingsOf s (Int32.ofNat p) false = some (Int32.ofNat (d_set (fun t => decide (D 7 t = p)) (D 0 5))) := by
  have hp4 := hv.1
  have c5 := (dR_0 h).1.2.2.1
  have c4 := (dR_0 h).1.2.1
  have hL := lp_up (l := fun n σ k => l_X12_thingsOf_5 n s (Int32.ofNat p) false (Int32.ofNat σ) (Int32.ofNat k)) (N := D 0 5) (fun k => d_set (fun t => decide (D 7 t = p)) k) (r := Int32.ofNat (d_set (fun t => decide (D 7 t = p)) (D 0 5)))
    (fun n k hk => by
      have hk8 : k < 31 := by omega
      have e2 := ((dR_0 h).2.2.2 k hk).1
      have e3 := dV_t hv hk
      have h6 : 35 + k < 1775 := by omega
      rw [l_X12_thingsOf_5, d_set_s]
      by_cases hq : D 7 k = p
      ·
        simp (disch := omega) only [ne_eq, i_lt0, i_le0, i_eq0, i_n1, i_ltl, i_lel, i_eql, i_lt, i_le, i_eq, i_in, i_tn, i_add, i_addl, i_addr, i_mul, i_mulr, i_mull, if_true, if_false, eq_self, decide_eq_true_eq, decide_true, decide_false, Option.bind_some, Option.bind_none, fu_lt, Bool.false_eq_true, Bool.true_eq_false, not_true_eq_false, not_false_eq_true, Nat.not_lt_zero, Nat.le_zero_eq, Nat.reduceAdd, Nat.reduceMul, Nat.reduceSub, Nat.reduceEqDiff, Nat.reduceLT, Nat.reduceLeDiff, sC_def, sR_def, sC_1, sC_2, sR_1, sR_2, sC_st, sR_st, sR_no, sR_refuse, and_self, true_and, and_true, false_and, and_false, hk, i_or, i_shl, hq, c5, e2, h6]
        try simp [hq]
        try rfl
      ·
        simp (disch := omega) only [ne_eq, i_lt0, i_le0, i_eq0, i_n1, i_ltl, i_lel, i_eql, i_lt, i_le, i_eq, i_in, i_tn, i_add, i_addl, i_addr, i_mul, i_mulr, i_mull, if_true, if_false, eq_self, decide_eq_true_eq, decide_true, decide_false, Option.bind_some, Option.bind_none, fu_lt, Bool.false_eq_true, Bool.true_eq_false, not_true_eq_false, not_false_eq_true, Nat.not_lt_zero, Nat.le_zero_eq, Nat.reduceAdd, Nat.reduceMul, Nat.reduceSub, Nat.reduceEqDiff, Nat.reduceLT, Nat.reduceLeDiff, sC_def, sR_def, sC_1, sC_2, sR_1, sR_2, sC_st, sR_st, sR_no, sR_refuse, and_self, true_and, and_true, false_and, and_false, hk, i_or, i_shl, hq, c5, e2, h6]
        try simp [hq]
        try rfl
    ) (fun n => by
      rw [l_X12_thingsOf_5]
      simp (disch := omega) only [ne_eq, i_lt0, i_le0, i_eq0, i_n1, i_ltl, i_lel, i_eql, i_lt, i_le, i_eq, i_in, i_tn, i_add, i_addl, i_addr, i_mul, i_mulr, i_mull, if_true, if_false, eq_self, decide_eq_true_eq, decide_true, decide_false, Option.bind_some, Option.bind_none, fu_lt, Bool.false_eq_true, Bool.true_eq_false, not_true_eq_false, not_false_eq_true, Nat.not_lt_zero, Nat.le_zero_eq, Nat.reduceAdd, Nat.reduceMul, Nat.reduceSub, Nat.reduceEqDiff, Nat.reduceLT, Nat.reduceLeDiff, sC_def, sR_def, sC_1, sC_2, sR_1, sR_2, sC_st, sR_st, sR_no, sR_refuse, and_self, true_and, and_true, false_and, and_false, Nat.lt_irrefl, c5])
    (f := fu_N) (k := 0) (by omega) (fu_N_gt (by omega))
  unfold f_X12_thingsOf
  exact (congrArg (fun z => Option.bind z _) hL).trans rfl
end SETS
