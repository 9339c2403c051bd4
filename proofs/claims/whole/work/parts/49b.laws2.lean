/-! laws, lawOf: whether a law fits -/
def d_lw (n : Nat) (w : Nat → Nat) (st sp k : Nat) : Bool := decide ((w (3 * k) + st) % n = w (3 * k + 1)) && decide ((w (3 * k) + sp) % 10 = w (3 * k + 2))
section LW2
variable {s : fu_S} {P : Nat} {D : dD} {t n m o k st sp : Nat} {w : Nat → Nat}
theorem c_isLaw (h : dC s P D) (hv : dV D) (ht : t < 4) (hn : n ≤ 60) (h4 : s.1 4 t = Int32.ofNat n) (hm : 3 * m ≤ n) (hm' : m ≤ 15) (hw : ∀ p, p < 3 * m → s.2 2 (60 * t + p) = Int64.ofNat (w p)) (ho : ∀ k, k < m → w (3 * k) < D 0 4 ∧ w (3 * k + 1) < D 0 4 ∧ w (3 * k + 2) < 10) (hst : st < 10) (hsp : sp < 10) : f_X1_isLaw s P (Int32.ofNat t) (Int32.ofNat m) (Int32.ofNat (10 * st + sp)) = some (d_allb (d_lw (D 0 4) w st sp) m) := by
  have hp4 := hv.1
  have c4 := h.1.2.2.2.2.1
  have hL := lp_all (l := fun f k => l_X1_isLaw_3 f s P (Int32.ofNat t) (Int32.ofNat m) (Int32.ofNat (10 * st + sp)) (Int32.ofNat k)) (N := m) (c := fun k => d_lw (D 0 4) w st sp k = true) (a := false) (fun f k hk hc => by
      have hk15 : k < 15 := by omega
      obtain ⟨o1, o2, o3⟩ := ho k hk
      have e0 := c_numAt (p := 3 * k) ht hn h4 (by omega)
      have e1 := c_numAt (p := 3 * k + 1) ht hn h4 (by omega)
      have e2 := c_numAt (p := 3 * k + 2) ht hn h4 (by omega)
      rw [hw _ (by omega)] at e0 e1 e2
      have hp0 : ¬ D 0 4 = 0 := by omega
      have d1 : (10 * st + sp) / 10 = st := by omega
      have d2 : (10 * st + sp) % 10 = sp := by omega
      have dq := i_divq (a := 10 * st + sp) (b := 10) (by omega) (by omega) (by omega)
      have dq' : Int32.ofNat (10 * st + sp) / 10 = Int32.ofNat ((10 * st + sp) / 10) := dq
      unfold d_lw at hc
      rw [Bool.and_eq_true, decide_eq_true_eq, decide_eq_true_eq] at hc
      obtain ⟨g1, g2⟩ := hc
      have dr := i_rem10 (a := 10 * st + sp) (by omega)
      rw [d1] at dq'
      rw [d2, dq', show Int32.ofNat st * 10 = Int32.ofNat (st * 10) from i_mull] at dr
      have b1 : f_X4_bearerBySteps s P (Int32.ofNat (w (3 * k))) (Int32.ofNat st) = some (Int32.ofNat (w (3 * k + 1))) := by
        simp (maxSteps := 1000000) (disch := omega) only [ne_eq, i_lt0, i_le0, i_eq0, i_n1, i_ltl, i_lel, i_eql, i_lt, i_le, i_eq, i_in, i_tn, i_add, i_addl, i_addr, i_mul, i_mulr, i_mull, if_true, if_false, eq_self, decide_eq_true_eq, decide_true, decide_false, Option.bind_some, Option.bind_none, ↓fu_ltd, ↓reduceIte, ↓ob_ite, ↓ob_asc, Bool.false_eq_true, Bool.true_eq_false, not_true_eq_false, not_false_eq_true, Nat.not_lt_zero, Nat.le_zero_eq, Nat.reduceAdd, Nat.reduceMul, Nat.reduceSub, Nat.reduceEqDiff, Nat.reduceLT, Nat.reduceLeDiff, sC_def, sR_def, sC_1, sC_2, sR_1, sR_2, sC_st, sR_st, sR_no, sR_refuse, and_self, true_and, and_true, false_and, and_false, f_X4_bearerBySteps, c4, o1, hp0, i_rem, g1]
      have b2 : f_X4_spotFrom P (Int32.ofNat (w (3 * k))) (Int32.ofNat sp) = Int32.ofNat (w (3 * k + 2)) := by
        simp (maxSteps := 1000000) (disch := omega) only [ne_eq, i_lt0, i_le0, i_eq0, i_n1, i_ltl, i_lel, i_eql, i_lt, i_le, i_eq, i_in, i_tn, i_add, i_addl, i_addr, i_mul, i_mulr, i_mull, if_true, if_false, eq_self, decide_eq_true_eq, decide_true, decide_false, Option.bind_some, Option.bind_none, ↓fu_ltd, ↓reduceIte, ↓ob_ite, ↓ob_asc, Bool.false_eq_true, Bool.true_eq_false, not_true_eq_false, not_false_eq_true, Nat.not_lt_zero, Nat.le_zero_eq, Nat.reduceAdd, Nat.reduceMul, Nat.reduceSub, Nat.reduceEqDiff, Nat.reduceLT, Nat.reduceLeDiff, sC_def, sR_def, sC_1, sC_2, sR_1, sR_2, sC_st, sR_st, sR_no, sR_refuse, and_self, true_and, and_true, false_and, and_false, f_X4_spotFrom, i_rem10, g2]
      show l_X1_isLaw_3 (f + 1) s P (Int32.ofNat t) (Int32.ofNat m) (Int32.ofNat (10 * st + sp)) (Int32.ofNat k) = _
      generalize Int32.ofNat (10 * st + sp) = L at *
      simp (maxSteps := 1000000) (disch := omega) only [ne_eq, i_lt0, i_le0, i_eq0, i_n1, i_ltl, i_lel, i_eql, i_lt, i_le, i_eq, i_in, i_tn, i_add, i_addl, i_addr, i_mul, i_mulr, i_mull, if_true, if_false, eq_self, decide_eq_true_eq, decide_true, decide_false, Option.bind_some, Option.bind_none, ↓fu_ltd, ↓reduceIte, ↓ob_ite, ↓ob_asc, Bool.false_eq_true, Bool.true_eq_false, not_true_eq_false, not_false_eq_true, Nat.not_lt_zero, Nat.le_zero_eq, Nat.reduceAdd, Nat.reduceMul, Nat.reduceSub, Nat.reduceEqDiff, Nat.reduceLT, Nat.reduceLeDiff, sC_def, sR_def, sC_1, sC_2, sR_1, sR_2, sC_st, sR_st, sR_no, sR_refuse, and_self, true_and, and_true, false_and, and_false, l_X1_isLaw_3, hk, hk15, e0, e1, e2, j_32, dq', dr, b1, b2, j_of, i_add1]) (fun f k hk hc => by
      have hk15 : k < 15 := by omega
      obtain ⟨o1, o2, o3⟩ := ho k hk
      have e0 := c_numAt (p := 3 * k) ht hn h4 (by omega)
      have e1 := c_numAt (p := 3 * k + 1) ht hn h4 (by omega)
      have e2 := c_numAt (p := 3 * k + 2) ht hn h4 (by omega)
      rw [hw _ (by omega)] at e0 e1 e2
      have hp0 : ¬ D 0 4 = 0 := by omega
      have d1 : (10 * st + sp) / 10 = st := by omega
      have d2 : (10 * st + sp) % 10 = sp := by omega
      have dq := i_divq (a := 10 * st + sp) (b := 10) (by omega) (by omega) (by omega)
      have dq' : Int32.ofNat (10 * st + sp) / 10 = Int32.ofNat ((10 * st + sp) / 10) := dq
      unfold d_lw at hc
      rw [Bool.and_eq_true, decide_eq_true_eq, decide_eq_true_eq] at hc
      have dr := i_rem10 (a := 10 * st + sp) (by omega)
      rw [d1] at dq'
      rw [d2, dq', show Int32.ofNat st * 10 = Int32.ofNat (st * 10) from i_mull] at dr
      have b1 : f_X4_bearerBySteps s P (Int32.ofNat (w (3 * k))) (Int32.ofNat st) = some (Int32.ofNat ((w (3 * k) + st) % D 0 4)) := by
        simp (maxSteps := 1000000) (disch := omega) only [ne_eq, i_lt0, i_le0, i_eq0, i_n1, i_ltl, i_lel, i_eql, i_lt, i_le, i_eq, i_in, i_tn, i_add, i_addl, i_addr, i_mul, i_mulr, i_mull, if_true, if_false, eq_self, decide_eq_true_eq, decide_true, decide_false, Option.bind_some, Option.bind_none, ↓fu_ltd, ↓reduceIte, ↓ob_ite, ↓ob_asc, Bool.false_eq_true, Bool.true_eq_false, not_true_eq_false, not_false_eq_true, Nat.not_lt_zero, Nat.le_zero_eq, Nat.reduceAdd, Nat.reduceMul, Nat.reduceSub, Nat.reduceEqDiff, Nat.reduceLT, Nat.reduceLeDiff, sC_def, sR_def, sC_1, sC_2, sR_1, sR_2, sC_st, sR_st, sR_no, sR_refuse, and_self, true_and, and_true, false_and, and_false, f_X4_bearerBySteps, c4, o1, hp0, i_rem]
      have b2 : f_X4_spotFrom P (Int32.ofNat (w (3 * k))) (Int32.ofNat sp) = Int32.ofNat ((w (3 * k) + sp) % 10) := by
        simp (maxSteps := 1000000) (disch := omega) only [ne_eq, i_lt0, i_le0, i_eq0, i_n1, i_ltl, i_lel, i_eql, i_lt, i_le, i_eq, i_in, i_tn, i_add, i_addl, i_addr, i_mul, i_mulr, i_mull, if_true, if_false, eq_self, decide_eq_true_eq, decide_true, decide_false, Option.bind_some, Option.bind_none, ↓fu_ltd, ↓reduceIte, ↓ob_ite, ↓ob_asc, Bool.false_eq_true, Bool.true_eq_false, not_true_eq_false, not_false_eq_true, Nat.not_lt_zero, Nat.le_zero_eq, Nat.reduceAdd, Nat.reduceMul, Nat.reduceSub, Nat.reduceEqDiff, Nat.reduceLT, Nat.reduceLeDiff, sC_def, sR_def, sC_1, sC_2, sR_1, sR_2, sC_st, sR_st, sR_no, sR_refuse, and_self, true_and, and_true, false_and, and_false, f_X4_spotFrom, i_rem10]
      have l1 : (w (3 * k) + st) % D 0 4 < D 0 4 := Nat.mod_lt _ (by omega)
      have l2 : (w (3 * k) + sp) % 10 < 10 := Nat.mod_lt _ (by omega)
      generalize (w (3 * k) + st) % D 0 4 = A at *
      generalize (w (3 * k) + sp) % 10 = B at *
      show l_X1_isLaw_3 (f + 1) s P (Int32.ofNat t) (Int32.ofNat m) (Int32.ofNat (10 * st + sp)) (Int32.ofNat k) = _
      generalize Int32.ofNat (10 * st + sp) = L at *
      by_cases g1 : w (3 * k + 1) = A
      · have g2 : ¬ w (3 * k + 2) = B := fun z => hc ⟨g1.symm, z.symm⟩
        simp (maxSteps := 1000000) (disch := omega) only [ne_eq, i_lt0, i_le0, i_eq0, i_n1, i_ltl, i_lel, i_eql, i_lt, i_le, i_eq, i_in, i_tn, i_add, i_addl, i_addr, i_mul, i_mulr, i_mull, if_true, if_false, eq_self, decide_eq_true_eq, decide_true, decide_false, Option.bind_some, Option.bind_none, ↓fu_ltd, ↓reduceIte, ↓ob_ite, ↓ob_asc, Bool.false_eq_true, Bool.true_eq_false, not_true_eq_false, not_false_eq_true, Nat.not_lt_zero, Nat.le_zero_eq, Nat.reduceAdd, Nat.reduceMul, Nat.reduceSub, Nat.reduceEqDiff, Nat.reduceLT, Nat.reduceLeDiff, sC_def, sR_def, sC_1, sC_2, sR_1, sR_2, sC_st, sR_st, sR_no, sR_refuse, and_self, true_and, and_true, false_and, and_false, l_X1_isLaw_3, hk, hk15, e0, e1, e2, j_32, dq', dr, b1, b2, j_of, j_eq, g1, g2]
      · simp (maxSteps := 1000000) (disch := omega) only [ne_eq, i_lt0, i_le0, i_eq0, i_n1, i_ltl, i_lel, i_eql, i_lt, i_le, i_eq, i_in, i_tn, i_add, i_addl, i_addr, i_mul, i_mulr, i_mull, if_true, if_false, eq_self, decide_eq_true_eq, decide_true, decide_false, Option.bind_some, Option.bind_none, ↓fu_ltd, ↓reduceIte, ↓ob_ite, ↓ob_asc, Bool.false_eq_true, Bool.true_eq_false, not_true_eq_false, not_false_eq_true, Nat.not_lt_zero, Nat.le_zero_eq, Nat.reduceAdd, Nat.reduceMul, Nat.reduceSub, Nat.reduceEqDiff, Nat.reduceLT, Nat.reduceLeDiff, sC_def, sR_def, sC_1, sC_2, sR_1, sR_2, sC_st, sR_st, sR_no, sR_refuse, and_self, true_and, and_true, false_and, and_false, l_X1_isLaw_3, hk, hk15, e0, e1, e2, j_32, dq', dr, b1, b2, j_of, j_eq, g1]) (fun f => by
      simp (maxSteps := 1000000) (disch := omega) only [ne_eq, i_lt0, i_le0, i_eq0, i_n1, i_ltl, i_lel, i_eql, i_lt, i_le, i_eq, i_in, i_tn, i_add, i_addl, i_addr, i_mul, i_mulr, i_mull, if_true, if_false, eq_self, decide_eq_true_eq, decide_true, decide_false, Option.bind_some, Option.bind_none, ↓fu_ltd, ↓reduceIte, ↓ob_ite, ↓ob_asc, Bool.false_eq_true, Bool.true_eq_false, not_true_eq_false, not_false_eq_true, Nat.not_lt_zero, Nat.le_zero_eq, Nat.reduceAdd, Nat.reduceMul, Nat.reduceSub, Nat.reduceEqDiff, Nat.reduceLT, Nat.reduceLeDiff, sC_def, sR_def, sC_1, sC_2, sR_1, sR_2, sC_st, sR_st, sR_no, sR_refuse, and_self, true_and, and_true, false_and, and_false, l_X1_isLaw_3, Nat.lt_irrefl]) (f := fu_N) (k := 0) (by omega) (fu_N_gt (by omega))
  unfold f_X1_isLaw
  rcases hL with ⟨h1, h2⟩ | ⟨h1, h2⟩
  · rw [show d_allb (d_lw (D 0 4) w st sp) m = true from d_allb_iff.mpr fun j hj => h1 j (by omega) hj]
    exact (congrArg (fun z => Option.bind z _) h2).trans rfl
  · rw [show d_allb (d_lw (D 0 4) w st sp) m = false from Bool.eq_false_iff.mpr fun z => h1 fun j _ hj => d_allb_iff.mp z j hj]
    exact (congrArg (fun z => Option.bind z _) h2).trans rfl
theorem r_isLaw (h : dR s 0 D) (hv : dV D) (ht : t < 4) (hm : 3 * m ≤ 60) (hw : ∀ p, p < 3 * m → s.2 120 (60 * t + p) = Int64.ofNat (w p)) (ho : ∀ k, k < m → w (3 * k) < D 0 4 ∧ w (3 * k + 1) < D 0 4 ∧ w (3 * k + 2) < 10) (hst : st < 10) (hsp : sp < 10) : f_X12_isLaw s (Int32.ofNat t) (Int32.ofNat m) (Int32.ofNat st) (Int32.ofNat sp) = some (d_allb (d_lw (D 0 4) w st sp) m) := by
  have hp4 := hv.1
  have c4 := (dR_0 h).1.2.1
  have hL := lp_all (l := fun f k => l_X12_isLaw_3 f s (Int32.ofNat t) (Int32.ofNat m) (Int32.ofNat st) (Int32.ofNat sp) (Int32.ofNat k)) (N := m) (c := fun k => d_lw (D 0 4) w st sp k = true) (a := false) (fun f k hk hc => by
      obtain ⟨o1, o2, o3⟩ := ho k hk
      have e0 := r_numOf (s := s) (t := t) (p := 3 * k) ht (by omega)
      have e1 := r_numOf (s := s) (t := t) (p := 3 * k + 1) ht (by omega)
      have e2 := r_numOf (s := s) (t := t) (p := 3 * k + 2) ht (by omega)
      rw [hw _ (by omega)] at e0 e1 e2
      have hp0 : ¬ D 0 4 = 0 := by omega
      unfold d_lw at hc
      rw [Bool.and_eq_true, decide_eq_true_eq, decide_eq_true_eq] at hc
      obtain ⟨g1, g2⟩ := hc
      rw [Nat.add_comm _ sp] at g2
      simp (maxSteps := 1000000) (disch := omega) only [ne_eq, i_lt0, i_le0, i_eq0, i_n1, i_ltl, i_lel, i_eql, i_lt, i_le, i_eq, i_in, i_tn, i_add, i_addl, i_addr, i_mul, i_mulr, i_mull, if_true, if_false, eq_self, decide_eq_true_eq, decide_true, decide_false, Option.bind_some, Option.bind_none, ↓fu_ltd, ↓reduceIte, ↓ob_ite, ↓ob_asc, Bool.false_eq_true, Bool.true_eq_false, not_true_eq_false, not_false_eq_true, Nat.not_lt_zero, Nat.le_zero_eq, Nat.reduceAdd, Nat.reduceMul, Nat.reduceSub, Nat.reduceEqDiff, Nat.reduceLT, Nat.reduceLeDiff, sC_def, sR_def, sC_1, sC_2, sR_1, sR_2, sC_st, sR_st, sR_no, sR_refuse, and_self, true_and, and_true, false_and, and_false, l_X12_isLaw_3, hk, e0, e1, e2, j_32, c4, hp0, i_rem, i_rem10, g1, g2, j_of, i_add1]) (fun f k hk hc => by
      obtain ⟨o1, o2, o3⟩ := ho k hk
      have e0 := r_numOf (s := s) (t := t) (p := 3 * k) ht (by omega)
      have e1 := r_numOf (s := s) (t := t) (p := 3 * k + 1) ht (by omega)
      have e2 := r_numOf (s := s) (t := t) (p := 3 * k + 2) ht (by omega)
      rw [hw _ (by omega)] at e0 e1 e2
      have hp0 : ¬ D 0 4 = 0 := by omega
      unfold d_lw at hc
      rw [Bool.and_eq_true, decide_eq_true_eq, decide_eq_true_eq] at hc
      have l1 : (w (3 * k) + st) % D 0 4 < D 0 4 := Nat.mod_lt _ (by omega)
      have l2 : (sp + w (3 * k)) % 10 < 10 := Nat.mod_lt _ (by omega)
      rw [Nat.add_comm _ sp] at hc
      have r1 := i_rem (a := w (3 * k) + st) (b := D 0 4) (by omega) (by omega) (by omega)
      have r2 := i_rem10 (a := sp + w (3 * k)) (by omega)
      generalize (w (3 * k) + st) % D 0 4 = A at *
      generalize (sp + w (3 * k)) % 10 = B at *
      by_cases g1 : A = w (3 * k + 1)
      · have g2 : ¬ B = w (3 * k + 2) := fun z => hc ⟨g1, z⟩
        simp (maxSteps := 1000000) (disch := omega) only [ne_eq, i_lt0, i_le0, i_eq0, i_n1, i_ltl, i_lel, i_eql, i_lt, i_le, i_eq, i_in, i_tn, i_add, i_addl, i_addr, i_mul, i_mulr, i_mull, if_true, if_false, eq_self, decide_eq_true_eq, decide_true, decide_false, Option.bind_some, Option.bind_none, ↓fu_ltd, ↓reduceIte, ↓ob_ite, ↓ob_asc, Bool.false_eq_true, Bool.true_eq_false, not_true_eq_false, not_false_eq_true, Nat.not_lt_zero, Nat.le_zero_eq, Nat.reduceAdd, Nat.reduceMul, Nat.reduceSub, Nat.reduceEqDiff, Nat.reduceLT, Nat.reduceLeDiff, sC_def, sR_def, sC_1, sC_2, sR_1, sR_2, sC_st, sR_st, sR_no, sR_refuse, and_self, true_and, and_true, false_and, and_false, l_X12_isLaw_3, hk, e0, e1, e2, j_32, c4, hp0, r1, r2, g1, g2, j_of, j_eq]
      · simp (maxSteps := 1000000) (disch := omega) only [ne_eq, i_lt0, i_le0, i_eq0, i_n1, i_ltl, i_lel, i_eql, i_lt, i_le, i_eq, i_in, i_tn, i_add, i_addl, i_addr, i_mul, i_mulr, i_mull, if_true, if_false, eq_self, decide_eq_true_eq, decide_true, decide_false, Option.bind_some, Option.bind_none, ↓fu_ltd, ↓reduceIte, ↓ob_ite, ↓ob_asc, Bool.false_eq_true, Bool.true_eq_false, not_true_eq_false, not_false_eq_true, Nat.not_lt_zero, Nat.le_zero_eq, Nat.reduceAdd, Nat.reduceMul, Nat.reduceSub, Nat.reduceEqDiff, Nat.reduceLT, Nat.reduceLeDiff, sC_def, sR_def, sC_1, sC_2, sR_1, sR_2, sC_st, sR_st, sR_no, sR_refuse, and_self, true_and, and_true, false_and, and_false, l_X12_isLaw_3, hk, e0, e1, e2, j_32, c4, hp0, r1, r2, g1, j_of, j_eq]) (fun f => by
      simp (maxSteps := 1000000) (disch := omega) only [ne_eq, i_lt0, i_le0, i_eq0, i_n1, i_ltl, i_lel, i_eql, i_lt, i_le, i_eq, i_in, i_tn, i_add, i_addl, i_addr, i_mul, i_mulr, i_mull, if_true, if_false, eq_self, decide_eq_true_eq, decide_true, decide_false, Option.bind_some, Option.bind_none, ↓fu_ltd, ↓reduceIte, ↓ob_ite, ↓ob_asc, Bool.false_eq_true, Bool.true_eq_false, not_true_eq_false, not_false_eq_true, Nat.not_lt_zero, Nat.le_zero_eq, Nat.reduceAdd, Nat.reduceMul, Nat.reduceSub, Nat.reduceEqDiff, Nat.reduceLT, Nat.reduceLeDiff, sC_def, sR_def, sC_1, sC_2, sR_1, sR_2, sC_st, sR_st, sR_no, sR_refuse, and_self, true_and, and_true, false_and, and_false, l_X12_isLaw_3, Nat.lt_irrefl]) (f := fu_N) (k := 0) (by omega) (fu_N_gt (by omega))
  unfold f_X12_isLaw
  rcases hL with ⟨h1, h2⟩ | ⟨h1, h2⟩
  · rw [show d_allb (d_lw (D 0 4) w st sp) m = true from d_allb_iff.mpr fun j hj => h1 j (by omega) hj]
    exact (congrArg (fun z => Option.bind z _) h2).trans rfl
  · rw [show d_allb (d_lw (D 0 4) w st sp) m = false from Bool.eq_false_iff.mpr fun z => h1 fun j _ hj => d_allb_iff.mp z j hj]
    exact (congrArg (fun z => Option.bind z _) h2).trans rfl
end LW2
theorem j_mul3 {x : Int32} : (3 * Int32.toInt64 x).toInt = 3 * x.toInt := by
  have h1 := Int32.toInt_lt x
  have h2 := Int32.le_toInt x
  rw [Int64.toInt_mul, show (3 : Int64).toInt = 3 from rfl, Int32.toInt_toInt64, Int.bmod_eq_of_le] <;> omega
theorem r_isInl15 {x : Int32} : f_X12_isIn (Int32.toInt64 x) (0 : Int64) (15 : Int64) = decide (¬ x < 0 ∧ x ≤ 15) := r_isInN (n := 15) (by omega)
/-- why there is no law, for both -/
theorem tr_law {s1 s2 : fu_S} {D : dD} (hC : dC s1 11 D) (hR : dR s2 0 D) (hv : dV D) (hT : dTr s1 s2) (a1 a2 : Int32) : (∃ r, (r = 1 ∨ r = 3 ∨ r = 4 ∨ r = 5) ∧ f_X11_lawStatus s1 a1 a2 = some r ∧ f_X12_whyNoLaw s2 a1 a2 = some r) ∨ ∃ (t m n : Nat) (w : Nat → Nat), t < 4 ∧ n ≤ 60 ∧ 3 * m ≤ n ∧ m ≤ 15 ∧ a1 = Int32.ofNat t ∧ a2 = Int32.ofNat m ∧ f_X11_lawStatus s1 a1 a2 = some 0 ∧ f_X12_whyNoLaw s2 a1 a2 = some 0 ∧ s1.1 4 t = Int32.ofNat n ∧ (∀ p, p < 3 * m → s1.2 2 (60 * t + p) = Int64.ofNat (w p) ∧ s2.2 120 (60 * t + p) = Int64.ofNat (w p)) ∧ ∀ k, k < m → w (3 * k) < D 0 4 ∧ w (3 * k + 1) < D 0 4 ∧ w (3 * k + 2) < 10 := by
  have hp4 := hv.1
  by_cases h1 : ¬ a1 < 0 ∧ a1 < 4
  · obtain ⟨t, ht, rfl⟩ := i_is4 h1
    have ht3 : t ≤ 3 := by omega
    rcases tr_is hT ht with ⟨p1', p2'⟩ | ⟨n, so, hn, hso, q1, q2, q3, q4, q5⟩
    · refine .inl ⟨3, .inr (.inl rfl), ?_, ?_⟩
      · simp (maxSteps := 1000000) (disch := omega) only [ne_eq, i_lt0, i_le0, i_eq0, i_n1, i_ltl, i_lel, i_eql, i_lt, i_le, i_eq, i_in, i_tn, i_add, i_addl, i_addr, i_mul, i_mulr, i_mull, if_true, if_false, eq_self, decide_eq_true_eq, decide_true, decide_false, Option.bind_some, Option.bind_none, ↓fu_ltd, ↓reduceIte, ↓ob_ite, ↓ob_asc, Bool.false_eq_true, Bool.true_eq_false, not_true_eq_false, not_false_eq_true, Nat.not_lt_zero, Nat.le_zero_eq, Nat.reduceAdd, Nat.reduceMul, Nat.reduceSub, Nat.reduceEqDiff, Nat.reduceLT, Nat.reduceLeDiff, sC_def, sR_def, sC_1, sC_2, sR_1, sR_2, sC_st, sR_st, sR_no, sR_refuse, and_self, true_and, and_true, false_and, and_false, f_X11_lawStatus, c_isTray, ht, c_there0 ht p1']
      · simp (maxSteps := 1000000) (disch := omega) only [ne_eq, i_lt0, i_le0, i_eq0, i_n1, i_ltl, i_lel, i_eql, i_lt, i_le, i_eq, i_in, i_tn, i_add, i_addl, i_addr, i_mul, i_mulr, i_mull, if_true, if_false, eq_self, decide_eq_true_eq, decide_true, decide_false, Option.bind_some, Option.bind_none, ↓fu_ltd, ↓reduceIte, ↓ob_ite, ↓ob_asc, Bool.false_eq_true, Bool.true_eq_false, not_true_eq_false, not_false_eq_true, Nat.not_lt_zero, Nat.le_zero_eq, Nat.reduceAdd, Nat.reduceMul, Nat.reduceSub, Nat.reduceEqDiff, Nat.reduceLT, Nat.reduceLeDiff, sC_def, sR_def, sC_1, sC_2, sR_1, sR_2, sC_st, sR_st, sR_no, sR_refuse, and_self, true_and, and_true, false_and, and_false, f_X12_whyNoLaw, f_X12_isTray, r_isInl3, ht, ht3, p2', i_n1lt]
    · have hlen : f_X7_lengthOf s1 (Int32.ofNat t) = some (Int32.ofNat n) := by
        simp (maxSteps := 1000000) (disch := omega) only [ne_eq, i_lt0, i_le0, i_eq0, i_n1, i_ltl, i_lel, i_eql, i_lt, i_le, i_eq, i_in, i_tn, i_add, i_addl, i_addr, i_mul, i_mulr, i_mull, if_true, if_false, eq_self, decide_eq_true_eq, decide_true, decide_false, Option.bind_some, Option.bind_none, ↓fu_ltd, ↓reduceIte, ↓ob_ite, ↓ob_asc, Bool.false_eq_true, Bool.true_eq_false, not_true_eq_false, not_false_eq_true, Nat.not_lt_zero, Nat.le_zero_eq, Nat.reduceAdd, Nat.reduceMul, Nat.reduceSub, Nat.reduceEqDiff, Nat.reduceLT, Nat.reduceLeDiff, sC_def, sR_def, sC_1, sC_2, sR_1, sR_2, sC_st, sR_st, sR_no, sR_refuse, and_self, true_and, and_true, false_and, and_false, f_X7_lengthOf, c_there ht hn q1, ht, q1]
      have w1 := c_there ht hn q1
      have hd3 : Int32.ofNat n / 3 = Int32.ofNat (n / 3) := i_divq (b := 3) (by omega) (by omega) (by omega)
      have hL : ∀ x : Int32, (Int64.ofNat n < 3 * Int32.toInt64 x) ↔ (n : Int) < 3 * x.toInt := fun x => by
        rw [Int64.lt_iff_toInt_lt, j_mul3, j_ti (by omega)]
      by_cases h2 : a2 < 0
      · refine .inl ⟨5, .inr (.inr (.inr rfl)), ?_, ?_⟩
        · have z : a2 ≤ Int32.ofNat (n / 3) := by
            rw [Int32.le_iff_toInt_le, i_ti (by omega)]
            rw [Int32.lt_iff_toInt_lt, show (0 : Int32).toInt = 0 from rfl] at h2
            omega
          simp (maxSteps := 1000000) (disch := omega) only [ne_eq, i_lt0, i_le0, i_eq0, i_n1, i_ltl, i_lel, i_eql, i_lt, i_le, i_eq, i_in, i_tn, i_add, i_addl, i_addr, i_mul, i_mulr, i_mull, if_true, if_false, eq_self, decide_eq_true_eq, decide_true, decide_false, Option.bind_some, Option.bind_none, ↓fu_ltd, ↓reduceIte, ↓ob_ite, ↓ob_asc, Bool.false_eq_true, Bool.true_eq_false, not_true_eq_false, not_false_eq_true, Nat.not_lt_zero, Nat.le_zero_eq, Nat.reduceAdd, Nat.reduceMul, Nat.reduceSub, Nat.reduceEqDiff, Nat.reduceLT, Nat.reduceLeDiff, sC_def, sR_def, sC_1, sC_2, sR_1, sR_2, sC_st, sR_st, sR_no, sR_refuse, and_self, true_and, and_true, false_and, and_false, f_X11_lawStatus, c_isTray, ht, w1, hlen, hd3, z, h2]
        · have z : ¬ (n : Int) < 3 * a2.toInt := by
            rw [Int32.lt_iff_toInt_lt, show (0 : Int32).toInt = 0 from rfl] at h2
            omega
          have z' : ¬ (Int64.ofNat n < 3 * Int32.toInt64 a2) := fun z0 => z ((hL a2).mp z0)
          have jn : Int32.toInt64 (Int32.ofNat n) = Int64.ofNat n := j_of (by omega)
          simp (maxSteps := 1000000) (disch := omega) only [ne_eq, i_lt0, i_le0, i_eq0, i_n1, i_ltl, i_lel, i_eql, i_lt, i_le, i_eq, i_in, i_tn, i_add, i_addl, i_addr, i_mul, i_mulr, i_mull, if_true, if_false, eq_self, decide_eq_true_eq, decide_true, decide_false, Option.bind_some, Option.bind_none, ↓fu_ltd, ↓reduceIte, ↓ob_ite, ↓ob_asc, Bool.false_eq_true, Bool.true_eq_false, not_true_eq_false, not_false_eq_true, Nat.not_lt_zero, Nat.le_zero_eq, Nat.reduceAdd, Nat.reduceMul, Nat.reduceSub, Nat.reduceEqDiff, Nat.reduceLT, Nat.reduceLeDiff, sC_def, sR_def, sC_1, sC_2, sR_1, sR_2, sC_st, sR_st, sR_no, sR_refuse, and_self, true_and, and_true, false_and, and_false, f_X12_whyNoLaw, f_X12_isTray, r_isInl3, r_isInl15, ht, ht3, q2, jn, z', h2]
      · obtain ⟨m, hm, rfl⟩ := (i_cases a2).resolve_left h2
        have hL' : (Int64.ofNat n < 3 * Int32.toInt64 (Int32.ofNat m)) ↔ n < 3 * m := by
          rw [hL, i_ti hm]; omega
        have jn : Int32.toInt64 (Int32.ofNat n) = Int64.ofNat n := j_of (by omega)
        by_cases h3 : m ≤ n / 3
        · have h3' : ¬ n < 3 * m := by omega
          by_cases h4 : m ≤ 15
          · have g1 := c_threes hC hv ht hn q1 (by omega : 3 * m ≤ n) h4
            have g2 := r_threes hR hv ht (by omega : 3 * m ≤ 60)
            have hok : ∀ j, j < m → (d_ok D (fun p => s1.2 2 (60 * t + p)) j ↔ d_ok D (fun p => s2.2 120 (60 * t + p)) j) := fun j hj => by
              unfold d_ok
              dsimp only
              rw [q5 _ (by omega), q5 _ (by omega), q5 _ (by omega)]
            rcases g1 with ⟨b1, b2⟩ | ⟨b1, b2⟩
            · have b1' : ∀ j, j < m → d_ok D (fun p => s2.2 120 (60 * t + p)) j := fun j hj => (hok j hj).mp (b1 j hj)
              rcases g2 with ⟨b3, b4⟩ | ⟨b3, b4⟩
              · have hw : ∀ k, k < m → ∀ i, i < 3 → s2.2 120 (60 * t + (3 * k + i)) = Int64.ofNat (wv (s2.2 120 (60 * t + (3 * k + i)))) ∧ wv (s2.2 120 (60 * t + (3 * k + i))) < (if i < 2 then D 0 4 else 10) := fun k hk i hi => by
                  obtain ⟨⟨x1, x2⟩, ⟨x3, x4⟩, x5, x6⟩ := b3 k hk
                  have : i = 0 ∨ i = 1 ∨ i = 2 := by omega
                  rcases this with rfl | rfl | rfl
                  · exact j_w (X := D 0 4) (by omega) x1 x2
                  · exact j_w (X := D 0 4) (by omega) x3 x4
                  · exact j_w (X := 10) (by omega) x5 x6
                refine .inr ⟨t, m, n, fun p => wv (s2.2 120 (60 * t + p)), ht, hn, by omega, h4, rfl, rfl, ?_, ?_, q1, fun p hp => ?_, fun k hk => ?_⟩
                · simp (maxSteps := 1000000) (disch := omega) only [ne_eq, i_lt0, i_le0, i_eq0, i_n1, i_ltl, i_lel, i_eql, i_lt, i_le, i_eq, i_in, i_tn, i_add, i_addl, i_addr, i_mul, i_mulr, i_mull, if_true, if_false, eq_self, decide_eq_true_eq, decide_true, decide_false, Option.bind_some, Option.bind_none, ↓fu_ltd, ↓reduceIte, ↓ob_ite, ↓ob_asc, Bool.false_eq_true, Bool.true_eq_false, not_true_eq_false, not_false_eq_true, Nat.not_lt_zero, Nat.le_zero_eq, Nat.reduceAdd, Nat.reduceMul, Nat.reduceSub, Nat.reduceEqDiff, Nat.reduceLT, Nat.reduceLeDiff, sC_def, sR_def, sC_1, sC_2, sR_1, sR_2, sC_st, sR_st, sR_no, sR_refuse, and_self, true_and, and_true, false_and, and_false, f_X11_lawStatus, c_isTray, ht, w1, hlen, hd3, h3, h4, b2]
                · simp (maxSteps := 1000000) (disch := omega) only [ne_eq, i_lt0, i_le0, i_eq0, i_n1, i_ltl, i_lel, i_eql, i_lt, i_le, i_eq, i_in, i_tn, i_add, i_addl, i_addr, i_mul, i_mulr, i_mull, if_true, if_false, eq_self, decide_eq_true_eq, decide_true, decide_false, Option.bind_some, Option.bind_none, ↓fu_ltd, ↓reduceIte, ↓ob_ite, ↓ob_asc, Bool.false_eq_true, Bool.true_eq_false, not_true_eq_false, not_false_eq_true, Nat.not_lt_zero, Nat.le_zero_eq, Nat.reduceAdd, Nat.reduceMul, Nat.reduceSub, Nat.reduceEqDiff, Nat.reduceLT, Nat.reduceLeDiff, sC_def, sR_def, sC_1, sC_2, sR_1, sR_2, sC_st, sR_st, sR_no, sR_refuse, and_self, true_and, and_true, false_and, and_false, f_X12_whyNoLaw, f_X12_isTray, r_isInl3, r_isInl15, ht, ht3, q2, jn, hL', h3', h4, b4, Sum.elim_inr]
                · have y := (hw (p / 3) (by omega) (p % 3) (by omega)).1
                  rw [show 3 * (p / 3) + p % 3 = p by omega] at y
                  exact ⟨(q5 p (by omega)).trans y, y⟩
                · exact ⟨(hw k hk 0 (by omega)).2, (hw k hk 1 (by omega)).2, (hw k hk 2 (by omega)).2⟩
              · exact absurd b1' b3
            · have b1' : ¬ ∀ j, j < m → d_ok D (fun p => s2.2 120 (60 * t + p)) j := fun z => b1 fun j hj => (hok j hj).mpr (z j hj)
              rcases g2 with ⟨b3, b4⟩ | ⟨b3, b4⟩
              · exact absurd b3 b1'
              · refine .inl ⟨5, .inr (.inr (.inr rfl)), ?_, ?_⟩
                · simp (maxSteps := 1000000) (disch := omega) only [ne_eq, i_lt0, i_le0, i_eq0, i_n1, i_ltl, i_lel, i_eql, i_lt, i_le, i_eq, i_in, i_tn, i_add, i_addl, i_addr, i_mul, i_mulr, i_mull, if_true, if_false, eq_self, decide_eq_true_eq, decide_true, decide_false, Option.bind_some, Option.bind_none, ↓fu_ltd, ↓reduceIte, ↓ob_ite, ↓ob_asc, Bool.false_eq_true, Bool.true_eq_false, not_true_eq_false, not_false_eq_true, Nat.not_lt_zero, Nat.le_zero_eq, Nat.reduceAdd, Nat.reduceMul, Nat.reduceSub, Nat.reduceEqDiff, Nat.reduceLT, Nat.reduceLeDiff, sC_def, sR_def, sC_1, sC_2, sR_1, sR_2, sC_st, sR_st, sR_no, sR_refuse, and_self, true_and, and_true, false_and, and_false, f_X11_lawStatus, c_isTray, ht, w1, hlen, hd3, h3, h4, b2]
                · simp (maxSteps := 1000000) (disch := omega) only [ne_eq, i_lt0, i_le0, i_eq0, i_n1, i_ltl, i_lel, i_eql, i_lt, i_le, i_eq, i_in, i_tn, i_add, i_addl, i_addr, i_mul, i_mulr, i_mull, if_true, if_false, eq_self, decide_eq_true_eq, decide_true, decide_false, Option.bind_some, Option.bind_none, ↓fu_ltd, ↓reduceIte, ↓ob_ite, ↓ob_asc, Bool.false_eq_true, Bool.true_eq_false, not_true_eq_false, not_false_eq_true, Nat.not_lt_zero, Nat.le_zero_eq, Nat.reduceAdd, Nat.reduceMul, Nat.reduceSub, Nat.reduceEqDiff, Nat.reduceLT, Nat.reduceLeDiff, sC_def, sR_def, sC_1, sC_2, sR_1, sR_2, sC_st, sR_st, sR_no, sR_refuse, and_self, true_and, and_true, false_and, and_false, f_X12_whyNoLaw, f_X12_isTray, r_isInl3, r_isInl15, ht, ht3, q2, jn, hL', h3', h4, b4, Sum.elim_inl]
          · refine .inl ⟨5, .inr (.inr (.inr rfl)), ?_, ?_⟩
            · simp (maxSteps := 1000000) (disch := omega) only [ne_eq, i_lt0, i_le0, i_eq0, i_n1, i_ltl, i_lel, i_eql, i_lt, i_le, i_eq, i_in, i_tn, i_add, i_addl, i_addr, i_mul, i_mulr, i_mull, if_true, if_false, eq_self, decide_eq_true_eq, decide_true, decide_false, Option.bind_some, Option.bind_none, ↓fu_ltd, ↓reduceIte, ↓ob_ite, ↓ob_asc, Bool.false_eq_true, Bool.true_eq_false, not_true_eq_false, not_false_eq_true, Nat.not_lt_zero, Nat.le_zero_eq, Nat.reduceAdd, Nat.reduceMul, Nat.reduceSub, Nat.reduceEqDiff, Nat.reduceLT, Nat.reduceLeDiff, sC_def, sR_def, sC_1, sC_2, sR_1, sR_2, sC_st, sR_st, sR_no, sR_refuse, and_self, true_and, and_true, false_and, and_false, f_X11_lawStatus, c_isTray, ht, w1, hlen, hd3, h3, h4]
            · simp (maxSteps := 1000000) (disch := omega) only [ne_eq, i_lt0, i_le0, i_eq0, i_n1, i_ltl, i_lel, i_eql, i_lt, i_le, i_eq, i_in, i_tn, i_add, i_addl, i_addr, i_mul, i_mulr, i_mull, if_true, if_false, eq_self, decide_eq_true_eq, decide_true, decide_false, Option.bind_some, Option.bind_none, ↓fu_ltd, ↓reduceIte, ↓ob_ite, ↓ob_asc, Bool.false_eq_true, Bool.true_eq_false, not_true_eq_false, not_false_eq_true, Nat.not_lt_zero, Nat.le_zero_eq, Nat.reduceAdd, Nat.reduceMul, Nat.reduceSub, Nat.reduceEqDiff, Nat.reduceLT, Nat.reduceLeDiff, sC_def, sR_def, sC_1, sC_2, sR_1, sR_2, sC_st, sR_st, sR_no, sR_refuse, and_self, true_and, and_true, false_and, and_false, f_X12_whyNoLaw, f_X12_isTray, r_isInl3, r_isInl15, ht, ht3, q2, jn, hL', h3', h4]
        · have h3' : n < 3 * m := by omega
          refine .inl ⟨4, .inr (.inr (.inl rfl)), ?_, ?_⟩
          · simp (maxSteps := 1000000) (disch := omega) only [ne_eq, i_lt0, i_le0, i_eq0, i_n1, i_ltl, i_lel, i_eql, i_lt, i_le, i_eq, i_in, i_tn, i_add, i_addl, i_addr, i_mul, i_mulr, i_mull, if_true, if_false, eq_self, decide_eq_true_eq, decide_true, decide_false, Option.bind_some, Option.bind_none, ↓fu_ltd, ↓reduceIte, ↓ob_ite, ↓ob_asc, Bool.false_eq_true, Bool.true_eq_false, not_true_eq_false, not_false_eq_true, Nat.not_lt_zero, Nat.le_zero_eq, Nat.reduceAdd, Nat.reduceMul, Nat.reduceSub, Nat.reduceEqDiff, Nat.reduceLT, Nat.reduceLeDiff, sC_def, sR_def, sC_1, sC_2, sR_1, sR_2, sC_st, sR_st, sR_no, sR_refuse, and_self, true_and, and_true, false_and, and_false, f_X11_lawStatus, c_isTray, ht, w1, hlen, hd3, h3]
          · simp (maxSteps := 1000000) (disch := omega) only [ne_eq, i_lt0, i_le0, i_eq0, i_n1, i_ltl, i_lel, i_eql, i_lt, i_le, i_eq, i_in, i_tn, i_add, i_addl, i_addr, i_mul, i_mulr, i_mull, if_true, if_false, eq_self, decide_eq_true_eq, decide_true, decide_false, Option.bind_some, Option.bind_none, ↓fu_ltd, ↓reduceIte, ↓ob_ite, ↓ob_asc, Bool.false_eq_true, Bool.true_eq_false, not_true_eq_false, not_false_eq_true, Nat.not_lt_zero, Nat.le_zero_eq, Nat.reduceAdd, Nat.reduceMul, Nat.reduceSub, Nat.reduceEqDiff, Nat.reduceLT, Nat.reduceLeDiff, sC_def, sR_def, sC_1, sC_2, sR_1, sR_2, sC_st, sR_st, sR_no, sR_refuse, and_self, true_and, and_true, false_and, and_false, f_X12_whyNoLaw, f_X12_isTray, r_isInl3, ht, ht3, q2, jn, hL', h3']
  · have h2' : ¬ (¬ a1 < 0 ∧ a1 ≤ 3) := fun z => h1 ⟨z.1, i_le3.mp z.2⟩
    refine .inl ⟨1, .inl rfl, ?_, ?_⟩
    · simp (maxSteps := 1000000) (disch := omega) only [ne_eq, i_lt0, i_le0, i_eq0, i_n1, i_ltl, i_lel, i_eql, i_lt, i_le, i_eq, i_in, i_tn, i_add, i_addl, i_addr, i_mul, i_mulr, i_mull, if_true, if_false, eq_self, decide_eq_true_eq, decide_true, decide_false, Option.bind_some, Option.bind_none, ↓fu_ltd, ↓reduceIte, ↓ob_ite, ↓ob_asc, Bool.false_eq_true, Bool.true_eq_false, not_true_eq_false, not_false_eq_true, Nat.not_lt_zero, Nat.le_zero_eq, Nat.reduceAdd, Nat.reduceMul, Nat.reduceSub, Nat.reduceEqDiff, Nat.reduceLT, Nat.reduceLeDiff, sC_def, sR_def, sC_1, sC_2, sR_1, sR_2, sC_st, sR_st, sR_no, sR_refuse, and_self, true_and, and_true, false_and, and_false, f_X11_lawStatus, c_isTray, h1]
    · simp (maxSteps := 1000000) (disch := omega) only [ne_eq, i_lt0, i_le0, i_eq0, i_n1, i_ltl, i_lel, i_eql, i_lt, i_le, i_eq, i_in, i_tn, i_add, i_addl, i_addr, i_mul, i_mulr, i_mull, if_true, if_false, eq_self, decide_eq_true_eq, decide_true, decide_false, Option.bind_some, Option.bind_none, ↓fu_ltd, ↓reduceIte, ↓ob_ite, ↓ob_asc, Bool.false_eq_true, Bool.true_eq_false, not_true_eq_false, not_false_eq_true, Nat.not_lt_zero, Nat.le_zero_eq, Nat.reduceAdd, Nat.reduceMul, Nat.reduceSub, Nat.reduceEqDiff, Nat.reduceLT, Nat.reduceLeDiff, sC_def, sR_def, sC_1, sC_2, sR_1, sR_2, sC_st, sR_st, sR_no, sR_refuse, and_self, true_and, and_true, false_and, and_false, f_X12_whyNoLaw, f_X12_isTray, r_isInl3, h2']
