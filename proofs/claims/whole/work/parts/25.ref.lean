/-! the reference's side, in the same words -/
theorem dR_0 {s : fu_S} {D : dD} (h : dR s 0 D) : (s.1 122 0 = Int32.ofNat (D 0 3) ∧ s.1 122 1 = Int32.ofNat (D 0 4) ∧ s.1 122 2 = Int32.ofNat (D 0 5) ∧ s.1 122 3 = Int32.ofNat (D 0 0) ∧ s.1 122 4 = Int32.ofNat (D 0 1) ∧ s.1 122 5 = Int32.ofNat (D 0 2)) ∧
    (∀ k, k < D 0 3 → s.1 122 (6 + k) = Int32.ofNat (D 1 k) ∧ s.1 122 (11 + k) = Int32.ofNat (D 2 k) ∧ s.1 122 (16 + k) = Int32.ofNat (D 3 k)) ∧
    (∀ p, p < D 0 4 → s.2 124 p = Int64.ofNat (D 4 p) ∧ s.1 122 (21 + p) = Int32.ofNat (D 5 p) ∧ s.1 122 (28 + p) = Int32.ofNat (D 6 p)) ∧
    ∀ t, t < D 0 5 → s.1 122 (35 + t) = Int32.ofNat (D 7 t) ∧ s.1 122 (43 + t) = Int32.ofNat (D 8 t) ∧ s.1 122 (51 + t) = Int32.ofNat (D 9 t) ∧ s.1 122 (59 + t) = Int32.ofNat (D 10 t) ∧ s.1 122 (67 + t) = Int32.ofNat (D 11 t) ∧ (D 11 t ≠ 0 → s.1 122 (75 + t) = Int32.ofNat (D 12 t)) := by
  unfold dR at h
  simp only [Nat.mul_zero, Nat.zero_add] at h
  exact h
section REF
variable {s : fu_S} {D : dD} {t p q o k : Nat}
theorem r_bearerBy (h : dR s 0 D) (hv : dV D) (ho : o < D 0 4) (hk : k < D 0 3) : f_X12_bearerBy s (Int32.ofNat o) (Int32.ofNat k) = some (Int32.ofNat (d_by D o k)) := by
  obtain ⟨⟨c0, c1, c2, c3, c4, c5⟩, ck, cp, ct⟩ := dR_0 h
  obtain ⟨k1, k2, k3⟩ := ck k hk
  have hb := dV_k hv hk
  have hp4 := hv.1
  have hp0 : ¬ D 0 4 = 0 := by omega
  have h6 : 6 + k < 1775 := by omega
  simp (disch := omega) only [ne_eq, i_lt0, i_le0, i_eq0, i_n1, i_ltl, i_lel, i_eql, i_lt, i_le, i_eq, i_in, i_tn, i_add, i_addl, i_addr, i_mul, i_mulr, i_mull, if_true, if_false, eq_self, decide_eq_true_eq, decide_true, decide_false, Option.bind_some, Option.bind_none, fu_lt, Bool.false_eq_true, Bool.true_eq_false, not_true_eq_false, not_false_eq_true, Nat.not_lt_zero, Nat.le_zero_eq, Nat.reduceAdd, Nat.reduceMul, Nat.reduceSub, Nat.reduceEqDiff, Nat.reduceLT, Nat.reduceLeDiff, sC_def, sR_def, sC_1, sC_2, sR_1, sR_2, sC_st, sR_st, sR_no, sR_refuse, and_self, true_and, and_true, false_and, and_false, f_X12_bearerBy, c1, k1, i_rem, h6, hp0]
  rfl
theorem r_spotBy (h : dR s 0 D) (hv : dV D) (ho : o < D 0 4) (hk : k < D 0 3) : f_X12_spotBy s (Int32.ofNat o) (Int32.ofNat k) = some (Int32.ofNat (d_spy D o k)) := by
  obtain ⟨⟨c0, c1, c2, c3, c4, c5⟩, ck, cp, ct⟩ := dR_0 h
  obtain ⟨k1, k2, k3⟩ := ck k hk
  have hb := dV_k hv hk
  have hp4 := hv.1
  have h6 : 11 + k < 1775 := by omega
  simp (disch := omega) only [ne_eq, i_lt0, i_le0, i_eq0, i_n1, i_ltl, i_lel, i_eql, i_lt, i_le, i_eq, i_in, i_tn, i_add, i_addl, i_addr, i_mul, i_mulr, i_mull, if_true, if_false, eq_self, decide_eq_true_eq, decide_true, decide_false, Option.bind_some, Option.bind_none, fu_lt, Bool.false_eq_true, Bool.true_eq_false, not_true_eq_false, not_false_eq_true, Nat.not_lt_zero, Nat.le_zero_eq, Nat.reduceAdd, Nat.reduceMul, Nat.reduceSub, Nat.reduceEqDiff, Nat.reduceLT, Nat.reduceLeDiff, sC_def, sR_def, sC_1, sC_2, sR_1, sR_2, sC_st, sR_st, sR_no, sR_refuse, and_self, true_and, and_true, false_and, and_false, f_X12_spotBy, k2, i_rem10, h6]
  rw [Nat.add_comm]
  rfl
theorem r_bearerOf (h : dR s 0 D) (hv : dV D) (ht : t < D 0 5) : f_X12_bearerOf s (Int32.ofNat t) = some (Int32.ofNat (d_b D t)) := by
  have hb := dV_t hv ht
  obtain ⟨t1, t2, t3, t4, t5, t6⟩ := (dR_0 h).2.2.2 t ht
  have e1 := r_bearerBy h hv hb.2.1 hb.2.2.1
  have h6 : 35 + t < 1775 := by omega
  have h7 : 43 + t < 1775 := by omega
  simp (disch := omega) only [ne_eq, i_lt0, i_le0, i_eq0, i_n1, i_ltl, i_lel, i_eql, i_lt, i_le, i_eq, i_in, i_tn, i_add, i_addl, i_addr, i_mul, i_mulr, i_mull, if_true, if_false, eq_self, decide_eq_true_eq, decide_true, decide_false, Option.bind_some, Option.bind_none, fu_lt, Bool.false_eq_true, Bool.true_eq_false, not_true_eq_false, not_false_eq_true, Nat.not_lt_zero, Nat.le_zero_eq, Nat.reduceAdd, Nat.reduceMul, Nat.reduceSub, Nat.reduceEqDiff, Nat.reduceLT, Nat.reduceLeDiff, sC_def, sR_def, sC_1, sC_2, sR_1, sR_2, sC_st, sR_st, sR_no, sR_refuse, and_self, true_and, and_true, false_and, and_false, f_X12_bearerOf, t1, t2, e1, h6, h7]
  rfl
theorem r_spotOf (h : dR s 0 D) (hv : dV D) (ht : t < D 0 5) : f_X12_spotOf s (Int32.ofNat t) = some (Int32.ofNat (d_sp D t)) := by
  have hb := dV_t hv ht
  obtain ⟨t1, t2, t3, t4, t5, t6⟩ := (dR_0 h).2.2.2 t ht
  have e1 := r_spotBy h hv hb.2.1 hb.2.2.1
  have h6 : 35 + t < 1775 := by omega
  have h7 : 43 + t < 1775 := by omega
  simp (disch := omega) only [ne_eq, i_lt0, i_le0, i_eq0, i_n1, i_ltl, i_lel, i_eql, i_lt, i_le, i_eq, i_in, i_tn, i_add, i_addl, i_addr, i_mul, i_mulr, i_mull, if_true, if_false, eq_self, decide_eq_true_eq, decide_true, decide_false, Option.bind_some, Option.bind_none, fu_lt, Bool.false_eq_true, Bool.true_eq_false, not_true_eq_false, not_false_eq_true, Nat.not_lt_zero, Nat.le_zero_eq, Nat.reduceAdd, Nat.reduceMul, Nat.reduceSub, Nat.reduceEqDiff, Nat.reduceLT, Nat.reduceLeDiff, sC_def, sR_def, sC_1, sC_2, sR_1, sR_2, sC_st, sR_st, sR_no, sR_refuse, and_self, true_and, and_true, false_and, and_false, f_X12_spotOf, t1, t2, e1, h6, h7]
  rfl
theorem r_farBy (h : dR s 0 D) (hv : dV D) (hp : p < D 0 4) (hq : q < D 0 4) : f_X12_farBy s (Int32.ofNat p) (Int32.ofNat q) = some (Int32.ofNat (d_far D p q)) := by
  obtain ⟨p1, p2, p3⟩ := (dR_0 h).2.2.1 p hp
  obtain ⟨q1, q2, q3⟩ := (dR_0 h).2.2.1 q hq
  have hpb := dV_p hv hp
  have hqb := dV_p hv hq
  have h6 : 21 + p < 1775 := by omega
  have h7 : 21 + q < 1775 := by omega
  simp (disch := omega) only [ne_eq, i_lt0, i_le0, i_eq0, i_n1, i_ltl, i_lel, i_eql, i_lt, i_le, i_eq, i_in, i_tn, i_add, i_addl, i_addr, i_mul, i_mulr, i_mull, if_true, if_false, eq_self, decide_eq_true_eq, decide_true, decide_false, Option.bind_some, Option.bind_none, fu_lt, Bool.false_eq_true, Bool.true_eq_false, not_true_eq_false, not_false_eq_true, Nat.not_lt_zero, Nat.le_zero_eq, Nat.reduceAdd, Nat.reduceMul, Nat.reduceSub, Nat.reduceEqDiff, Nat.reduceLT, Nat.reduceLeDiff, sC_def, sR_def, sC_1, sC_2, sR_1, sR_2, sC_st, sR_st, sR_no, sR_refuse, and_self, true_and, and_true, false_and, and_false, f_X12_farBy, p2, q2, h6, h7, i_fab]
  rfl
theorem r_wayOf (h : dR s 0 D) (hv : dV D) (ht : t < D 0 5) : f_X12_wayOf s (Int32.ofNat t) = some (Int32.ofNat (d_way D t)) := by
  have hb := dV_t hv ht
  obtain ⟨t1, t2, t3, t4, t5, t6⟩ := (dR_0 h).2.2.2 t ht
  have e1 := r_bearerOf h hv ht
  have e2 := r_farBy h hv hb.2.1 (d_b_lt hv ht)
  have h6 : 35 + t < 1775 := by omega
  simp (disch := omega) only [ne_eq, i_lt0, i_le0, i_eq0, i_n1, i_ltl, i_lel, i_eql, i_lt, i_le, i_eq, i_in, i_tn, i_add, i_addl, i_addr, i_mul, i_mulr, i_mull, if_true, if_false, eq_self, decide_eq_true_eq, decide_true, decide_false, Option.bind_some, Option.bind_none, fu_lt, Bool.false_eq_true, Bool.true_eq_false, not_true_eq_false, not_false_eq_true, Nat.not_lt_zero, Nat.le_zero_eq, Nat.reduceAdd, Nat.reduceMul, Nat.reduceSub, Nat.reduceEqDiff, Nat.reduceLT, Nat.reduceLeDiff, sC_def, sR_def, sC_1, sC_2, sR_1, sR_2, sC_st, sR_st, sR_no, sR_refuse, and_self, true_and, and_true, false_and, and_false, f_X12_wayOf, t1, e1, e2, h6]
  rw [d_far_comm]
  rfl
theorem r_comesUp (h : dR s 0 D) (hv : dV D) (ht : t < D 0 5) : f_X12_comesUp s (Int32.ofNat t) = some (Int32.ofNat (d_up D t)) := by
  have hb := dV_t hv ht
  obtain ⟨t1, t2, t3, t4, t5, t6⟩ := (dR_0 h).2.2.2 t ht
  have e1 := r_wayOf h hv ht
  have h6 : 59 + t < 1775 := by omega
  simp (disch := omega) only [ne_eq, i_lt0, i_le0, i_eq0, i_n1, i_ltl, i_lel, i_eql, i_lt, i_le, i_eq, i_in, i_tn, i_add, i_addl, i_addr, i_mul, i_mulr, i_mull, if_true, if_false, eq_self, decide_eq_true_eq, decide_true, decide_false, Option.bind_some, Option.bind_none, fu_lt, Bool.false_eq_true, Bool.true_eq_false, not_true_eq_false, not_false_eq_true, Nat.not_lt_zero, Nat.le_zero_eq, Nat.reduceAdd, Nat.reduceMul, Nat.reduceSub, Nat.reduceEqDiff, Nat.reduceLT, Nat.reduceLeDiff, sC_def, sR_def, sC_1, sC_2, sR_1, sR_2, sC_st, sR_st, sR_no, sR_refuse, and_self, true_and, and_true, false_and, and_false, f_X12_comesUp, t4, e1, h6]
  rfl
theorem r_isScratched (h : dR s 0 D) (hv : dV D) (ht : t < D 0 5) : f_X12_isScratched s (Int32.ofNat t) = some (decide (D 11 t ≠ 0)) := by
  have hb := dV_t hv ht
  obtain ⟨t1, t2, t3, t4, t5, t6⟩ := (dR_0 h).2.2.2 t ht
  have h6 : 67 + t < 1775 := by omega
  by_cases h0 : D 11 t = 0
  · simp (disch := omega) only [ne_eq, i_lt0, i_le0, i_eq0, i_n1, i_ltl, i_lel, i_eql, i_lt, i_le, i_eq, i_in, i_tn, i_add, i_addl, i_addr, i_mul, i_mulr, i_mull, if_true, if_false, eq_self, decide_eq_true_eq, decide_true, decide_false, Option.bind_some, Option.bind_none, fu_lt, Bool.false_eq_true, Bool.true_eq_false, not_true_eq_false, not_false_eq_true, Nat.not_lt_zero, Nat.le_zero_eq, Nat.reduceAdd, Nat.reduceMul, Nat.reduceSub, Nat.reduceEqDiff, Nat.reduceLT, Nat.reduceLeDiff, sC_def, sR_def, sC_1, sC_2, sR_1, sR_2, sC_st, sR_st, sR_no, sR_refuse, and_self, true_and, and_true, false_and, and_false, f_X12_isScratched, t5, h6, h0]
    try simp
  · simp (disch := omega) only [ne_eq, i_lt0, i_le0, i_eq0, i_n1, i_ltl, i_lel, i_eql, i_lt, i_le, i_eq, i_in, i_tn, i_add, i_addl, i_addr, i_mul, i_mulr, i_mull, if_true, if_false, eq_self, decide_eq_true_eq, decide_true, decide_false, Option.bind_some, Option.bind_none, fu_lt, Bool.false_eq_true, Bool.true_eq_false, not_true_eq_false, not_false_eq_true, Nat.not_lt_zero, Nat.le_zero_eq, Nat.reduceAdd, Nat.reduceMul, Nat.reduceSub, Nat.reduceEqDiff, Nat.reduceLT, Nat.reduceLeDiff, sC_def, sR_def, sC_1, sC_2, sR_1, sR_2, sC_st, sR_st, sR_no, sR_refuse, and_self, true_and, and_true, false_and, and_false, f_X12_isScratched, t5, h6, h0]
    try simp [h0]
theorem r_isUp (h : dR s 0 D) (hv : dV D) (ht : t < D 0 5) : f_X12_isUp s (Int32.ofNat t) = some (d_isUp D t) := by
  have hb := dV_t hv ht
  have hw := d_way_le hv ht
  have hp4 := hv.1
  have e1 := r_isScratched h hv ht
  have e2 := r_comesUp h hv ht
  have e6 := (dR_0 h).1.2.2.2.2.2
  have hu : d_up D t < 2147483648 := by unfold d_up; omega
  unfold d_isUp
  by_cases h0 : D 11 t = 0
  · simp (disch := omega) only [ne_eq, i_lt0, i_le0, i_eq0, i_n1, i_ltl, i_lel, i_eql, i_lt, i_le, i_eq, i_in, i_tn, i_add, i_addl, i_addr, i_mul, i_mulr, i_mull, if_true, if_false, eq_self, decide_eq_true_eq, decide_true, decide_false, Option.bind_some, Option.bind_none, fu_lt, Bool.false_eq_true, Bool.true_eq_false, not_true_eq_false, not_false_eq_true, Nat.not_lt_zero, Nat.le_zero_eq, Nat.reduceAdd, Nat.reduceMul, Nat.reduceSub, Nat.reduceEqDiff, Nat.reduceLT, Nat.reduceLeDiff, sC_def, sR_def, sC_1, sC_2, sR_1, sR_2, sC_st, sR_st, sR_no, sR_refuse, and_self, true_and, and_true, false_and, and_false, f_X12_isUp, e1, e2, e6, h0, ne_eq]
    by_cases h1 : D 0 2 < d_up D t
    · simp [h1, Nat.not_le.mpr h1]
    · simp [h1, Nat.not_lt.mp h1]
  · simp (disch := omega) only [ne_eq, i_lt0, i_le0, i_eq0, i_n1, i_ltl, i_lel, i_eql, i_lt, i_le, i_eq, i_in, i_tn, i_add, i_addl, i_addr, i_mul, i_mulr, i_mull, if_true, if_false, eq_self, decide_eq_true_eq, decide_true, decide_false, Option.bind_some, Option.bind_none, fu_lt, Bool.false_eq_true, Bool.true_eq_false, not_true_eq_false, not_false_eq_true, Nat.not_lt_zero, Nat.le_zero_eq, Nat.reduceAdd, Nat.reduceMul, Nat.reduceSub, Nat.reduceEqDiff, Nat.reduceLT, Nat.reduceLeDiff, sC_def, sR_def, sC_1, sC_2, sR_1, sR_2, sC_st, sR_st, sR_no, sR_refuse, and_self, true_and, and_true, false_and, and_false, f_X12_isUp, e1, h0, ne_eq]
    try rfl
theorem r_isFound (h : dR s 0 D) (hv : dV D) (ht : t < D 0 5) : f_X12_isFound s (Int32.ofNat t) = some (d_isF D t) := by
  have hb := dV_t hv ht
  have hp4 := hv.1
  obtain ⟨t1, t2, t3, t4, t5, t6⟩ := (dR_0 h).2.2.2 t ht
  have e1 := r_isScratched h hv ht
  have e6 := (dR_0 h).1.2.2.2.2.2
  have h6 : 75 + t < 1775 := by omega
  unfold d_isF
  by_cases h0 : D 11 t = 0
  · simp (disch := omega) only [ne_eq, i_lt0, i_le0, i_eq0, i_n1, i_ltl, i_lel, i_eql, i_lt, i_le, i_eq, i_in, i_tn, i_add, i_addl, i_addr, i_mul, i_mulr, i_mull, if_true, if_false, eq_self, decide_eq_true_eq, decide_true, decide_false, Option.bind_some, Option.bind_none, fu_lt, Bool.false_eq_true, Bool.true_eq_false, not_true_eq_false, not_false_eq_true, Nat.not_lt_zero, Nat.le_zero_eq, Nat.reduceAdd, Nat.reduceMul, Nat.reduceSub, Nat.reduceEqDiff, Nat.reduceLT, Nat.reduceLeDiff, sC_def, sR_def, sC_1, sC_2, sR_1, sR_2, sC_st, sR_st, sR_no, sR_refuse, and_self, true_and, and_true, false_and, and_false, f_X12_isFound, e1, h0, ne_eq]
    try rfl
  · have e3 := t6 h0
    simp (disch := omega) only [ne_eq, i_lt0, i_le0, i_eq0, i_n1, i_ltl, i_lel, i_eql, i_lt, i_le, i_eq, i_in, i_tn, i_add, i_addl, i_addr, i_mul, i_mulr, i_mull, if_true, if_false, eq_self, decide_eq_true_eq, decide_true, decide_false, Option.bind_some, Option.bind_none, fu_lt, Bool.false_eq_true, Bool.true_eq_false, not_true_eq_false, not_false_eq_true, Nat.not_lt_zero, Nat.le_zero_eq, Nat.reduceAdd, Nat.reduceMul, Nat.reduceSub, Nat.reduceEqDiff, Nat.reduceLT, Nat.reduceLeDiff, sC_def, sR_def, sC_1, sC_2, sR_1, sR_2, sC_st, sR_st, sR_no, sR_refuse, and_self, true_and, and_true, false_and, and_false, f_X12_isFound, e1, e3, e6, h0, h6, ne_eq]
    by_cases h1 : D 0 2 < D 12 t
    · simp [h1, Nat.not_le.mpr h1]
    · simp [h1, Nat.not_lt.mp h1]
theorem r_has {a b : Nat} (ha : a < 2147483648) (hb : b < 31) : f_X12_has (Int32.ofNat a) (Int32.ofNat b) = a.testBit b := by
  unfold f_X12_has fu_lt
  by_cases h : a.testBit b = true
  · rw [if_pos ((i_bit1 ha hb).mpr h), h]
  · rw [if_neg (fun z => h ((i_bit1 ha hb).mp z))]
    simp at h
    rw [h]
theorem r_could (h : dR s 0 D) (hv : dV D) (ht : t < D 0 5) (hp : p < D 0 4) : f_X12_couldScratch s (Int32.ofNat p) (Int32.ofNat t) = some (d_able D p t) := by
  have hp4 := hv.1
  have hbl := d_b_lt hv ht
  have hb := dV_p hv hp
  have e1 := r_bearerOf h hv ht
  have e2 := r_spotOf h hv ht
  have e3 := ((dR_0 h).2.2.1 p hp).2.2
  have e4 := r_farBy h hv hp hbl
  have e5 := (dR_0 h).1.2.2.2.2.1
  have hf := d_far_le hv hp hbl
  have hs : d_sp D t < 10 := d_spy_lt
  have h6 : 28 + p < 1775 := by omega
  have e6 := r_has (a := D 6 p) (b := d_sp D t) (by omega) (by omega)
  unfold d_able
  by_cases h0 : p = d_b D t
  · rw [if_pos h0]
    simp (disch := omega) only [ne_eq, i_lt0, i_le0, i_eq0, i_n1, i_ltl, i_lel, i_eql, i_lt, i_le, i_eq, i_in, i_tn, i_add, i_addl, i_addr, i_mul, i_mulr, i_mull, if_true, if_false, eq_self, decide_eq_true_eq, decide_true, decide_false, Option.bind_some, Option.bind_none, fu_lt, Bool.false_eq_true, Bool.true_eq_false, not_true_eq_false, not_false_eq_true, Nat.not_lt_zero, Nat.le_zero_eq, Nat.reduceAdd, Nat.reduceMul, Nat.reduceSub, Nat.reduceEqDiff, Nat.reduceLT, Nat.reduceLeDiff, sC_def, sR_def, sC_1, sC_2, sR_1, sR_2, sC_st, sR_st, sR_no, sR_refuse, and_self, true_and, and_true, false_and, and_false, f_X12_couldScratch, e1, e2, e3, e6, h6]
    rw [if_pos h0]
    try rfl
  · simp (disch := omega) only [ne_eq, i_lt0, i_le0, i_eq0, i_n1, i_ltl, i_lel, i_eql, i_lt, i_le, i_eq, i_in, i_tn, i_add, i_addl, i_addr, i_mul, i_mulr, i_mull, if_true, if_false, eq_self, decide_eq_true_eq, decide_true, decide_false, Option.bind_some, Option.bind_none, fu_lt, Bool.false_eq_true, Bool.true_eq_false, not_true_eq_false, not_false_eq_true, Nat.not_lt_zero, Nat.le_zero_eq, Nat.reduceAdd, Nat.reduceMul, Nat.reduceSub, Nat.reduceEqDiff, Nat.reduceLT, Nat.reduceLeDiff, sC_def, sR_def, sC_1, sC_2, sR_1, sR_2, sC_st, sR_st, sR_no, sR_refuse, and_self, true_and, and_true, false_and, and_false, f_X12_couldScratch, e1, h0, e4, e5]
    by_cases h1 : d_far D p (d_b D t) ≤ D 0 1 <;> simp [h1]
end REF
