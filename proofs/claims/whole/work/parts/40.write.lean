/-! trays: write -/
/-- the trays changed, all else as it was -/
theorem dI_tray {s1 t1 s2 t2 : fu_S} (hI : dI s1 s2) (hT : dTr t1 t2) (hst : t1.1 0 15 = t2.1 117 0)
    (h0 : t1.1 0 14 = s1.1 0 14) (h02 : t1.2 0 = s1.2 0) (hc : ∀ a, a ≠ 0 → a ≠ 2 → a ≠ 3 → a ≠ 4 → t1.1 a = s1.1 a ∧ t1.2 a = s1.2 a)
    (h1 : ∀ q, q ≠ 0 → q ≠ 1 → t2.1 117 q = s2.1 117 q) (h12 : t2.2 117 = s2.2 117) (hr : ∀ a, 121 ≤ a → t2.1 a = s2.1 a ∧ t2.2 a = s2.2 a) : dI t1 t2 := by
  obtain ⟨-, ⟨f1, f2⟩, -, hP, hW, hL, hB, m, m1, m2, m3, m4⟩ := hI
  have r122 := hr 122 (by omega)
  have r124 := hr 124 (by omega)
  refine ⟨hst, ⟨by rw [h02, h12]; exact f1, by rw [h02, h12]; exact f2⟩, hT, ?_, ?_, ?_, ?_, m, m1, h0.trans m2, (h1 23 (by omega) (by omega)).trans m3, fun j hj => ?_⟩
  · unfold dTp at hP ⊢
    rw [(hc 5 (by omega) (by omega) (by omega) (by omega)).1, (hc 7 (by omega) (by omega) (by omega) (by omega)).1, h1 8 (by omega) (by omega), h1 10 (by omega) (by omega), h1 11 (by omega) (by omega), (hr 121 (by omega)).1]
    exact hP
  · exact dWd_congr (hc 6 (by omega) (by omega) (by omega) (by omega)).2 (fun i _ _ => by rw [(hc 113 (by omega) (by omega) (by omega) (by omega)).1]) hW
  · unfold dLv at hL ⊢
    rw [(hc 106 (by omega) (by omega) (by omega) (by omega)).1, h1 31 (by omega) (by omega), (hr 127 (by omega)).1]
    exact hL
  · exact dB_congr (fun k hk => hc _ (by omega) (by omega) (by omega) (by omega)) (fun k hk => (hc _ (by omega) (by omega) (by omega) (by omega)).1) (fun i _ _ => by rw [r122.1]) (fun i _ _ => by rw [r124.2]) hB
  · exact dB_congr (fun k hk => hc _ (by omega) (by omega) (by omega) (by omega)) (fun k hk => (hc _ (by omega) (by omega) (by omega) (by omega)).1) (fun i _ _ => by rw [r122.1]) (fun i _ _ => by rw [r124.2]) (m4 j hj)
theorem cut_eq {x : Int32} {y : Int64} : f_X7_cut x y = f_X12_cut x y := by
  unfold f_X7_cut f_X12_cut fu_lt
  rfl
theorem hd_4 : lw_E_4 dI := by
  intro s1 s2 hI a1 a2 a3
  have hT : dTr s1 s2 := hI.2.2.1
  rcases tr_place (dTr_1 hT) a1 a2 with ⟨r, hr, e1, e2⟩ | ⟨t, p, n, ht, hp, hn, rfl, rfl, e1, e2, e3⟩
  · refine ⟨false, sC s1 r, sR s2 r, ?_, ?_, dI_s hI⟩
    · rcases hr with rfl | rfl | rfl
      all_goals simp (disch := omega) only [ne_eq, i_lt0, i_le0, i_eq0, i_n1, i_ltl, i_lel, i_eql, i_lt, i_le, i_eq, i_in, i_tn, i_add, i_addl, i_addr, i_mul, i_mulr, i_mull, if_true, if_false, eq_self, decide_eq_true_eq, decide_true, decide_false, Option.bind_some, Option.bind_none, fu_lt, Bool.false_eq_true, Bool.true_eq_false, not_true_eq_false, not_false_eq_true, Nat.not_lt_zero, Nat.le_zero_eq, Nat.reduceAdd, Nat.reduceMul, Nat.reduceSub, Nat.reduceEqDiff, Nat.reduceLT, Nat.reduceLeDiff, sC_def, sR_def, sC_1, sC_2, sR_1, sR_2, sC_st, sR_st, sR_no, sR_refuse, and_self, true_and, and_true, false_and, and_false, f_X11_write, e1]
      all_goals rfl
    · rcases hr with rfl | rfl | rfl
      all_goals simp (disch := omega) only [ne_eq, i_lt0, i_le0, i_eq0, i_n1, i_ltl, i_lel, i_eql, i_lt, i_le, i_eq, i_in, i_tn, i_add, i_addl, i_addr, i_mul, i_mulr, i_mull, if_true, if_false, eq_self, decide_eq_true_eq, decide_true, decide_false, Option.bind_some, Option.bind_none, fu_lt, Bool.false_eq_true, Bool.true_eq_false, not_true_eq_false, not_false_eq_true, Nat.not_lt_zero, Nat.le_zero_eq, Nat.reduceAdd, Nat.reduceMul, Nat.reduceSub, Nat.reduceEqDiff, Nat.reduceLT, Nat.reduceLeDiff, sC_def, sR_def, sC_1, sC_2, sR_1, sR_2, sC_st, sR_st, sR_no, sR_refuse, and_self, true_and, and_true, false_and, and_false, f_X12_write, e2]
      all_goals rfl
  · rcases hT t ht with ⟨h2, -⟩ | ⟨m, so, hm, hso, h2, h3, h4, h5, h6⟩
    · rw [h2] at e3
      exact absurd e3.symm (by rw [i_n1 (by omega)]; exact not_false)
    · obtain rfl : n = m := by
        rw [h2] at e3
        exact ((i_eq (by omega) (by omega)).mp e3).symm
      have m1 : 60 * t + p < 240 := by omega
      have m3 : t * 60 + p = 60 * t + p := by omega
      have e4 : (sC s1 0).1 4 t = Int32.ofNat n := by rw [sC_1 (by omega)]; exact e3
      have e5 : (sC s1 0).1 3 t = Int32.ofNat so := by rw [sC_1 (by omega)]; exact h4
      have e6 : (sR s2 0).1 118 t = Int32.ofNat so := by rw [sR_1 (by omega)]; exact h5
      have y00 : (0 : Int32) ≤ 0 := by decide
      have z1 : ∀ v, (fu_pl (sC s1 0) 2 (60 * t + p) v).1 0 15 = 0 := fun v => by rw [l1, sC_st]
      refine ⟨true, fu_pl (sC s1 0) 2 (60 * t + p) (f_X12_cut (Int32.ofNat so) a3), fu_pl (sR s2 0) 120 (60 * t + p) (f_X12_cut (Int32.ofNat so) a3), ?_, ?_, dI_tray hI ?_ ?_ ?_ ?_ ?_ ?_ ?_ ?_⟩
      · simp (disch := omega) only [ne_eq, i_lt0, i_le0, i_eq0, i_n1, i_ltl, i_lel, i_eql, i_lt, i_le, i_eq, i_in, i_tn, i_add, i_addl, i_addr, i_mul, i_mulr, i_mull, if_true, if_false, eq_self, decide_eq_true_eq, decide_true, decide_false, Option.bind_some, Option.bind_none, fu_lt, Bool.false_eq_true, Bool.true_eq_false, not_true_eq_false, not_false_eq_true, Nat.not_lt_zero, Nat.le_zero_eq, Nat.reduceAdd, Nat.reduceMul, Nat.reduceSub, Nat.reduceEqDiff, Nat.reduceLT, Nat.reduceLeDiff, sC_def, sR_def, sC_1, sC_2, sR_1, sR_2, sC_st, sR_st, sR_no, sR_refuse, and_self, true_and, and_true, false_and, and_false, f_X11_write, e1, f_X7_put, c_hasPl1 ht hn e4, hp, ht, m1, m3, h4, cut_eq, z1]
      · simp (disch := omega) only [ne_eq, i_lt0, i_le0, i_eq0, i_n1, i_ltl, i_lel, i_eql, i_lt, i_le, i_eq, i_in, i_tn, i_add, i_addl, i_addr, i_mul, i_mulr, i_mull, if_true, if_false, eq_self, decide_eq_true_eq, decide_true, decide_false, Option.bind_some, Option.bind_none, fu_lt, Bool.false_eq_true, Bool.true_eq_false, not_true_eq_false, not_false_eq_true, Nat.not_lt_zero, Nat.le_zero_eq, Nat.reduceAdd, Nat.reduceMul, Nat.reduceSub, Nat.reduceEqDiff, Nat.reduceLT, Nat.reduceLeDiff, sC_def, sR_def, sC_1, sC_2, sR_1, sR_2, sC_st, sR_st, sR_no, sR_refuse, and_self, true_and, and_true, false_and, and_false, f_X12_write, e2, m1, ht, y00, h5]
      · intro j hj
        rw [l1, l1, sC_1 (by omega), sC_1 (by omega), sR_1 (by omega), sR_1 (by omega)]
        rcases hT j hj with h | ⟨n', so', q1, q2, q3, q4, q5, q6, q7⟩
        · exact .inl h
        · refine .inr ⟨n', so', q1, q2, q3, q4, q5, q6, fun i hi => ?_⟩
          by_cases e : 60 * j + i = 60 * t + p
          · rw [e, l2, l2]
          · rw [l2q e, l2q e, sC_2, sR_2]; exact q7 i hi
      · rw [l1, l1, sC_st, sR_st]
      · rw [l1]; rfl
      · rw [l2n (by omega)]; rfl
      · intro a x0 x2 x3 x4
        rw [l1, l2n x2, sC_1 x0, sC_2]; exact ⟨rfl, rfl⟩
      · intro q x0 x1
        rw [l1]; unfold sR; rw [p1q x0, p1q x1]
      · rw [l2n (by omega), sR_2]
      · intro a ha
        rw [l1, l2n (by omega), sR_1 (by omega), sR_2]; exact ⟨rfl, rfl⟩
