/-! feed, lived -/
theorem by_by {x : Int32} : fu_by (fu_by x) = fu_by x := by
  unfold fu_by
  rw [Int8.toInt8_toInt32]
def dTa (s1 s2 : fu_S) (n : Nat) : Prop := s1.1 5 2 = Int32.ofNat n ∧ s2.1 117 8 = Int32.ofNat n ∧ ∀ i, i < n → s1.1 7 i = s2.1 121 i ∧ fu_by (s1.1 7 i) = s1.1 7 i
def aC (s t : fu_S) : Prop := t.2 = s.2 ∧ ∀ a q, a ≠ 7 → ¬ (a = 5 ∧ q = 2) → t.1 a q = s.1 a q
def aR (s t : fu_S) : Prop := t.2 = s.2 ∧ ∀ a q, a ≠ 121 → ¬ (a = 117 ∧ q = 8) → t.1 a q = s.1 a q
theorem aC_rf {s : fu_S} : aC s s := ⟨rfl, fun _ _ _ _ => rfl⟩
theorem aR_rf {s : fu_S} : aR s s := ⟨rfl, fun _ _ _ _ => rfl⟩
theorem aC_tr {s t u : fu_S} (h : aC s t) (g : aC t u) : aC s u := ⟨g.1.trans h.1, fun a q h1 h2 => (g.2 a q h1 h2).trans (h.2 a q h1 h2)⟩
theorem aR_tr {s t u : fu_S} (h : aR s t) (g : aR t u) : aR s u := ⟨g.1.trans h.1, fun a q h1 h2 => (g.2 a q h1 h2).trans (h.2 a q h1 h2)⟩
def apC (s : fu_S) (n : Nat) (x : Int32) : fu_S := fu_pi (fu_pi s 7 n x) 5 2 (Int32.ofNat (n + 1))
def apR (s : fu_S) (n : Nat) (x : Int32) : fu_S := fu_pi (fu_pi s 121 n x) 117 8 (Int32.ofNat (n + 1))
section FEE
variable {s s1 s2 : fu_S} {n f : Nat} {x y z : Int32}
theorem apC_a : aC s (apC s n x) := ⟨rfl, fun a q h1 h2 => by
  unfold apC
  rw [p1r, if_neg h2, p1n h1]⟩
theorem apR_a : aR s (apR s n x) := ⟨rfl, fun a q h1 h2 => by
  unfold apR
  rw [p1r, if_neg h2, p1n h1]⟩
theorem apC_7 : (apC s n x).1 7 = (fu_pi s 7 n x).1 7 := p1n (by omega)
theorem apR_7 : (apR s n x).1 121 = (fu_pi s 121 n x).1 121 := p1n (by omega)
theorem ap_ta (h : dTa s1 s2 n) : dTa (apC s1 n (fu_by x)) (apR s2 n (fu_by x)) (n + 1) := by
  refine ⟨p1, p1, fun i hi => ?_⟩
  rw [apC_7, apR_7]
  by_cases e : i = n
  · subst e
    rw [p1, p1]
    exact ⟨rfl, by_by⟩
  · rw [p1q e, p1q e]
    exact h.2.2 i (by omega)
theorem c_ap1 (h1 : s.1 5 2 = Int32.ofNat n) (hn : n < 900) (hy : ¬ y < 0) : l_X8_append_3 (f + 1) s x y = l_X8_append_3 f (apC s n (fu_by (Int8.toInt32 (Int32.toInt8 (x >>> (y &&& 31)))))) x (y + -8) := by
  have e1 : ∀ w, (fu_pi s 7 n w).1 5 2 = Int32.ofNat n := fun w => by rw [p1n (by omega)]; exact h1
  simp (maxSteps := 1000000) (disch := omega) only [ne_eq, i_lt0, i_le0, i_eq0, i_n1, i_ltl, i_lel, i_eql, i_lt, i_le, i_eq, i_in, i_tn, i_add, i_addl, i_addr, i_mul, i_mulr, i_mull, if_true, if_false, eq_self, decide_eq_true_eq, decide_true, decide_false, Option.bind_some, Option.bind_none, ↓fu_ltd, ↓reduceIte, ↓ob_ite, ↓ob_asc, Bool.false_eq_true, Bool.true_eq_false, not_true_eq_false, not_false_eq_true, Nat.not_lt_zero, Nat.le_zero_eq, Nat.reduceAdd, Nat.reduceMul, Nat.reduceSub, Nat.reduceEqDiff, Nat.reduceLT, Nat.reduceLeDiff, sC_def, sR_def, sC_1, sC_2, sR_1, sR_2, sC_st, sR_st, sR_no, sR_refuse, and_self, true_and, and_true, false_and, and_false, l_X8_append_3, h1, hn, hy, e1, i_add1]
  rfl
theorem r_ap1 (h1 : s.1 117 8 = Int32.ofNat n) (hn : n < 900) (hy : ¬ y < 0) (hz : ((8 : Int32) * y) = z) : l_X12_lay_2 (f + 1) s x y = l_X12_lay_2 f (apR s n (fu_by (Int8.toInt32 (Int32.toInt8 (x >>> (z &&& 31)))))) x (y + -1) := by
  have e1 : ∀ w, (fu_pi s 121 n w).1 117 8 = Int32.ofNat n := fun w => by rw [p1n (by omega)]; exact h1
  subst hz
  simp (maxSteps := 1000000) (disch := omega) only [ne_eq, i_lt0, i_le0, i_eq0, i_n1, i_ltl, i_lel, i_eql, i_lt, i_le, i_eq, i_in, i_tn, i_add, i_addl, i_addr, i_mul, i_mulr, i_mull, if_true, if_false, eq_self, decide_eq_true_eq, decide_true, decide_false, Option.bind_some, Option.bind_none, ↓fu_ltd, ↓reduceIte, ↓ob_ite, ↓ob_asc, Bool.false_eq_true, Bool.true_eq_false, not_true_eq_false, not_false_eq_true, Nat.not_lt_zero, Nat.le_zero_eq, Nat.reduceAdd, Nat.reduceMul, Nat.reduceSub, Nat.reduceEqDiff, Nat.reduceLT, Nat.reduceLeDiff, sC_def, sR_def, sC_1, sC_2, sR_1, sR_2, sC_st, sR_st, sR_no, sR_refuse, and_self, true_and, and_true, false_and, and_false, l_X12_lay_2, h1, hn, hy, e1, i_add1]
  rfl
theorem ap_4 (h : dTa s1 s2 n) (hn : n + 4 ≤ 900) : ∃ t1 t2, f_X8_append s1 x = some t1 ∧ f_X12_lay s2 x = some t2 ∧ dTa t1 t2 (n + 4) ∧ aC s1 t1 ∧ aR s2 t2 := by
  have k1 := ap_ta (x := Int8.toInt32 (Int32.toInt8 (x >>> (24 &&& 31)))) h
  have k2 := ap_ta (x := Int8.toInt32 (Int32.toInt8 (x >>> (16 &&& 31)))) k1
  have k3 := ap_ta (x := Int8.toInt32 (Int32.toInt8 (x >>> (8 &&& 31)))) k2
  have k4 := ap_ta (x := Int8.toInt32 (Int32.toInt8 (x >>> (0 &&& 31)))) k3
  refine ⟨_, _, ?_, ?_, k4, aC_tr (aC_tr (aC_tr apC_a apC_a) apC_a) apC_a, aR_tr (aR_tr (aR_tr apR_a apR_a) apR_a) apR_a⟩
  · have e : l_X8_append_3 (4091 + 1 + 1 + 1 + 1 + 1) s1 x 24 = some (apC (apC (apC (apC s1 n (fu_by (Int8.toInt32 (Int32.toInt8 (x >>> (24 &&& 31)))))) (n + 1) (fu_by (Int8.toInt32 (Int32.toInt8 (x >>> (16 &&& 31)))))) (n + 1 + 1) (fu_by (Int8.toInt32 (Int32.toInt8 (x >>> (8 &&& 31)))))) (n + 1 + 1 + 1) (fu_by (Int8.toInt32 (Int32.toInt8 (x >>> (0 &&& 31)))))) := by
      rw [c_ap1 h.1 (by omega) (by decide), show (24 : Int32) + -8 = 16 from rfl, c_ap1 k1.1 (by omega) (by decide), show (16 : Int32) + -8 = 8 from rfl, c_ap1 k2.1 (by omega) (by decide), show (8 : Int32) + -8 = 0 from rfl, c_ap1 k3.1 (by omega) (by decide), show (0 : Int32) + -8 = -8 from rfl, l_X8_append_3]
      exact if_pos (by decide)
    exact (congrArg (fun z => Option.bind z _) e).trans rfl
  · have e : l_X12_lay_2 (4091 + 1 + 1 + 1 + 1 + 1) s2 x 3 = some (apR (apR (apR (apR s2 n (fu_by (Int8.toInt32 (Int32.toInt8 (x >>> (24 &&& 31)))))) (n + 1) (fu_by (Int8.toInt32 (Int32.toInt8 (x >>> (16 &&& 31)))))) (n + 1 + 1) (fu_by (Int8.toInt32 (Int32.toInt8 (x >>> (8 &&& 31)))))) (n + 1 + 1 + 1) (fu_by (Int8.toInt32 (Int32.toInt8 (x >>> (0 &&& 31)))))) := by
      rw [r_ap1 (z := 24) h.2.1 (by omega) (by decide) rfl, show (3 : Int32) + -1 = 2 from rfl, r_ap1 (z := 16) k1.2.1 (by omega) (by decide) rfl, show (2 : Int32) + -1 = 1 from rfl, r_ap1 (z := 8) k2.2.1 (by omega) (by decide) rfl, show (1 : Int32) + -1 = 0 from rfl, r_ap1 (z := 0) k3.2.1 (by omega) (by decide) rfl, show (0 : Int32) + -1 = -1 from rfl, l_X12_lay_2]
      exact if_pos (by decide)
    exact (congrArg (fun z => Option.bind z _) e).trans rfl
end FEE
theorem dI_tape {s1 t1 s2 t2 : fu_S} {n : Nat} (hI : dI s1 s2) (hn : n ≤ 900) (hT : dTa t1 t2 n) (hc : aC s1 t1) (hr : aR s2 t2) : dI t1 t2 := by
  obtain ⟨hs, ⟨f1, f2⟩, hTr, ⟨-, hP8, hP9⟩, hW, hL, hB, m, m1, m2, m3, m4⟩ := hI
  obtain ⟨c2, c1⟩ := hc
  obtain ⟨r2, r1⟩ := hr
  have cf : ∀ a, a ≠ 7 → a ≠ 5 → t1.1 a = s1.1 a := fun a h h' => funext fun q => c1 a q h (fun z => h' z.1)
  have rf : ∀ a, a ≠ 121 → a ≠ 117 → t2.1 a = s2.1 a := fun a h h' => funext fun q => r1 a q h (fun z => h' z.1)
  refine ⟨by rw [c1 0 15 (by omega) (by omega), r1 117 0 (by omega) (by omega)]; exact hs, ⟨by rw [c2, r2]; exact f1, by rw [c2, r2]; exact f2⟩, ?_, ⟨⟨n, hn, hT⟩, ?_, ?_⟩, ?_, ?_, ?_, m, m1, (c1 0 14 (by omega) (by omega)).trans m2, (r1 117 23 (by omega) (by omega)).trans m3, fun j hj => ?_⟩
  · intro t ht
    rw [cf 4 (by omega) (by omega), cf 3 (by omega) (by omega), c2, r2, rf 119 (by omega) (by omega), rf 118 (by omega) (by omega)]
    exact hTr t ht
  · rw [c1 5 8 (by omega) (by omega), r1 117 10 (by omega) (by omega)]; exact hP8
  · rw [c1 5 9 (by omega) (by omega), r1 117 11 (by omega) (by omega)]; exact hP9
  · exact dWd_congr (by rw [c2]) (fun i _ _ => c1 113 i (by omega) (by omega)) hW
  · unfold dLv at hL ⊢
    rw [cf 106 (by omega) (by omega), r1 117 31 (by omega) (by omega), rf 127 (by omega) (by omega)]
    exact hL
  · exact dB_congr (fun k hk => ⟨cf _ (by omega) (by omega), by rw [c2]⟩) (fun k hk => cf _ (by omega) (by omega)) (fun i _ _ => by rw [rf 122 (by omega) (by omega)]) (fun i _ _ => by rw [r2]) hB
  · exact dB_congr (fun k hk => ⟨cf _ (by omega) (by omega), by rw [c2]⟩) (fun k hk => cf _ (by omega) (by omega)) (fun i _ _ => by rw [rf 122 (by omega) (by omega)]) (fun i _ _ => by rw [r2]) (m4 j hj)
theorem hd_7 : lw_E_7 dI := by
  intro s1 s2 hI a1 a2 a3 a4 a5
  have hI' := dI_1 hI
  obtain ⟨n, hn, g1, g2, g3⟩ := hI'.2.2.2.1.1
  have e0 : f_X8_hasRoomFor s1 20 = decide (n + 20 ≤ 900) := by
    unfold f_X8_hasRoomFor fu_lt
    rw [g1, show (900 : Int32) = Int32.ofNat 900 from rfl, i_sub hn, show (20 : Int32) = Int32.ofNat 20 from rfl]
    by_cases h : n + 20 ≤ 900
    · rw [if_pos ((i_le (by omega) (by omega)).mpr (by omega)), decide_eq_true h]
    · rw [if_neg (fun z => h (by have := (i_le (by omega) (by omega)).mp z; omega)), decide_eq_false h]
  by_cases h : n + 20 ≤ 900
  · obtain ⟨t1, u1, x1, y1, z1, v1, w1⟩ := ap_4 (x := a1) ⟨g1, g2, g3⟩ (by omega)
    obtain ⟨t2, u2, x2, y2, z2, v2, w2⟩ := ap_4 (x := a2) z1 (by omega)
    obtain ⟨t3, u3, x3, y3, z3, v3, w3⟩ := ap_4 (x := a3) z2 (by omega)
    obtain ⟨t4, u4, x4, y4, z4, v4, w4⟩ := ap_4 (x := a4) z3 (by omega)
    obtain ⟨t5, u5, x5, y5, z5, v5, w5⟩ := ap_4 (x := a5) z4 (by omega)
    refine ⟨Int32.ofNat (n + 4 + 4 + 4 + 4 + 4), t5, u5, ?_, ?_, dI_tape hI' (by omega) z5 (aC_tr (aC_tr (aC_tr (aC_tr v1 v2) v3) v4) v5) (aR_tr (aR_tr (aR_tr (aR_tr w1 w2) w3) w4) w5)⟩
    · have q := z5.1
      rw [decide_eq_true h] at e0
      simp (maxSteps := 1000000) (disch := omega) only [ne_eq, i_lt0, i_le0, i_eq0, i_n1, i_ltl, i_lel, i_eql, i_lt, i_le, i_eq, i_in, i_tn, i_add, i_addl, i_addr, i_mul, i_mulr, i_mull, if_true, if_false, eq_self, decide_eq_true_eq, decide_true, decide_false, Option.bind_some, Option.bind_none, ↓fu_ltd, ↓reduceIte, ↓ob_ite, ↓ob_asc, Bool.false_eq_true, Bool.true_eq_false, not_true_eq_false, not_false_eq_true, Nat.not_lt_zero, Nat.le_zero_eq, Nat.reduceAdd, Nat.reduceMul, Nat.reduceSub, Nat.reduceEqDiff, Nat.reduceLT, Nat.reduceLeDiff, sC_def, sR_def, sC_1, sC_2, sR_1, sR_2, sC_st, sR_st, sR_no, sR_refuse, and_self, true_and, and_true, false_and, and_false, f_X11_feed, e0, x1, x2, x3, x4, x5, f_X8_size, q]
    · have q := z5.2.1
      simp (maxSteps := 1000000) (disch := omega) only [ne_eq, i_lt0, i_le0, i_eq0, i_n1, i_ltl, i_lel, i_eql, i_lt, i_le, i_eq, i_in, i_tn, i_add, i_addl, i_addr, i_mul, i_mulr, i_mull, if_true, if_false, eq_self, decide_eq_true_eq, decide_true, decide_false, Option.bind_some, Option.bind_none, ↓fu_ltd, ↓reduceIte, ↓ob_ite, ↓ob_asc, Bool.false_eq_true, Bool.true_eq_false, not_true_eq_false, not_false_eq_true, Nat.not_lt_zero, Nat.le_zero_eq, Nat.reduceAdd, Nat.reduceMul, Nat.reduceSub, Nat.reduceEqDiff, Nat.reduceLT, Nat.reduceLeDiff, sC_def, sR_def, sC_1, sC_2, sR_1, sR_2, sC_st, sR_st, sR_no, sR_refuse, and_self, true_and, and_true, false_and, and_false, f_X12_feed, g2, h, y1, y2, y3, y4, y5, q]
  · refine ⟨-1, s1, fu_pi s2 117 1 0, ?_, ?_, hI'⟩
    · rw [decide_eq_false h] at e0
      simp (maxSteps := 1000000) (disch := omega) only [ne_eq, i_lt0, i_le0, i_eq0, i_n1, i_ltl, i_lel, i_eql, i_lt, i_le, i_eq, i_in, i_tn, i_add, i_addl, i_addr, i_mul, i_mulr, i_mull, if_true, if_false, eq_self, decide_eq_true_eq, decide_true, decide_false, Option.bind_some, Option.bind_none, ↓fu_ltd, ↓reduceIte, ↓ob_ite, ↓ob_asc, Bool.false_eq_true, Bool.true_eq_false, not_true_eq_false, not_false_eq_true, Nat.not_lt_zero, Nat.le_zero_eq, Nat.reduceAdd, Nat.reduceMul, Nat.reduceSub, Nat.reduceEqDiff, Nat.reduceLT, Nat.reduceLeDiff, sC_def, sR_def, sC_1, sC_2, sR_1, sR_2, sC_st, sR_st, sR_no, sR_refuse, and_self, true_and, and_true, false_and, and_false, f_X11_feed, e0]
    · simp (maxSteps := 1000000) (disch := omega) only [ne_eq, i_lt0, i_le0, i_eq0, i_n1, i_ltl, i_lel, i_eql, i_lt, i_le, i_eq, i_in, i_tn, i_add, i_addl, i_addr, i_mul, i_mulr, i_mull, if_true, if_false, eq_self, decide_eq_true_eq, decide_true, decide_false, Option.bind_some, Option.bind_none, ↓fu_ltd, ↓reduceIte, ↓ob_ite, ↓ob_asc, Bool.false_eq_true, Bool.true_eq_false, not_true_eq_false, not_false_eq_true, Nat.not_lt_zero, Nat.le_zero_eq, Nat.reduceAdd, Nat.reduceMul, Nat.reduceSub, Nat.reduceEqDiff, Nat.reduceLT, Nat.reduceLeDiff, sC_def, sR_def, sC_1, sC_2, sR_1, sR_2, sC_st, sR_st, sR_no, sR_refuse, and_self, true_and, and_true, false_and, and_false, f_X12_feed, g2, h]
theorem r_isInl4 {x : Int32} : f_X12_isIn (Int32.toInt64 x) (0 : Int64) (4 : Int64) = decide (¬ x < 0 ∧ x ≤ 4) := r_isInN (n := 4) (by omega)
theorem sR_q {s : fu_S} {x : Int32} {q : Nat} (h0 : q ≠ 0) (h1 : q ≠ 1) : (sR s x).1 117 q = s.1 117 q := by
  unfold sR
  rw [p1q h0, p1q h1]
theorem hd_45 : lw_E_45 dI := by
  intro s1 s2 hI a1
  obtain ⟨hL1, hL2⟩ := hI.2.2.2.2.2.1
  by_cases h1 : ¬ a1 < 0 ∧ a1 ≤ 4
  · obtain ⟨k, hk, rfl⟩ := i_upto (n := 4) (by omega) h1
    have z31 : (sR s2 0).1 117 31 = s2.1 117 31 := sR_q (by omega) (by omega)
    cases hz : fu_tb (s1.1 106 8)
    · have hz2 : fu_tb (s2.1 117 31) = false := by rw [← hL1]; exact hz
      refine ⟨-1, sC s1 8, sR s2 8, ?_, ?_, dI_s hI⟩
      · simp (maxSteps := 1000000) (disch := omega) only [ne_eq, i_lt0, i_le0, i_eq0, i_n1, i_ltl, i_lel, i_eql, i_lt, i_le, i_eq, i_in, i_tn, i_add, i_addl, i_addr, i_mul, i_mulr, i_mull, if_true, if_false, eq_self, decide_eq_true_eq, decide_true, decide_false, Option.bind_some, Option.bind_none, ↓fu_ltd, ↓reduceIte, ↓ob_ite, ↓ob_asc, Bool.false_eq_true, Bool.true_eq_false, not_true_eq_false, not_false_eq_true, Nat.not_lt_zero, Nat.le_zero_eq, Nat.reduceAdd, Nat.reduceMul, Nat.reduceSub, Nat.reduceEqDiff, Nat.reduceLT, Nat.reduceLeDiff, sC_def, sR_def, sC_1, sC_2, sR_1, sR_2, sC_st, sR_st, sR_no, sR_refuse, and_self, true_and, and_true, false_and, and_false, f_X11_lived, f_X3_wasRun, hk, hz]
        try rfl
      · simp (maxSteps := 1000000) (disch := omega) only [ne_eq, i_lt0, i_le0, i_eq0, i_n1, i_ltl, i_lel, i_eql, i_lt, i_le, i_eq, i_in, i_tn, i_add, i_addl, i_addr, i_mul, i_mulr, i_mull, if_true, if_false, eq_self, decide_eq_true_eq, decide_true, decide_false, Option.bind_some, Option.bind_none, ↓fu_ltd, ↓reduceIte, ↓ob_ite, ↓ob_asc, Bool.false_eq_true, Bool.true_eq_false, not_true_eq_false, not_false_eq_true, Nat.not_lt_zero, Nat.le_zero_eq, Nat.reduceAdd, Nat.reduceMul, Nat.reduceSub, Nat.reduceEqDiff, Nat.reduceLT, Nat.reduceLeDiff, sC_def, sR_def, sC_1, sC_2, sR_1, sR_2, sC_st, sR_st, sR_no, sR_refuse, and_self, true_and, and_true, false_and, and_false, f_X12_lived, r_isInl4, hk, z31, hz2]
    · have hz2 : fu_tb (s2.1 117 31) = true := by rw [← hL1]; exact hz
      obtain ⟨q0, q1, q2, q3, q4⟩ := hL2 hz
      have hk5 : k < 5 := by omega
      refine ⟨s2.1 127 k, sC s1 0, sR s2 0, ?_, ?_, dI_s hI⟩
      · have : k = 0 ∨ k = 1 ∨ k = 2 ∨ k = 3 ∨ k = 4 := by omega
        rcases this with rfl | rfl | rfl | rfl | rfl
        · simp (maxSteps := 1000000) (disch := omega) only [ne_eq, i_lt0, i_le0, i_eq0, i_n1, i_ltl, i_lel, i_eql, i_lt, i_le, i_eq, i_in, i_tn, i_add, i_addl, i_addr, i_mul, i_mulr, i_mull, if_true, if_false, eq_self, decide_eq_true_eq, decide_true, decide_false, Option.bind_some, Option.bind_none, ↓fu_ltd, ↓reduceIte, ↓ob_ite, ↓ob_asc, Bool.false_eq_true, Bool.true_eq_false, not_true_eq_false, not_false_eq_true, Nat.not_lt_zero, Nat.le_zero_eq, Nat.reduceAdd, Nat.reduceMul, Nat.reduceSub, Nat.reduceEqDiff, Nat.reduceLT, Nat.reduceLeDiff, sC_def, sR_def, sC_1, sC_2, sR_1, sR_2, sC_st, sR_st, sR_no, sR_refuse, and_self, true_and, and_true, false_and, and_false, f_X11_lived, f_X3_wasRun, f_X3_tally, hk, hz, q0]
        · simp (maxSteps := 1000000) (disch := omega) only [ne_eq, i_lt0, i_le0, i_eq0, i_n1, i_ltl, i_lel, i_eql, i_lt, i_le, i_eq, i_in, i_tn, i_add, i_addl, i_addr, i_mul, i_mulr, i_mull, if_true, if_false, eq_self, decide_eq_true_eq, decide_true, decide_false, Option.bind_some, Option.bind_none, ↓fu_ltd, ↓reduceIte, ↓ob_ite, ↓ob_asc, Bool.false_eq_true, Bool.true_eq_false, not_true_eq_false, not_false_eq_true, Nat.not_lt_zero, Nat.le_zero_eq, Nat.reduceAdd, Nat.reduceMul, Nat.reduceSub, Nat.reduceEqDiff, Nat.reduceLT, Nat.reduceLeDiff, sC_def, sR_def, sC_1, sC_2, sR_1, sR_2, sC_st, sR_st, sR_no, sR_refuse, and_self, true_and, and_true, false_and, and_false, f_X11_lived, f_X3_wasRun, f_X3_tally, hk, hz, q1]
        · simp (maxSteps := 1000000) (disch := omega) only [ne_eq, i_lt0, i_le0, i_eq0, i_n1, i_ltl, i_lel, i_eql, i_lt, i_le, i_eq, i_in, i_tn, i_add, i_addl, i_addr, i_mul, i_mulr, i_mull, if_true, if_false, eq_self, decide_eq_true_eq, decide_true, decide_false, Option.bind_some, Option.bind_none, ↓fu_ltd, ↓reduceIte, ↓ob_ite, ↓ob_asc, Bool.false_eq_true, Bool.true_eq_false, not_true_eq_false, not_false_eq_true, Nat.not_lt_zero, Nat.le_zero_eq, Nat.reduceAdd, Nat.reduceMul, Nat.reduceSub, Nat.reduceEqDiff, Nat.reduceLT, Nat.reduceLeDiff, sC_def, sR_def, sC_1, sC_2, sR_1, sR_2, sC_st, sR_st, sR_no, sR_refuse, and_self, true_and, and_true, false_and, and_false, f_X11_lived, f_X3_wasRun, f_X3_tally, hk, hz, q2]
        · simp (maxSteps := 1000000) (disch := omega) only [ne_eq, i_lt0, i_le0, i_eq0, i_n1, i_ltl, i_lel, i_eql, i_lt, i_le, i_eq, i_in, i_tn, i_add, i_addl, i_addr, i_mul, i_mulr, i_mull, if_true, if_false, eq_self, decide_eq_true_eq, decide_true, decide_false, Option.bind_some, Option.bind_none, ↓fu_ltd, ↓reduceIte, ↓ob_ite, ↓ob_asc, Bool.false_eq_true, Bool.true_eq_false, not_true_eq_false, not_false_eq_true, Nat.not_lt_zero, Nat.le_zero_eq, Nat.reduceAdd, Nat.reduceMul, Nat.reduceSub, Nat.reduceEqDiff, Nat.reduceLT, Nat.reduceLeDiff, sC_def, sR_def, sC_1, sC_2, sR_1, sR_2, sC_st, sR_st, sR_no, sR_refuse, and_self, true_and, and_true, false_and, and_false, f_X11_lived, f_X3_wasRun, f_X3_tally, hk, hz, q3]
        · simp (maxSteps := 1000000) (disch := omega) only [ne_eq, i_lt0, i_le0, i_eq0, i_n1, i_ltl, i_lel, i_eql, i_lt, i_le, i_eq, i_in, i_tn, i_add, i_addl, i_addr, i_mul, i_mulr, i_mull, if_true, if_false, eq_self, decide_eq_true_eq, decide_true, decide_false, Option.bind_some, Option.bind_none, ↓fu_ltd, ↓reduceIte, ↓ob_ite, ↓ob_asc, Bool.false_eq_true, Bool.true_eq_false, not_true_eq_false, not_false_eq_true, Nat.not_lt_zero, Nat.le_zero_eq, Nat.reduceAdd, Nat.reduceMul, Nat.reduceSub, Nat.reduceEqDiff, Nat.reduceLT, Nat.reduceLeDiff, sC_def, sR_def, sC_1, sC_2, sR_1, sR_2, sC_st, sR_st, sR_no, sR_refuse, and_self, true_and, and_true, false_and, and_false, f_X11_lived, f_X3_wasRun, f_X3_tally, hk, hz, q4]
      · simp (maxSteps := 1000000) (disch := omega) only [ne_eq, i_lt0, i_le0, i_eq0, i_n1, i_ltl, i_lel, i_eql, i_lt, i_le, i_eq, i_in, i_tn, i_add, i_addl, i_addr, i_mul, i_mulr, i_mull, if_true, if_false, eq_self, decide_eq_true_eq, decide_true, decide_false, Option.bind_some, Option.bind_none, ↓fu_ltd, ↓reduceIte, ↓ob_ite, ↓ob_asc, Bool.false_eq_true, Bool.true_eq_false, not_true_eq_false, not_false_eq_true, Nat.not_lt_zero, Nat.le_zero_eq, Nat.reduceAdd, Nat.reduceMul, Nat.reduceSub, Nat.reduceEqDiff, Nat.reduceLT, Nat.reduceLeDiff, sC_def, sR_def, sC_1, sC_2, sR_1, sR_2, sC_st, sR_st, sR_no, sR_refuse, and_self, true_and, and_true, false_and, and_false, f_X12_lived, r_isInl4, hk, hk5, z31, hz2]
  · refine ⟨-1, sC s1 5, sR s2 5, ?_, ?_, dI_s hI⟩
    · by_cases h5 : a1 < 0
      · simp (maxSteps := 1000000) (disch := omega) only [ne_eq, i_lt0, i_le0, i_eq0, i_n1, i_ltl, i_lel, i_eql, i_lt, i_le, i_eq, i_in, i_tn, i_add, i_addl, i_addr, i_mul, i_mulr, i_mull, if_true, if_false, eq_self, decide_eq_true_eq, decide_true, decide_false, Option.bind_some, Option.bind_none, ↓fu_ltd, ↓reduceIte, ↓ob_ite, ↓ob_asc, Bool.false_eq_true, Bool.true_eq_false, not_true_eq_false, not_false_eq_true, Nat.not_lt_zero, Nat.le_zero_eq, Nat.reduceAdd, Nat.reduceMul, Nat.reduceSub, Nat.reduceEqDiff, Nat.reduceLT, Nat.reduceLeDiff, sC_def, sR_def, sC_1, sC_2, sR_1, sR_2, sC_st, sR_st, sR_no, sR_refuse, and_self, true_and, and_true, false_and, and_false, f_X11_lived, h5]
        try rfl
      · have h6 : ¬ a1 ≤ 4 := fun z => h1 ⟨h5, z⟩
        simp (maxSteps := 1000000) (disch := omega) only [ne_eq, i_lt0, i_le0, i_eq0, i_n1, i_ltl, i_lel, i_eql, i_lt, i_le, i_eq, i_in, i_tn, i_add, i_addl, i_addr, i_mul, i_mulr, i_mull, if_true, if_false, eq_self, decide_eq_true_eq, decide_true, decide_false, Option.bind_some, Option.bind_none, ↓fu_ltd, ↓reduceIte, ↓ob_ite, ↓ob_asc, Bool.false_eq_true, Bool.true_eq_false, not_true_eq_false, not_false_eq_true, Nat.not_lt_zero, Nat.le_zero_eq, Nat.reduceAdd, Nat.reduceMul, Nat.reduceSub, Nat.reduceEqDiff, Nat.reduceLT, Nat.reduceLeDiff, sC_def, sR_def, sC_1, sC_2, sR_1, sR_2, sC_st, sR_st, sR_no, sR_refuse, and_self, true_and, and_true, false_and, and_false, f_X11_lived, h5, h6]
        try rfl
    · simp (maxSteps := 1000000) (disch := omega) only [ne_eq, i_lt0, i_le0, i_eq0, i_n1, i_ltl, i_lel, i_eql, i_lt, i_le, i_eq, i_in, i_tn, i_add, i_addl, i_addr, i_mul, i_mulr, i_mull, if_true, if_false, eq_self, decide_eq_true_eq, decide_true, decide_false, Option.bind_some, Option.bind_none, ↓fu_ltd, ↓reduceIte, ↓ob_ite, ↓ob_asc, Bool.false_eq_true, Bool.true_eq_false, not_true_eq_false, not_false_eq_true, Nat.not_lt_zero, Nat.le_zero_eq, Nat.reduceAdd, Nat.reduceMul, Nat.reduceSub, Nat.reduceEqDiff, Nat.reduceLT, Nat.reduceLeDiff, sC_def, sR_def, sC_1, sC_2, sR_1, sR_2, sC_st, sR_st, sR_no, sR_refuse, and_self, true_and, and_true, false_and, and_false, f_X12_lived, r_isInl4, h1]
