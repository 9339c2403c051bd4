/-! fractions: both by the greatest common divisor -/
section LNG
variable {a b n : Nat}
theorem j_divq (ha : a < 9223372036854775808) (hb : b < 9223372036854775808) : Int64.ofNat a / Int64.ofNat b = Int64.ofNat (a / b) := by
  have h1 : a / b < 9223372036854775808 := Nat.lt_of_le_of_lt (Nat.div_le_self a b) ha
  apply Int64.toInt_inj.mp
  rw [j_ti h1, Int64.toInt_div, j_ti ha, j_ti hb]
  rw [show ((a : Int).tdiv (b : Int)) = ((a / b : Nat) : Int) from rfl]
  generalize a / b = c at h1
  rw [Int.bmod_eq_of_le] <;> omega
theorem j_mul : Int64.ofNat a * Int64.ofNat b = Int64.ofNat (a * b) := (Int64.ofNat_mul a b).symm
theorem j_sub (h : b ≤ a) : Int64.ofNat a - Int64.ofNat b = Int64.ofNat (a - b) := (Int64.ofNat_sub a b h).symm
theorem j_rem (ha : a < 9223372036854775808) (hb : b < 9223372036854775808) : Int64.ofNat a - Int64.ofNat a / Int64.ofNat b * Int64.ofNat b = Int64.ofNat (a % b) := by
  rw [j_divq ha hb, j_mul, j_sub (Nat.div_mul_le_self a b)]
  congr 1
  have := Nat.div_add_mod a b
  rw [Nat.mul_comm] at this
  omega
theorem j_eq (ha : a < 9223372036854775808) (hb : b < 9223372036854775808) : (Int64.ofNat a = Int64.ofNat b) ↔ a = b := by
  rw [← Int64.toInt_inj, j_ti ha, j_ti hb]; omega
theorem j_eq0 (ha : a < 9223372036854775808) : (Int64.ofNat a = 0) ↔ a = 0 := j_eq (b := 0) ha (by omega)
theorem j_lt (ha : a < 9223372036854775808) (hb : b < 9223372036854775808) : (Int64.ofNat a < Int64.ofNat b) ↔ a < b := by
  rw [Int64.lt_iff_toInt_lt, j_ti ha, j_ti hb]; omega
theorem j_abl (ha : a < 9223372036854775808) : fu_abl (Int64.ofNat a) = Int64.ofNat a := by
  have e : ((0 : Int64) < Int64.ofNat a) ↔ 0 < a := j_lt (a := 0) (by omega) ha
  show (if (0 : Int64) < Int64.ofNat a then Int64.ofNat a else -Int64.ofNat a) = _
  by_cases h : 0 < a
  · rw [if_pos (e.mpr h)]
  · obtain rfl : a = 0 := by omega
    rw [if_neg (fun z => h (e.mp z))]
    rfl
end LNG
theorem eu_half {b r : Nat} (h0 : 0 < r) (h : r ≤ b) : 2 * (b % r) < b := by
  have h1 := Nat.div_add_mod b r
  have h2 := Nat.mod_lt b h0
  have h3 : 1 ≤ b / r := Nat.div_pos h h0
  have h4 : r * 1 ≤ r * (b / r) := Nat.mul_le_mul_left r h3
  omega
theorem eu_c {s : fu_S} {x1 x3 : Int64} : ∀ {k a b i f : Nat}, b < 2 ^ k → a < 2 ^ 62 → b < 2 ^ 62 → i + 2 * k < 200 → 2 * k < f → l_X11_tell_9 f s x1 x3 (Int64.ofNat a) (Int64.ofNat b) (Int32.ofNat i) = some (Int64.ofNat (Nat.gcd a b))
  | 0, a, b, i, f + 1, hb, _, _, hi, _ => by
    obtain rfl : b = 0 := by simpa using hb
    have h1 : i < 200 := by omega
    have h2 : Int64.ofNat 0 = 0 := rfl
    simp (maxSteps := 1000000) (disch := omega) only [ne_eq, i_lt0, i_le0, i_eq0, i_n1, i_ltl, i_lel, i_eql, i_lt, i_le, i_eq, i_in, i_tn, i_add, i_addl, i_addr, i_mul, i_mulr, i_mull, if_true, if_false, eq_self, decide_eq_true_eq, decide_true, decide_false, Option.bind_some, Option.bind_none, ↓fu_ltd, ↓reduceIte, ↓ob_ite, ↓ob_asc, Bool.false_eq_true, Bool.true_eq_false, not_true_eq_false, not_false_eq_true, Nat.not_lt_zero, Nat.le_zero_eq, Nat.reduceAdd, Nat.reduceMul, Nat.reduceSub, Nat.reduceEqDiff, Nat.reduceLT, Nat.reduceLeDiff, sC_def, sR_def, sC_1, sC_2, sR_1, sR_2, sC_st, sR_st, sR_no, sR_refuse, and_self, true_and, and_true, false_and, and_false, l_X11_tell_9, h1, h2, Nat.gcd_zero_right]
  | k + 1, a, b, i, f + 2, hb, ha6, hb6, hi, hf => by
    have h1 : i < 200 := by omega
    have h1' : i + 1 < 200 := by omega
    have a6 : a < 9223372036854775808 := by omega
    have b6 : b < 9223372036854775808 := by omega
    by_cases h0 : b = 0
    · subst h0
      have h2 : Int64.ofNat 0 = 0 := rfl
      simp (maxSteps := 1000000) (disch := omega) only [ne_eq, i_lt0, i_le0, i_eq0, i_n1, i_ltl, i_lel, i_eql, i_lt, i_le, i_eq, i_in, i_tn, i_add, i_addl, i_addr, i_mul, i_mulr, i_mull, if_true, if_false, eq_self, decide_eq_true_eq, decide_true, decide_false, Option.bind_some, Option.bind_none, ↓fu_ltd, ↓reduceIte, ↓ob_ite, ↓ob_asc, Bool.false_eq_true, Bool.true_eq_false, not_true_eq_false, not_false_eq_true, Nat.not_lt_zero, Nat.le_zero_eq, Nat.reduceAdd, Nat.reduceMul, Nat.reduceSub, Nat.reduceEqDiff, Nat.reduceLT, Nat.reduceLeDiff, sC_def, sR_def, sC_1, sC_2, sR_1, sR_2, sC_st, sR_st, sR_no, sR_refuse, and_self, true_and, and_true, false_and, and_false, l_X11_tell_9, h1, h2, Nat.gcd_zero_right]
    · have hr := Nat.mod_lt a (Nat.pos_of_ne_zero h0)
      by_cases h3 : a % b = 0
      · have h2 : Int64.ofNat 0 = 0 := rfl
        have e1 : Nat.gcd a b = b := by rw [Nat.gcd_comm, Nat.gcd_rec, h3, Nat.gcd_zero_left]
        simp (maxSteps := 1000000) (disch := omega) only [ne_eq, i_lt0, i_le0, i_eq0, i_n1, i_ltl, i_lel, i_eql, i_lt, i_le, i_eq, i_in, i_tn, i_add, i_addl, i_addr, i_mul, i_mulr, i_mull, if_true, if_false, eq_self, decide_eq_true_eq, decide_true, decide_false, Option.bind_some, Option.bind_none, ↓fu_ltd, ↓reduceIte, ↓ob_ite, ↓ob_asc, Bool.false_eq_true, Bool.true_eq_false, not_true_eq_false, not_false_eq_true, Nat.not_lt_zero, Nat.le_zero_eq, Nat.reduceAdd, Nat.reduceMul, Nat.reduceSub, Nat.reduceEqDiff, Nat.reduceLT, Nat.reduceLeDiff, sC_def, sR_def, sC_1, sC_2, sR_1, sR_2, sC_st, sR_st, sR_no, sR_refuse, and_self, true_and, and_true, false_and, and_false, l_X11_tell_9, h1, j_eq0, h0, j_rem, h3, h2, i_add1, h1', e1]
      · have h4 := eu_half (b := b) (Nat.pos_of_ne_zero h3) (Nat.le_of_lt hr)
        have h5 : b % (a % b) < 2 ^ k := by
          rw [Nat.pow_succ] at hb
          omega
        have r6 : a % b < 9223372036854775808 := by omega
        have ih := eu_c (s := s) (x1 := x1) (x3 := x3) (k := k) (a := a % b) (b := b % (a % b)) (i := i + 1 + 1) (f := f) h5 (by omega) (by omega) (by omega) (by omega)
        have e1 : Nat.gcd a b = Nat.gcd (a % b) (b % (a % b)) := by
          rw [Nat.gcd_comm a b, Nat.gcd_rec b a, Nat.gcd_rec (a % b) b, Nat.gcd_comm]
        simp (maxSteps := 1000000) (disch := omega) only [ne_eq, i_lt0, i_le0, i_eq0, i_n1, i_ltl, i_lel, i_eql, i_lt, i_le, i_eq, i_in, i_tn, i_add, i_addl, i_addr, i_mul, i_mulr, i_mull, if_true, if_false, eq_self, decide_eq_true_eq, decide_true, decide_false, Option.bind_some, Option.bind_none, ↓fu_ltd, ↓reduceIte, ↓ob_ite, ↓ob_asc, Bool.false_eq_true, Bool.true_eq_false, not_true_eq_false, not_false_eq_true, Nat.not_lt_zero, Nat.le_zero_eq, Nat.reduceAdd, Nat.reduceMul, Nat.reduceSub, Nat.reduceEqDiff, Nat.reduceLT, Nat.reduceLeDiff, sC_def, sR_def, sC_1, sC_2, sR_1, sR_2, sC_st, sR_st, sR_no, sR_refuse, and_self, true_and, and_true, false_and, and_false, l_X11_tell_9, h1, j_eq0, h0, j_rem, h3, i_add1, h1', e1, ih]
theorem eu_r {s : fu_S} {x1 x3 : Int64} : ∀ {k a b f : Nat}, b < 2 ^ k → a < 2 ^ 62 → b < 2 ^ 62 → 2 * k < f → l_X12_fraction_9 f s x1 x3 (Int64.ofNat a) (Int64.ofNat b) = some (Int64.ofNat (Nat.gcd a b))
  | 0, a, b, f + 1, hb, _, _, _ => by
    obtain rfl : b = 0 := by simpa using hb
    have h2 : Int64.ofNat 0 = 0 := rfl
    simp (maxSteps := 1000000) (disch := omega) only [ne_eq, i_lt0, i_le0, i_eq0, i_n1, i_ltl, i_lel, i_eql, i_lt, i_le, i_eq, i_in, i_tn, i_add, i_addl, i_addr, i_mul, i_mulr, i_mull, if_true, if_false, eq_self, decide_eq_true_eq, decide_true, decide_false, Option.bind_some, Option.bind_none, ↓fu_ltd, ↓reduceIte, ↓ob_ite, ↓ob_asc, Bool.false_eq_true, Bool.true_eq_false, not_true_eq_false, not_false_eq_true, Nat.not_lt_zero, Nat.le_zero_eq, Nat.reduceAdd, Nat.reduceMul, Nat.reduceSub, Nat.reduceEqDiff, Nat.reduceLT, Nat.reduceLeDiff, sC_def, sR_def, sC_1, sC_2, sR_1, sR_2, sC_st, sR_st, sR_no, sR_refuse, and_self, true_and, and_true, false_and, and_false, l_X12_fraction_9, h2, Nat.gcd_zero_right]
  | k + 1, a, b, f + 2, hb, ha6, hb6, hf => by
    have a6 : a < 9223372036854775808 := by omega
    have b6 : b < 9223372036854775808 := by omega
    by_cases h0 : b = 0
    · subst h0
      have h2 : Int64.ofNat 0 = 0 := rfl
      simp (maxSteps := 1000000) (disch := omega) only [ne_eq, i_lt0, i_le0, i_eq0, i_n1, i_ltl, i_lel, i_eql, i_lt, i_le, i_eq, i_in, i_tn, i_add, i_addl, i_addr, i_mul, i_mulr, i_mull, if_true, if_false, eq_self, decide_eq_true_eq, decide_true, decide_false, Option.bind_some, Option.bind_none, ↓fu_ltd, ↓reduceIte, ↓ob_ite, ↓ob_asc, Bool.false_eq_true, Bool.true_eq_false, not_true_eq_false, not_false_eq_true, Nat.not_lt_zero, Nat.le_zero_eq, Nat.reduceAdd, Nat.reduceMul, Nat.reduceSub, Nat.reduceEqDiff, Nat.reduceLT, Nat.reduceLeDiff, sC_def, sR_def, sC_1, sC_2, sR_1, sR_2, sC_st, sR_st, sR_no, sR_refuse, and_self, true_and, and_true, false_and, and_false, l_X12_fraction_9, h2, Nat.gcd_zero_right]
    · have hr := Nat.mod_lt a (Nat.pos_of_ne_zero h0)
      by_cases h3 : a % b = 0
      · have h2 : Int64.ofNat 0 = 0 := rfl
        have e1 : Nat.gcd a b = b := by rw [Nat.gcd_comm, Nat.gcd_rec, h3, Nat.gcd_zero_left]
        simp (maxSteps := 1000000) (disch := omega) only [ne_eq, i_lt0, i_le0, i_eq0, i_n1, i_ltl, i_lel, i_eql, i_lt, i_le, i_eq, i_in, i_tn, i_add, i_addl, i_addr, i_mul, i_mulr, i_mull, if_true, if_false, eq_self, decide_eq_true_eq, decide_true, decide_false, Option.bind_some, Option.bind_none, ↓fu_ltd, ↓reduceIte, ↓ob_ite, ↓ob_asc, Bool.false_eq_true, Bool.true_eq_false, not_true_eq_false, not_false_eq_true, Nat.not_lt_zero, Nat.le_zero_eq, Nat.reduceAdd, Nat.reduceMul, Nat.reduceSub, Nat.reduceEqDiff, Nat.reduceLT, Nat.reduceLeDiff, sC_def, sR_def, sC_1, sC_2, sR_1, sR_2, sC_st, sR_st, sR_no, sR_refuse, and_self, true_and, and_true, false_and, and_false, l_X12_fraction_9, j_eq0, h0, j_rem, h3, h2, e1]
      · have h4 := eu_half (b := b) (Nat.pos_of_ne_zero h3) (Nat.le_of_lt hr)
        have h5 : b % (a % b) < 2 ^ k := by
          rw [Nat.pow_succ] at hb
          omega
        have r6 : a % b < 9223372036854775808 := by omega
        have ih := eu_r (s := s) (x1 := x1) (x3 := x3) (k := k) (a := a % b) (b := b % (a % b)) (f := f) h5 (by omega) (by omega) (by omega)
        have e1 : Nat.gcd a b = Nat.gcd (a % b) (b % (a % b)) := by
          rw [Nat.gcd_comm a b, Nat.gcd_rec b a, Nat.gcd_rec (a % b) b, Nat.gcd_comm]
        simp (maxSteps := 1000000) (disch := omega) only [ne_eq, i_lt0, i_le0, i_eq0, i_n1, i_ltl, i_lel, i_eql, i_lt, i_le, i_eq, i_in, i_tn, i_add, i_addl, i_addr, i_mul, i_mulr, i_mull, if_true, if_false, eq_self, decide_eq_true_eq, decide_true, decide_false, Option.bind_some, Option.bind_none, ↓fu_ltd, ↓reduceIte, ↓ob_ite, ↓ob_asc, Bool.false_eq_true, Bool.true_eq_false, not_true_eq_false, not_false_eq_true, Nat.not_lt_zero, Nat.le_zero_eq, Nat.reduceAdd, Nat.reduceMul, Nat.reduceSub, Nat.reduceEqDiff, Nat.reduceLT, Nat.reduceLeDiff, sC_def, sR_def, sC_1, sC_2, sR_1, sR_2, sC_st, sR_st, sR_no, sR_refuse, and_self, true_and, and_true, false_and, and_false, l_X12_fraction_9, j_eq0, h0, j_rem, h3, e1, ih]
theorem c_tell {s : fu_S} {t b : Nat} (ht : t < 2 ^ 62) (hb0 : 0 < b) (hb : b < 2 ^ 62) : f_X11_tell s (Int64.ofNat t) (Int64.ofNat b) = some (fu_pl (fu_pl s 0 16 (Int64.ofNat (t / Nat.gcd t b))) 0 17 (Int64.ofNat (b / Nat.gcd t b))) := by
  have e1 := eu_c (s := s) (x1 := Int64.ofNat t) (x3 := Int64.ofNat b) (k := 62) (a := b) (b := t) (i := 0) (f := fu_N) ht hb ht (by omega) (fu_N_gt (by omega))
  have hg0 : 0 < Nat.gcd t b := Nat.gcd_pos_of_pos_right t hb0
  have hg1 : Nat.gcd t b ≤ b := Nat.gcd_le_right t hb0
  rw [Nat.gcd_comm] at e1
  have e2 : l_X11_tell_9 fu_N s (Int64.ofNat t) (Int64.ofNat b) (Int64.ofNat b) (Int64.ofNat t) 0 = _ := e1
  generalize Nat.gcd t b = g at *
  have hg : ¬ g = 0 := by omega
  simp (maxSteps := 1000000) (disch := omega) only [ne_eq, i_lt0, i_le0, i_eq0, i_n1, i_ltl, i_lel, i_eql, i_lt, i_le, i_eq, i_in, i_tn, i_add, i_addl, i_addr, i_mul, i_mulr, i_mull, if_true, if_false, eq_self, decide_eq_true_eq, decide_true, decide_false, Option.bind_some, Option.bind_none, ↓fu_ltd, ↓reduceIte, ↓ob_ite, ↓ob_asc, Bool.false_eq_true, Bool.true_eq_false, not_true_eq_false, not_false_eq_true, Nat.not_lt_zero, Nat.le_zero_eq, Nat.reduceAdd, Nat.reduceMul, Nat.reduceSub, Nat.reduceEqDiff, Nat.reduceLT, Nat.reduceLeDiff, sC_def, sR_def, sC_1, sC_2, sR_1, sR_2, sC_st, sR_st, sR_no, sR_refuse, and_self, true_and, and_true, false_and, and_false, f_X11_tell, e2, j_eq0, hg, j_divq]
theorem r_fraction {s : fu_S} {t b : Nat} (ht : t < 2 ^ 62) (hb0 : 0 < b) (hb : b < 2 ^ 62) : f_X12_fraction s (Int64.ofNat t) (Int64.ofNat b) = some (true, fu_pl (fu_pl s 117 2 (Int64.ofNat (t / Nat.gcd t b))) 117 3 (Int64.ofNat (b / Nat.gcd t b))) := by
  have e2 := eu_r (s := s) (x1 := Int64.ofNat t) (x3 := Int64.ofNat b) (k := 62) (a := t) (b := b) (f := fu_N) hb ht hb (fu_N_gt (by omega))
  have hg0 : 0 < Nat.gcd t b := Nat.gcd_pos_of_pos_right t hb0
  have hg1 : Nat.gcd t b ≤ b := Nat.gcd_le_right t hb0
  generalize Nat.gcd t b = g at *
  have hg : ¬ g = 0 := by omega
  simp (maxSteps := 1000000) (disch := omega) only [ne_eq, i_lt0, i_le0, i_eq0, i_n1, i_ltl, i_lel, i_eql, i_lt, i_le, i_eq, i_in, i_tn, i_add, i_addl, i_addr, i_mul, i_mulr, i_mull, if_true, if_false, eq_self, decide_eq_true_eq, decide_true, decide_false, Option.bind_some, Option.bind_none, ↓fu_ltd, ↓reduceIte, ↓ob_ite, ↓ob_asc, Bool.false_eq_true, Bool.true_eq_false, not_true_eq_false, not_false_eq_true, Nat.not_lt_zero, Nat.le_zero_eq, Nat.reduceAdd, Nat.reduceMul, Nat.reduceSub, Nat.reduceEqDiff, Nat.reduceLT, Nat.reduceLeDiff, sC_def, sR_def, sC_1, sC_2, sR_1, sR_2, sC_st, sR_st, sR_no, sR_refuse, and_self, true_and, and_true, false_and, and_false, f_X12_fraction, j_abl, e2, j_eq0, hg, j_divq]
theorem dI_tell {s1 s2 : fu_S} {x y : Int64} (hI : dI s1 s2) : dI (fu_pl (fu_pl s1 0 16 x) 0 17 y) (fu_pl (fu_pl s2 117 2 x) 117 3 y) := by
  obtain ⟨hs, ⟨f1, f2⟩, hT, hP, hW, hL, hB, m, m1, m2, m3, m4⟩ := hI
  have c2 : ∀ a, a ≠ 0 → (fu_pl (fu_pl s1 0 16 x) 0 17 y).2 a = s1.2 a := fun a h => (l2n h).trans (l2n h)
  have r2 : ∀ a, a ≠ 117 → (fu_pl (fu_pl s2 117 2 x) 117 3 y).2 a = s2.2 a := fun a h => (l2n h).trans (l2n h)
  refine ⟨hs, ⟨?_, ?_⟩, ?_, hP, ?_, hL, ?_, m, m1, m2, m3, fun j hj => ?_⟩
  · rw [l2q (by omega), l2, l2q (by omega), l2]
  · rw [l2, l2]
  · intro t ht
    rw [c2 2 (by omega), r2 120 (by omega)]
    exact hT t ht
  · exact dWd_congr (c2 6 (by omega)) (fun _ _ _ => rfl) hW
  · refine dB_congr ?_ ?_ ?_ ?_ hB
    · intro k hk
      exact ⟨rfl, c2 _ (by omega)⟩
    · intro k hk
      rfl
    · intro i _ _
      rfl
    · intro i _ _
      rw [r2 124 (by omega)]
  · refine dB_congr ?_ ?_ ?_ ?_ (m4 j hj)
    · intro k hk
      exact ⟨rfl, c2 _ (by omega)⟩
    · intro k hk
      rfl
    · intro i _ _
      rfl
    · intro i _ _
      rw [r2 124 (by omega)]
