/-! mark, back -/
section CPV
variable {s t s1 s2 t1 t2 : fu_S} {P Q b a k m : Nat} {D : dD}
theorem cl_1 {a0 sp a dp n : Nat} : (fu_cl s a0 sp a dp n).1 = s.1 := rfl
theorem ci_2 {a0 sp a dp n : Nat} : (fu_ci s a0 sp a dp n).2 = s.2 := rfl
theorem cl_n {a0 a n b sp dp : Nat} (h : b ≠ a) : (fu_cl s a0 sp a dp n).2 b = s.2 b := if_neg h
theorem c_cpV0 (h : P + 13 ≤ Q ∨ Q + 13 ≤ P) {q : Nat} (hq : q < 6) : (f_X4_copyFrom s P Q).1 P q = s.1 Q q := by
  have : q = 0 ∨ q = 1 ∨ q = 2 ∨ q = 3 ∨ q = 4 ∨ q = 5 := by omega
  rcases this with rfl | rfl | rfl | rfl | rfl | rfl <;> simp (disch := omega) only [f_X4_copyFrom, fu_lt, ci_n, cl_1, p1, p1n, p1q]
theorem c_cpV1 (h : P + 13 ≤ Q ∨ Q + 13 ≤ P) {k i : Nat} (h1 : 1 ≤ k) (h2 : k ≤ 12) (h3 : k ≠ 4) (hi : i < d_ln k) : (f_X4_copyFrom s P Q).1 (P + k) i = s.1 (Q + k) i := by
  have : k = 1 ∨ k = 2 ∨ k = 3 ∨ k = 5 ∨ k = 6 ∨ k = 7 ∨ k = 8 ∨ k = 9 ∨ k = 10 ∨ k = 11 ∨ k = 12 := by omega
  rcases this with rfl | rfl | rfl | rfl | rfl | rfl | rfl | rfl | rfl | rfl | rfl
  · replace hi : i < 5 := hi
    simp (disch := omega) only [f_X4_copyFrom, fu_lt, ci_n, ci_r, cl_1, p1n]
  · replace hi : i < 5 := hi
    simp (disch := omega) only [f_X4_copyFrom, fu_lt, ci_n, ci_r, cl_1, p1n]
  · replace hi : i < 5 := hi
    simp (disch := omega) only [f_X4_copyFrom, fu_lt, ci_n, ci_r, cl_1, p1n]
  · replace hi : i < 7 := hi
    simp (disch := omega) only [f_X4_copyFrom, fu_lt, ci_n, ci_r, cl_1, p1n]
  · replace hi : i < 7 := hi
    simp (disch := omega) only [f_X4_copyFrom, fu_lt, ci_n, ci_r, cl_1, p1n]
  · replace hi : i < 8 := hi
    simp (disch := omega) only [f_X4_copyFrom, fu_lt, ci_n, ci_r, cl_1, p1n]
  · replace hi : i < 8 := hi
    simp (disch := omega) only [f_X4_copyFrom, fu_lt, ci_n, ci_r, cl_1, p1n]
  · replace hi : i < 8 := hi
    simp (disch := omega) only [f_X4_copyFrom, fu_lt, ci_n, ci_r, cl_1, p1n]
  · replace hi : i < 8 := hi
    simp (disch := omega) only [f_X4_copyFrom, fu_lt, ci_n, ci_r, cl_1, p1n]
  · replace hi : i < 8 := hi
    simp (disch := omega) only [f_X4_copyFrom, fu_lt, ci_n, ci_r, cl_1, p1n]
  · replace hi : i < 8 := hi
    simp (disch := omega) only [f_X4_copyFrom, fu_lt, ci_n, ci_r, cl_1, p1n]
theorem c_cpV4 {i : Nat} (hi : i < 7) : (f_X4_copyFrom s P Q).2 (P + 4) i = s.2 (Q + 4) i := by
  simp (disch := omega) only [f_X4_copyFrom, fu_lt, ci_2, cl_r, p2]
theorem c_cpQ1 (h : P + 5 ≤ Q ∨ Q + 5 ≤ P) {k i : Nat} (h1 : 1 ≤ k) (h2 : k < 5) (hi : i < 60) : (f_X5_copyFrom s P Q).1 (P + k) i = s.1 (Q + k) i := by
  have : k = 1 ∨ k = 2 ∨ k = 3 ∨ k = 4 := by omega
  rcases this with rfl | rfl | rfl | rfl <;> simp (disch := omega) only [f_X5_copyFrom, fu_lt, ci_n, ci_r, p1n]
theorem c_cpQ4 (h : P + 5 ≤ Q ∨ Q + 5 ≤ P) : (f_X5_copyFrom s P Q).1 P 4 = s.1 Q 4 := by
  simp (disch := omega) only [f_X5_copyFrom, fu_lt, ci_n, p1, p1n, p1q]
theorem c_cpQ5 (h : P + 5 ≤ Q ∨ Q + 5 ≤ P) : (f_X5_copyFrom s P Q).1 P 5 = s.1 Q 5 := by
  simp (disch := omega) only [f_X5_copyFrom, fu_lt, ci_n, p1, p1n, p1q]
theorem tb_b {b : Bool} : fu_tb (fu_b b) = b := by cases b <;> decide
theorem c_cpQ6 (h : P + 5 ≤ Q ∨ Q + 5 ≤ P) : fu_tb ((f_X5_copyFrom s P Q).1 P 6) = fu_tb (s.1 Q 6) := by
  simp (disch := omega) only [f_X5_copyFrom, fu_lt, ci_n, p1, p1n, tb_b]
theorem c_cpC (h : P + 13 ≤ Q ∨ Q + 13 ≤ P) (hv : dV D) (hd : dC s Q D) : dC (f_X4_copyFrom s P Q) P D :=
  dC_mv hv (fun q hq => c_cpV0 h hq) (fun k i h1 h2 h3 hi => c_cpV1 h h1 h2 h3 hi) (fun i hi => c_cpV4 hi) hd
/-- the reference's copy -/
def cps (s : fu_S) (A B n : Nat) : fu_S := (fun x r => if x = 122 ∧ B ≤ r ∧ r < B + n then s.1 122 (A + (r - B)) else s.1 x r, s.2)
def cpw (s : fu_S) (A B n : Nat) : fu_S := (s.1, fun x r => if x = 124 ∧ B ≤ r ∧ r < B + n then s.2 124 (A + (r - B)) else s.2 x r)
theorem cps_n {A B n a : Nat} (h : a ≠ 122) : (cps s A B n).1 a = s.1 a := by
  funext r; exact if_neg (fun z => h z.1)
theorem cps_o {A B n r : Nat} (h : ¬ (B ≤ r ∧ r < B + n)) : (cps s A B n).1 122 r = s.1 122 r := if_neg (fun z => h z.2)
theorem cps_i {A B n i : Nat} (h : i < n) : (cps s A B n).1 122 (B + i) = s.1 122 (A + i) := by
  show (if 122 = 122 ∧ B ≤ B + i ∧ B + i < B + n then s.1 122 (A + (B + i - B)) else s.1 122 (B + i)) = _
  rw [if_pos ⟨rfl, by omega, by omega⟩, Nat.add_sub_cancel_left]
theorem cps_s {A B n : Nat} : fu_pi (cps s A B n) 122 (B + n) (s.1 122 (A + n)) = cps s A B (n + 1) := by
  refine Prod.ext ?_ rfl
  funext x r
  show (if x = 122 ∧ r = B + n then s.1 122 (A + n) else (if x = 122 ∧ B ≤ r ∧ r < B + n then s.1 122 (A + (r - B)) else s.1 x r)) = (if x = 122 ∧ B ≤ r ∧ r < B + (n + 1) then s.1 122 (A + (r - B)) else s.1 x r)
  by_cases h1 : x = 122 ∧ r = B + n
  · rw [if_pos h1, if_pos ⟨h1.1, by omega, by omega⟩, show r - B = n by omega]
  · rw [if_neg h1]
    by_cases h2 : x = 122 ∧ B ≤ r ∧ r < B + n
    · rw [if_pos h2, if_pos ⟨h2.1, h2.2.1, by omega⟩]
    · rw [if_neg h2, if_neg (fun z => by omega)]
theorem cps_0 {A B : Nat} : cps s A B 0 = s := by
  refine Prod.ext ?_ rfl
  funext x r
  exact if_neg (fun z => by omega)
theorem cpw_n {A B n a : Nat} (h : a ≠ 124) : (cpw s A B n).2 a = s.2 a := by
  funext r; exact if_neg (fun z => h z.1)
theorem cpw_o {A B n r : Nat} (h : ¬ (B ≤ r ∧ r < B + n)) : (cpw s A B n).2 124 r = s.2 124 r := if_neg (fun z => h z.2)
theorem cpw_i {A B n i : Nat} (h : i < n) : (cpw s A B n).2 124 (B + i) = s.2 124 (A + i) := by
  show (if 124 = 124 ∧ B ≤ B + i ∧ B + i < B + n then s.2 124 (A + (B + i - B)) else s.2 124 (B + i)) = _
  rw [if_pos ⟨rfl, by omega, by omega⟩, Nat.add_sub_cancel_left]
theorem cpw_s {A B n : Nat} : fu_pl (cpw s A B n) 124 (B + n) (s.2 124 (A + n)) = cpw s A B (n + 1) := by
  refine Prod.ext rfl ?_
  funext x r
  show (if x = 124 ∧ r = B + n then s.2 124 (A + n) else (if x = 124 ∧ B ≤ r ∧ r < B + n then s.2 124 (A + (r - B)) else s.2 x r)) = (if x = 124 ∧ B ≤ r ∧ r < B + (n + 1) then s.2 124 (A + (r - B)) else s.2 x r)
  by_cases h1 : x = 124 ∧ r = B + n
  · rw [if_pos h1, if_pos ⟨h1.1, by omega, by omega⟩, show r - B = n by omega]
  · rw [if_neg h1]
    by_cases h2 : x = 124 ∧ B ≤ r ∧ r < B + n
    · rw [if_pos h2, if_pos ⟨h2.1, h2.2.1, by omega⟩]
    · rw [if_neg h2, if_neg (fun z => by omega)]
theorem cpw_1 {A B n : Nat} : (cpw s A B n).1 = s.1 := rfl
theorem cpw_0 {A B : Nat} : cpw s A B 0 = s := by
  refine Prod.ext rfl ?_
  funext x r
  exact if_neg (fun z => by omega)
theorem r_cp (ha : a < 5) (hb : b < 5) (hab : a ≠ b) : f_X12_copy s (Int32.ofNat a) (Int32.ofNat b) = some (cpw (cps s (355 * a) (355 * b) 355) (7 * a) (7 * b) 7) := by
  have h1 := lp_up (l := fun f σ k => l_X12_copy_2 f σ (Int32.ofNat a) (Int32.ofNat b) (Int32.ofNat k)) (N := 355) (S := fun k => cps s (355 * a) (355 * b) k) (r := cps s (355 * a) (355 * b) 355) (fun n k hk => by
    have m1 : 355 * a + k < 1775 := by omega
    have m2 : 355 * b + k < 1775 := by omega
    have e1 : (cps s (355 * a) (355 * b) k).1 122 (355 * a + k) = s.1 122 (355 * a + k) := cps_o (by omega)
    have e2 := cps_s (s := s) (A := 355 * a) (B := 355 * b) (n := k)
    show l_X12_copy_2 (n + 1) (cps s (355 * a) (355 * b) k) (Int32.ofNat a) (Int32.ofNat b) (Int32.ofNat k) = l_X12_copy_2 n (cps s (355 * a) (355 * b) (k + 1)) (Int32.ofNat a) (Int32.ofNat b) (Int32.ofNat (k + 1))
    generalize cps s (355 * a) (355 * b) (k + 1) = V at *
    generalize cps s (355 * a) (355 * b) k = U at *
    simp (maxSteps := 1000000) (disch := omega) only [ne_eq, i_lt0, i_le0, i_eq0, i_n1, i_ltl, i_lel, i_eql, i_lt, i_le, i_eq, i_in, i_tn, i_add, i_addl, i_addr, i_mul, i_mulr, i_mull, if_true, if_false, eq_self, decide_eq_true_eq, decide_true, decide_false, Option.bind_some, Option.bind_none, ↓fu_ltd, ↓reduceIte, ↓ob_ite, ↓ob_asc, Bool.false_eq_true, Bool.true_eq_false, not_true_eq_false, not_false_eq_true, Nat.not_lt_zero, Nat.le_zero_eq, Nat.reduceAdd, Nat.reduceMul, Nat.reduceSub, Nat.reduceEqDiff, Nat.reduceLT, Nat.reduceLeDiff, sC_def, sR_def, sC_1, sC_2, sR_1, sR_2, sC_st, sR_st, sR_no, sR_refuse, and_self, true_and, and_true, false_and, and_false, l_X12_copy_2, hk, m1, m2, e1, e2, i_add1]) (fun n => by
    show l_X12_copy_2 (n + 1) (cps s (355 * a) (355 * b) 355) (Int32.ofNat a) (Int32.ofNat b) (Int32.ofNat 355) = _
    generalize cps s (355 * a) (355 * b) 355 = U at *
    simp (maxSteps := 1000000) (disch := omega) only [ne_eq, i_lt0, i_le0, i_eq0, i_n1, i_ltl, i_lel, i_eql, i_lt, i_le, i_eq, i_in, i_tn, i_add, i_addl, i_addr, i_mul, i_mulr, i_mull, if_true, if_false, eq_self, decide_eq_true_eq, decide_true, decide_false, Option.bind_some, Option.bind_none, ↓fu_ltd, ↓reduceIte, ↓ob_ite, ↓ob_asc, Bool.false_eq_true, Bool.true_eq_false, not_true_eq_false, not_false_eq_true, Nat.not_lt_zero, Nat.le_zero_eq, Nat.reduceAdd, Nat.reduceMul, Nat.reduceSub, Nat.reduceEqDiff, Nat.reduceLT, Nat.reduceLeDiff, sC_def, sR_def, sC_1, sC_2, sR_1, sR_2, sC_st, sR_st, sR_no, sR_refuse, and_self, true_and, and_true, false_and, and_false, l_X12_copy_2, Nat.lt_irrefl]) (f := fu_N) (k := 0) (by omega) (fu_N_gt (by omega))
  rw [cps_0] at h1
  generalize cps s (355 * a) (355 * b) 355 = Z at *
  have h2 := lp_up (l := fun f σ k => l_X12_copy_41 f σ (Int32.ofNat a) (Int32.ofNat b) (Int32.ofNat k)) (N := 7) (S := fun k => cpw Z (7 * a) (7 * b) k) (r := cpw Z (7 * a) (7 * b) 7) (fun n k hk => by
    have m1 : 7 * a + k < 35 := by omega
    have m2 : 7 * b + k < 35 := by omega
    have e1 : (cpw Z (7 * a) (7 * b) k).2 124 (7 * a + k) = Z.2 124 (7 * a + k) := cpw_o (by omega)
    have e2 := cpw_s (s := Z) (A := 7 * a) (B := 7 * b) (n := k)
    show l_X12_copy_41 (n + 1) (cpw Z (7 * a) (7 * b) k) (Int32.ofNat a) (Int32.ofNat b) (Int32.ofNat k) = l_X12_copy_41 n (cpw Z (7 * a) (7 * b) (k + 1)) (Int32.ofNat a) (Int32.ofNat b) (Int32.ofNat (k + 1))
    generalize cpw Z (7 * a) (7 * b) (k + 1) = V at *
    generalize cpw Z (7 * a) (7 * b) k = U at *
    simp (maxSteps := 1000000) (disch := omega) only [ne_eq, i_lt0, i_le0, i_eq0, i_n1, i_ltl, i_lel, i_eql, i_lt, i_le, i_eq, i_in, i_tn, i_add, i_addl, i_addr, i_mul, i_mulr, i_mull, if_true, if_false, eq_self, decide_eq_true_eq, decide_true, decide_false, Option.bind_some, Option.bind_none, ↓fu_ltd, ↓reduceIte, ↓ob_ite, ↓ob_asc, Bool.false_eq_true, Bool.true_eq_false, not_true_eq_false, not_false_eq_true, Nat.not_lt_zero, Nat.le_zero_eq, Nat.reduceAdd, Nat.reduceMul, Nat.reduceSub, Nat.reduceEqDiff, Nat.reduceLT, Nat.reduceLeDiff, sC_def, sR_def, sC_1, sC_2, sR_1, sR_2, sC_st, sR_st, sR_no, sR_refuse, and_self, true_and, and_true, false_and, and_false, l_X12_copy_41, hk, m1, m2, e1, e2, i_add1]) (fun n => by
    show l_X12_copy_41 (n + 1) (cpw Z (7 * a) (7 * b) 7) (Int32.ofNat a) (Int32.ofNat b) (Int32.ofNat 7) = _
    generalize cpw Z (7 * a) (7 * b) 7 = U at *
    simp (maxSteps := 1000000) (disch := omega) only [ne_eq, i_lt0, i_le0, i_eq0, i_n1, i_ltl, i_lel, i_eql, i_lt, i_le, i_eq, i_in, i_tn, i_add, i_addl, i_addr, i_mul, i_mulr, i_mull, if_true, if_false, eq_self, decide_eq_true_eq, decide_true, decide_false, Option.bind_some, Option.bind_none, ↓fu_ltd, ↓reduceIte, ↓ob_ite, ↓ob_asc, Bool.false_eq_true, Bool.true_eq_false, not_true_eq_false, not_false_eq_true, Nat.not_lt_zero, Nat.le_zero_eq, Nat.reduceAdd, Nat.reduceMul, Nat.reduceSub, Nat.reduceEqDiff, Nat.reduceLT, Nat.reduceLeDiff, sC_def, sR_def, sC_1, sC_2, sR_1, sR_2, sC_st, sR_st, sR_no, sR_refuse, and_self, true_and, and_true, false_and, and_false, l_X12_copy_41, Nat.lt_irrefl]) (f := fu_N) (k := 0) (by omega) (fu_N_gt (by omega))
  rw [cpw_0] at h2
  have h1' : l_X12_copy_2 fu_N s (Int32.ofNat a) (Int32.ofNat b) 0 = _ := h1
  have h2' : l_X12_copy_41 fu_N Z (Int32.ofNat a) (Int32.ofNat b) 0 = _ := h2
  simp (maxSteps := 1000000) (disch := omega) only [ne_eq, i_lt0, i_le0, i_eq0, i_n1, i_ltl, i_lel, i_eql, i_lt, i_le, i_eq, i_in, i_tn, i_add, i_addl, i_addr, i_mul, i_mulr, i_mull, if_true, if_false, eq_self, decide_eq_true_eq, decide_true, decide_false, Option.bind_some, Option.bind_none, ↓fu_ltd, ↓reduceIte, ↓ob_ite, ↓ob_asc, Bool.false_eq_true, Bool.true_eq_false, not_true_eq_false, not_false_eq_true, Nat.not_lt_zero, Nat.le_zero_eq, Nat.reduceAdd, Nat.reduceMul, Nat.reduceSub, Nat.reduceEqDiff, Nat.reduceLT, Nat.reduceLeDiff, sC_def, sR_def, sC_1, sC_2, sR_1, sR_2, sC_st, sR_st, sR_no, sR_refuse, and_self, true_and, and_true, false_and, and_false, f_X12_copy, h1', h2']
/-- all that a call may leave, put together -/
theorem dI_mk (hI : dI s1 s2) (hst : t1.1 0 15 = t2.1 117 0) (hP : dTp t1 t2) (hL : dLv t1 t2) (c0 : t1.2 0 = s1.2 0)
    (hc : ∀ a, (a = 2 ∨ a = 3 ∨ a = 4 ∨ a = 6) → t1.1 a = s1.1 a ∧ t1.2 a = s1.2 a) (c113 : ∀ i, 1024 ≤ i → t1.1 113 i = s1.1 113 i) (r0 : t2.2 117 2 = s2.2 117 2 ∧ t2.2 117 3 = s2.2 117 3)
    (hr : ∀ a, (a = 118 ∨ a = 119 ∨ a = 120) → t2.1 a = s2.1 a ∧ t2.2 a = s2.2 a) (hB : dB t1 11 24 t2 0) (hm : ∃ m, m ≤ 3 ∧ t1.1 0 14 = Int32.ofNat m ∧ t2.1 117 23 = Int32.ofNat m ∧ ∀ j, j < m → dB t1 (51 + 13 * j) (91 + 5 * j) t2 (j + 1)) : dI t1 t2 := by
  obtain ⟨-, ⟨f1, f2⟩, hT, -, hW, -⟩ := hI
  refine ⟨hst, ⟨by rw [c0, r0.1]; exact f1, by rw [c0, r0.2]; exact f2⟩, ?_, hP, dWd_congr (hc 6 (by omega)).2 (fun i h1 _ => c113 i h1) hW, hL, hB, hm⟩
  intro t ht
  rw [(hc 4 (by omega)).1, (hc 3 (by omega)).1, (hc 2 (by omega)).2, (hr 119 (by omega)).1, (hr 118 (by omega)).1, (hr 120 (by omega)).2]
  exact hT t ht
theorem dTp_c (h5 : ∀ q, (q = 2 ∨ q = 8 ∨ q = 9) → t1.1 5 q = s1.1 5 q) (h7 : t1.1 7 = s1.1 7) (h117 : ∀ q, (q = 8 ∨ q = 10 ∨ q = 11) → t2.1 117 q = s2.1 117 q) (h121 : t2.1 121 = s2.1 121) (hP : dTp s1 s2) : dTp t1 t2 := by
  unfold dTp at hP ⊢
  rw [h5 2 (by omega), h5 8 (by omega), h5 9 (by omega), h7, h117 8 (by omega), h117 10 (by omega), h117 11 (by omega), h121]
  exact hP
theorem dLv_c (h106 : t1.1 106 = s1.1 106) (h31 : t2.1 117 31 = s2.1 117 31) (h127 : t2.1 127 = s2.1 127) (hL : dLv s1 s2) : dLv t1 t2 := by
  unfold dLv at hL ⊢
  rw [h106, h31, h127]
  exact hL
theorem rr_50 (h : m < 3) : fc_rr_50 m = 51 + 13 * m := by
  have : m = 0 ∨ m = 1 ∨ m = 2 := by omega
  rcases this with rfl | rfl | rfl <;> rfl
theorem rr_90 (h : m < 3) : fc_rr_90 m = 91 + 5 * m := by
  have : m = 0 ∨ m = 1 ∨ m = 2 := by omega
  rcases this with rfl | rfl | rfl <;> rfl
end CPV
theorem hd_47 : lw_E_47 dI := by
  intro s1 s2 hI
  have hI0 := dI_s (x := 0) hI
  obtain ⟨hs, ⟨f1, f2⟩, hT, hP, hW, hL, ⟨D, hv, hC, hR, hQ⟩, m, m1, m2, m3, m4⟩ := hI0
  have q14 : s1.1 0 14 = Int32.ofNat m := by
    have : (sC s1 0).1 0 14 = s1.1 0 14 := p1q (by omega)
    rw [← this]; exact m2
  have q23 : s2.1 117 23 = Int32.ofNat m := by
    have : (sR s2 0).1 117 23 = s2.1 117 23 := sR_q (by omega) (by omega)
    rw [← this]; exact m3
  have hI0 := dI_s (x := 0) hI
  by_cases h3 : m < 3
  · have g50 := rr_50 h3
    have g90 := rr_90 h3
    have k1 : fC 51 106 (sC s1 0) (f_X4_copyFrom (sC s1 0) (51 + 13 * m) 11) := fun a ha => c_cpF a (by omega)
    have k2 : fC 51 106 (f_X4_copyFrom (sC s1 0) (51 + 13 * m) 11) (f_X5_copyFrom (f_X4_copyFrom (sC s1 0) (51 + 13 * m) 11) (91 + 5 * m) 24) := fun a ha => c_cpP a (by omega)
    have k1' := c_cpF (s := sC s1 0) (P := 51 + 13 * m) (Q := 11)
    have k2' := c_cpP (s := f_X4_copyFrom (sC s1 0) (51 + 13 * m) 11) (P := 91 + 5 * m) (Q := 24)
    have cC := c_cpC (P := 51 + 13 * m) (Q := 11) (by omega) hv hC
    have cQ1 := fun k i => c_cpQ1 (s := f_X4_copyFrom (sC s1 0) (51 + 13 * m) 11) (P := 91 + 5 * m) (Q := 24) (by omega) (k := k) (i := i)
    have cQ4 := c_cpQ4 (s := f_X4_copyFrom (sC s1 0) (51 + 13 * m) 11) (P := 91 + 5 * m) (Q := 24) (by omega)
    have cQ5 := c_cpQ5 (s := f_X4_copyFrom (sC s1 0) (51 + 13 * m) 11) (P := 91 + 5 * m) (Q := 24) (by omega)
    have cQ6 := c_cpQ6 (s := f_X4_copyFrom (sC s1 0) (51 + 13 * m) 11) (P := 91 + 5 * m) (Q := 24) (by omega)
    obtain ⟨U, hU⟩ : ∃ U, U = f_X4_copyFrom (sC s1 0) (51 + 13 * m) 11 := ⟨_, rfl⟩
    rw [← hU] at k1 k2 k1' k2' cC cQ1 cQ4 cQ5 cQ6
    obtain ⟨W, hWW⟩ : ∃ W, W = f_X5_copyFrom U (91 + 5 * m) 24 := ⟨_, rfl⟩
    rw [← hWW] at k2 k2' cQ1 cQ4 cQ5 cQ6
    have kk : ∀ a, ¬ (51 ≤ a ∧ a < 106) → W.1 a = (sC s1 0).1 a ∧ W.2 a = (sC s1 0).2 a := fC_tr k1 k2
    have e23 : (sR s2 0).1 117 23 = Int32.ofNat m := m3
    have eV := r_cp (s := fu_pi (sR s2 0) 117 23 (Int32.ofNat (m + 1))) (a := 0) (b := m + 1) (by omega) (by omega) (by omega)
    obtain ⟨V, hV⟩ : ∃ V, V = cpw (cps (fu_pi (sR s2 0) 117 23 (Int32.ofNat (m + 1))) (355 * 0) (355 * (m + 1)) 355) (7 * 0) (7 * (m + 1)) 7 := ⟨_, rfl⟩
    rw [← hV] at eV
    have v1 : ∀ a, a ≠ 122 → a ≠ 117 → V.1 a = (sR s2 0).1 a := fun a h1 h2 => by
      rw [hV, cpw_1, cps_n h1, p1n h2]
    have v117 : ∀ q, q ≠ 23 → V.1 117 q = (sR s2 0).1 117 q := fun q h1 => by
      rw [hV, cpw_1, cps_n (by omega), p1q h1]
    have v23 : V.1 117 23 = Int32.ofNat (m + 1) := by
      rw [hV, cpw_1, cps_n (by omega), p1]
    have v2 : ∀ a, a ≠ 124 → V.2 a = (sR s2 0).2 a := fun a h1 => by
      rw [hV, cpw_n h1]
      rfl
    have vo : ∀ r, ¬ (355 * (m + 1) ≤ r ∧ r < 355 * (m + 1) + 355) → V.1 122 r = (sR s2 0).1 122 r := fun r hr => by
      rw [hV, cpw_1, cps_o hr, p1n (by omega)]
    have vi : ∀ i, i < 355 → V.1 122 (355 * (m + 1) + i) = (sR s2 0).1 122 (355 * 0 + i) := fun i hi => by
      rw [hV, cpw_1, cps_i hi, p1n (by omega)]
    have wo : ∀ r, ¬ (7 * (m + 1) ≤ r ∧ r < 7 * (m + 1) + 7) → V.2 124 r = (sR s2 0).2 124 r := fun r hr => by
      rw [hV, cpw_o hr]
      rfl
    have wi : ∀ i, i < 7 → V.2 124 (7 * (m + 1) + i) = (sR s2 0).2 124 (7 * 0 + i) := fun i hi => by
      rw [hV, cpw_i hi]
      rfl
    have w14 : W.1 0 14 = Int32.ofNat m := by rw [(kk 0 (by omega)).1]; exact m2
    have u14 : U.1 0 14 = Int32.ofNat m := by rw [(k1 0 (by omega)).1]; exact m2
    have x1 : ∀ a, a ≠ 0 → ¬ (51 ≤ a ∧ a < 106) → (fu_pi W 0 14 (Int32.ofNat (m + 1))).1 a = (sC s1 0).1 a := fun a h1 h2 => by
      rw [p1n h1]; exact (kk a h2).1
    refine ⟨Int32.ofNat (m + 1), fu_pi W 0 14 (Int32.ofNat (m + 1)), V, ?_, ?_, dI_mk (s1 := sC s1 0) (s2 := sR s2 0) hI0 ?_ (dTp_c (fun q _ => by rw [x1 5 (by omega) (by omega)]) (x1 7 (by omega) (by omega)) (fun q hq => v117 q (by omega)) (v1 121 (by omega) (by omega)) hP) (dLv_c (x1 106 (by omega) (by omega)) (v117 31 (by omega)) (v1 127 (by omega) (by omega)) hL) (kk 0 (by omega)).2 (fun a ha => ⟨x1 a (by omega) (by omega), (kk a (by omega)).2⟩) (fun i _ => by rw [x1 113 (by omega) (by omega)]) ⟨by rw [v2 117 (by omega)], by rw [v2 117 (by omega)]⟩ (fun a ha => ⟨v1 a (by omega) (by omega), v2 a (by omega)⟩) ?_ ⟨m + 1, by omega, p1, v23, fun j hj => ?_⟩⟩
    · have q14' : (sC s1 0).1 0 14 = Int32.ofNat m := m2
      have z1 : (s1.1 0 14 < 3) = True := by
        rw [q14]
        exact eq_true ((i_ltl (n := 3) (by omega) (show (3 : Nat) < 2147483648 by omega)).mpr h3)
      simp (maxSteps := 1000000) (disch := omega) only [ne_eq, i_lt0, i_le0, i_eq0, i_n1, i_ltl, i_lel, i_eql, i_lt, i_le, i_eq, i_in, i_tn, i_add, i_addl, i_addr, i_mul, i_mulr, i_mull, if_true, if_false, eq_self, decide_eq_true_eq, decide_true, decide_false, Option.bind_some, Option.bind_none, ↓fu_ltd, ↓reduceIte, ↓ob_ite, ↓ob_asc, Bool.false_eq_true, Bool.true_eq_false, not_true_eq_false, not_false_eq_true, Nat.not_lt_zero, Nat.le_zero_eq, Nat.reduceAdd, Nat.reduceMul, Nat.reduceSub, Nat.reduceEqDiff, Nat.reduceLT, Nat.reduceLeDiff, sC_def, sR_def, sC_1, sC_2, sR_1, sR_2, sC_st, sR_st, sR_no, sR_refuse, and_self, true_and, and_true, false_and, and_false, f_X11_mark, z1, q14', h3, i_tn, g50, g90, ← hU, u14, ← hWW, w14, i_add1, p1]
    · have z1 : ¬ m = 3 := by omega
      have eV' : f_X12_copy (fu_pi (sR s2 0) 117 23 (Int32.ofNat (m + 1))) 0 (Int32.ofNat (m + 1)) = some V := eV
      simp (maxSteps := 1000000) (disch := omega) only [ne_eq, i_lt0, i_le0, i_eq0, i_n1, i_ltl, i_lel, i_eql, i_lt, i_le, i_eq, i_in, i_tn, i_add, i_addl, i_addr, i_mul, i_mulr, i_mull, if_true, if_false, eq_self, decide_eq_true_eq, decide_true, decide_false, Option.bind_some, Option.bind_none, ↓fu_ltd, ↓reduceIte, ↓ob_ite, ↓ob_asc, Bool.false_eq_true, Bool.true_eq_false, not_true_eq_false, not_false_eq_true, Nat.not_lt_zero, Nat.le_zero_eq, Nat.reduceAdd, Nat.reduceMul, Nat.reduceSub, Nat.reduceEqDiff, Nat.reduceLT, Nat.reduceLeDiff, sC_def, sR_def, sC_1, sC_2, sR_1, sR_2, sC_st, sR_st, sR_no, sR_refuse, and_self, true_and, and_true, false_and, and_false, f_X12_mark, e23, z1, i_add1, p1, eV', v23]
    · rw [p1q (by omega), (kk 0 (by omega)).1, sC_st, v117 0 (by omega), sR_st]
    · exact dB_congr (fun k hk => ⟨x1 _ (by omega) (by omega), (kk _ (by omega)).2⟩) (fun k hk => x1 _ (by omega) (by omega)) (fun i _ _ => vo i (by omega)) (fun i _ _ => wo i (by omega)) ⟨D, hv, hC, hR, hQ⟩
    · by_cases hjm : j = m
      · subst hjm
        refine ⟨D, hv, ?_, ?_, ?_⟩
        · refine dC_congr (s := U) (fun k hk => ⟨?_, ?_⟩) cC
          · rw [p1n (by omega)]; exact (k2' _ (by omega)).1
          · exact (k2' _ (by omega)).2
        · exact dR_mv hv (fun i hi => vi i (by omega)) (fun i hi => wi i hi) hR
        · refine dQ_mv (s1 := sC s1 0) (P := 24) (fun k i h1 h2 h4 => ?_) ?_ ?_ ?_ (fun i hi => ?_) hQ
          · rw [p1n (by omega), cQ1 k i h1 h2 h4, (k1 _ (by omega)).1]
          · rw [p1n (by omega), cQ4, (k1 _ (by omega)).1]
          · rw [p1n (by omega), cQ5, (k1 _ (by omega)).1]
          · rw [p1n (by omega), cQ6, (k1 _ (by omega)).1]
          · rw [Nat.add_assoc, vi _ (by omega), ← Nat.add_assoc]
      · refine dB_congr (fun k hk => ⟨?_, ?_⟩) (fun k hk => ?_) (fun i _ _ => vo i (by omega)) (fun i _ _ => wo i (by omega)) (m4 j (by omega))
        · rw [p1n (by omega), (k2' _ (by omega)).1, (k1' _ (by omega)).1]
        · show W.2 _ = _
          rw [(k2' _ (by omega)).2, (k1' _ (by omega)).2]
        · rw [p1n (by omega), (k2' _ (by omega)).1, (k1' _ (by omega)).1]
  · have hm3 : m = 3 := by omega
    subst hm3
    refine ⟨-1, sC s1 7, sR s2 7, ?_, ?_, dI_s hI⟩
    · have z1 : ¬ (3 : Nat) < 3 := by omega
      simp (maxSteps := 1000000) (disch := omega) only [ne_eq, i_lt0, i_le0, i_eq0, i_n1, i_ltl, i_lel, i_eql, i_lt, i_le, i_eq, i_in, i_tn, i_add, i_addl, i_addr, i_mul, i_mulr, i_mull, if_true, if_false, eq_self, decide_eq_true_eq, decide_true, decide_false, Option.bind_some, Option.bind_none, ↓fu_ltd, ↓reduceIte, ↓ob_ite, ↓ob_asc, Bool.false_eq_true, Bool.true_eq_false, not_true_eq_false, not_false_eq_true, Nat.not_lt_zero, Nat.le_zero_eq, Nat.reduceAdd, Nat.reduceMul, Nat.reduceSub, Nat.reduceEqDiff, Nat.reduceLT, Nat.reduceLeDiff, sC_def, sR_def, sC_1, sC_2, sR_1, sR_2, sC_st, sR_st, sR_no, sR_refuse, and_self, true_and, and_true, false_and, and_false, f_X11_mark, q14, z1]
      try rfl
    · have e23 : (sR s2 0).1 117 23 = Int32.ofNat 3 := m3
      simp (maxSteps := 1000000) (disch := omega) only [ne_eq, i_lt0, i_le0, i_eq0, i_n1, i_ltl, i_lel, i_eql, i_lt, i_le, i_eq, i_in, i_tn, i_add, i_addl, i_addr, i_mul, i_mulr, i_mull, if_true, if_false, eq_self, decide_eq_true_eq, decide_true, decide_false, Option.bind_some, Option.bind_none, ↓fu_ltd, ↓reduceIte, ↓ob_ite, ↓ob_asc, Bool.false_eq_true, Bool.true_eq_false, not_true_eq_false, not_false_eq_true, Nat.not_lt_zero, Nat.le_zero_eq, Nat.reduceAdd, Nat.reduceMul, Nat.reduceSub, Nat.reduceEqDiff, Nat.reduceLT, Nat.reduceLeDiff, sC_def, sR_def, sC_1, sC_2, sR_1, sR_2, sC_st, sR_st, sR_no, sR_refuse, and_self, true_and, and_true, false_and, and_false, f_X12_mark, e23]
      try rfl
theorem hd_48 : lw_E_48 dI := by
  intro s1 s2 hI
  have hI0 := dI_s (x := 0) hI
  obtain ⟨hs, ⟨f1, f2⟩, hT, hP, hW, hL, hB, m, m1, m2, m3, m4⟩ := hI0
  have q14 : s1.1 0 14 = Int32.ofNat m := by
    have : (sC s1 0).1 0 14 = s1.1 0 14 := p1q (by omega)
    rw [← this]; exact m2
  have hI0 := dI_s (x := 0) hI
  have e23 : (sR s2 0).1 117 23 = Int32.ofNat m := m3
  by_cases h3 : m = 0
  · subst h3
    refine ⟨-1, sC s1 8, sR s2 8, ?_, ?_, dI_s hI⟩
    · simp (maxSteps := 1000000) (disch := omega) only [ne_eq, i_lt0, i_le0, i_eq0, i_n1, i_ltl, i_lel, i_eql, i_lt, i_le, i_eq, i_in, i_tn, i_add, i_addl, i_addr, i_mul, i_mulr, i_mull, if_true, if_false, eq_self, decide_eq_true_eq, decide_true, decide_false, Option.bind_some, Option.bind_none, ↓fu_ltd, ↓reduceIte, ↓ob_ite, ↓ob_asc, Bool.false_eq_true, Bool.true_eq_false, not_true_eq_false, not_false_eq_true, Nat.not_lt_zero, Nat.le_zero_eq, Nat.reduceAdd, Nat.reduceMul, Nat.reduceSub, Nat.reduceEqDiff, Nat.reduceLT, Nat.reduceLeDiff, sC_def, sR_def, sC_1, sC_2, sR_1, sR_2, sC_st, sR_st, sR_no, sR_refuse, and_self, true_and, and_true, false_and, and_false, f_X11_back, q14]
      try rfl
    · simp (maxSteps := 1000000) (disch := omega) only [ne_eq, i_lt0, i_le0, i_eq0, i_n1, i_ltl, i_lel, i_eql, i_lt, i_le, i_eq, i_in, i_tn, i_add, i_addl, i_addr, i_mul, i_mulr, i_mull, if_true, if_false, eq_self, decide_eq_true_eq, decide_true, decide_false, Option.bind_some, Option.bind_none, ↓fu_ltd, ↓reduceIte, ↓ob_ite, ↓ob_asc, Bool.false_eq_true, Bool.true_eq_false, not_true_eq_false, not_false_eq_true, Nat.not_lt_zero, Nat.le_zero_eq, Nat.reduceAdd, Nat.reduceMul, Nat.reduceSub, Nat.reduceEqDiff, Nat.reduceLT, Nat.reduceLeDiff, sC_def, sR_def, sC_1, sC_2, sR_1, sR_2, sC_st, sR_st, sR_no, sR_refuse, and_self, true_and, and_true, false_and, and_false, f_X12_back, e23]
      try rfl
  · obtain ⟨n, rfl⟩ : ∃ n, m = n + 1 := ⟨m - 1, by omega⟩
    have hn3 : n < 3 := by omega
    have g50 := rr_50 hn3
    have g90 := rr_90 hn3
    obtain ⟨Z, hZ⟩ : ∃ Z, Z = fu_pi (sC s1 0) 0 14 (Int32.ofNat n) := ⟨_, rfl⟩
    have z1 : ∀ a, a ≠ 0 → Z.1 a = (sC s1 0).1 a := fun a h => by rw [hZ, p1n h]
    have z2 : Z.2 = (sC s1 0).2 := by rw [hZ]; rfl
    have z14 : Z.1 0 14 = Int32.ofNat n := by rw [hZ, p1]
    have z15 : Z.1 0 15 = 0 := by rw [hZ, p1q (by omega), sC_st]
    obtain ⟨D, hv, hC, hR, hQ⟩ : dB Z (51 + 13 * n) (91 + 5 * n) (sR s2 0) (n + 1) := dB_congr (fun k hk => ⟨z1 _ (by omega), by rw [z2]⟩) (fun k hk => z1 _ (by omega)) (fun i _ _ => rfl) (fun i _ _ => rfl) (m4 n (by omega))
    have k1' := c_cpF (s := Z) (P := 11) (Q := 51 + 13 * n)
    have k2' := c_cpP (s := f_X4_copyFrom Z 11 (51 + 13 * n)) (P := 24) (Q := 91 + 5 * n)
    have cC := c_cpC (P := 11) (Q := 51 + 13 * n) (by omega) hv hC
    have cQ1 := fun k i => c_cpQ1 (s := f_X4_copyFrom Z 11 (51 + 13 * n)) (P := 24) (Q := 91 + 5 * n) (by omega) (k := k) (i := i)
    have cQ4 := c_cpQ4 (s := f_X4_copyFrom Z 11 (51 + 13 * n)) (P := 24) (Q := 91 + 5 * n) (by omega)
    have cQ5 := c_cpQ5 (s := f_X4_copyFrom Z 11 (51 + 13 * n)) (P := 24) (Q := 91 + 5 * n) (by omega)
    have cQ6 := c_cpQ6 (s := f_X4_copyFrom Z 11 (51 + 13 * n)) (P := 24) (Q := 91 + 5 * n) (by omega)
    obtain ⟨U, hU⟩ : ∃ U, U = f_X4_copyFrom Z 11 (51 + 13 * n) := ⟨_, rfl⟩
    rw [← hU] at k1' k2' cC cQ1 cQ4 cQ5 cQ6
    obtain ⟨W, hWW⟩ : ∃ W, W = f_X5_copyFrom U 24 (91 + 5 * n) := ⟨_, rfl⟩
    rw [← hWW] at k2' cQ1 cQ4 cQ5 cQ6
    have kk : ∀ a, ¬ (11 ≤ a ∧ a < 29) → W.1 a = Z.1 a ∧ W.2 a = Z.2 a := fun a ha => ⟨(k2' a (by omega)).1.trans (k1' a (by omega)).1, (k2' a (by omega)).2.trans (k1' a (by omega)).2⟩
    have eV := r_cp (s := sR s2 0) (a := n + 1) (b := 0) (by omega) (by omega) (by omega)
    obtain ⟨V, hV⟩ : ∃ V, V = cpw (cps (sR s2 0) (355 * (n + 1)) (355 * 0) 355) (7 * (n + 1)) (7 * 0) 7 := ⟨_, rfl⟩
    rw [← hV] at eV
    have v1 : ∀ a, a ≠ 122 → V.1 a = (sR s2 0).1 a := fun a h1 => by
      rw [hV, cpw_1, cps_n h1]
    have v23 : V.1 117 23 = Int32.ofNat (n + 1) := by rw [v1 117 (by omega)]; exact m3
    have v2 : ∀ a, a ≠ 124 → V.2 a = (sR s2 0).2 a := fun a h1 => by
      rw [hV, cpw_n h1]
      rfl
    have vo : ∀ r, ¬ (355 * 0 ≤ r ∧ r < 355 * 0 + 355) → V.1 122 r = (sR s2 0).1 122 r := fun r hr => by
      rw [hV, cpw_1, cps_o hr]
    have vi : ∀ i, i < 355 → V.1 122 (355 * 0 + i) = (sR s2 0).1 122 (355 * (n + 1) + i) := fun i hi => by
      rw [hV, cpw_1, cps_i hi]
    have wo : ∀ r, ¬ (7 * 0 ≤ r ∧ r < 7 * 0 + 7) → V.2 124 r = (sR s2 0).2 124 r := fun r hr => by
      rw [hV, cpw_o hr]
      rfl
    have wi : ∀ i, i < 7 → V.2 124 (7 * 0 + i) = (sR s2 0).2 124 (7 * (n + 1) + i) := fun i hi => by
      rw [hV, cpw_i hi]
      rfl
    have w14 : W.1 0 14 = Int32.ofNat n := by rw [(kk 0 (by omega)).1]; exact z14
    have u14 : U.1 0 14 = Int32.ofNat n := by rw [(k1' 0 (by omega)).1]; exact z14
    have x1 : ∀ a, a ≠ 0 → ¬ (11 ≤ a ∧ a < 29) → W.1 a = (sC s1 0).1 a := fun a h1 h2 => by
      rw [(kk a h2).1]; exact z1 a h1
    have x2 : ∀ a, ¬ (11 ≤ a ∧ a < 29) → W.2 a = (sC s1 0).2 a := fun a h2 => by
      rw [(kk a h2).2, z2]
    have y1 : ∀ a, a ≠ 122 → a ≠ 117 → (fu_pi V 117 23 (Int32.ofNat n)).1 a = (sR s2 0).1 a := fun a h1 h2 => by
      rw [p1n h2]; exact v1 a h1
    have y117 : ∀ q, q ≠ 23 → (fu_pi V 117 23 (Int32.ofNat n)).1 117 q = (sR s2 0).1 117 q := fun q h1 => by
      rw [p1q h1, v1 117 (by omega)]
    have y122 : (fu_pi V 117 23 (Int32.ofNat n)).1 122 = V.1 122 := p1n (by omega)
    refine ⟨Int32.ofNat n, W, fu_pi V 117 23 (Int32.ofNat n), ?_, ?_, dI_mk (s1 := sC s1 0) (s2 := sR s2 0) hI0 ?_ (dTp_c (fun q _ => by rw [x1 5 (by omega) (by omega)]) (x1 7 (by omega) (by omega)) (fun q hq => y117 q (by omega)) (y1 121 (by omega) (by omega)) hP) (dLv_c (x1 106 (by omega) (by omega)) (y117 31 (by omega)) (y1 127 (by omega) (by omega)) hL) (x2 0 (by omega)) (fun a ha => ⟨x1 a (by omega) (by omega), x2 a (by omega)⟩) (fun i _ => by rw [x1 113 (by omega) (by omega)]) ⟨by show V.2 117 2 = _; rw [v2 117 (by omega)], by show V.2 117 3 = _; rw [v2 117 (by omega)]⟩ (fun a ha => ⟨y1 a (by omega) (by omega), v2 a (by omega)⟩) ?_ ⟨n, by omega, w14, p1, fun j hj => ?_⟩⟩
    · have q14' : (sC s1 0).1 0 14 = Int32.ofNat (n + 1) := m2
      simp (maxSteps := 1000000) (disch := omega) only [ne_eq, i_lt0, i_le0, i_eq0, i_n1, i_ltl, i_lel, i_eql, i_lt, i_le, i_eq, i_in, i_tn, i_add, i_addl, i_addr, i_mul, i_mulr, i_mull, if_true, if_false, eq_self, decide_eq_true_eq, decide_true, decide_false, Option.bind_some, Option.bind_none, ↓fu_ltd, ↓reduceIte, ↓ob_ite, ↓ob_asc, Bool.false_eq_true, Bool.true_eq_false, not_true_eq_false, not_false_eq_true, Nat.not_lt_zero, Nat.le_zero_eq, Nat.reduceAdd, Nat.reduceMul, Nat.reduceSub, Nat.reduceEqDiff, Nat.reduceLT, Nat.reduceLeDiff, sC_def, sR_def, sC_1, sC_2, sR_1, sR_2, sC_st, sR_st, sR_no, sR_refuse, and_self, true_and, and_true, false_and, and_false, f_X11_back, q14, q14', h3, i_add1s, ← hZ, z14, hn3, i_tn, g50, g90, ← hU, u14, ← hWW, w14]
    · have eV' : f_X12_copy (sR s2 0) (Int32.ofNat (n + 1)) 0 = some V := eV
      simp (maxSteps := 1000000) (disch := omega) only [ne_eq, i_lt0, i_le0, i_eq0, i_n1, i_ltl, i_lel, i_eql, i_lt, i_le, i_eq, i_in, i_tn, i_add, i_addl, i_addr, i_mul, i_mulr, i_mull, if_true, if_false, eq_self, decide_eq_true_eq, decide_true, decide_false, Option.bind_some, Option.bind_none, ↓fu_ltd, ↓reduceIte, ↓ob_ite, ↓ob_asc, Bool.false_eq_true, Bool.true_eq_false, not_true_eq_false, not_false_eq_true, Nat.not_lt_zero, Nat.le_zero_eq, Nat.reduceAdd, Nat.reduceMul, Nat.reduceSub, Nat.reduceEqDiff, Nat.reduceLT, Nat.reduceLeDiff, sC_def, sR_def, sC_1, sC_2, sR_1, sR_2, sC_st, sR_st, sR_no, sR_refuse, and_self, true_and, and_true, false_and, and_false, f_X12_back, e23, h3, i_add1s, p1, eV', v23]
    · rw [(kk 0 (by omega)).1, z15, p1q (by omega), v1 117 (by omega), sR_st]
    · refine ⟨D, hv, ?_, ?_, ?_⟩
      · exact dC_congr (s := U) (fun k hk => k2' _ (by omega)) cC
      · exact dR_mv hv (fun i hi => by rw [y122]; exact vi i (by omega)) (fun i hi => wi i hi) hR
      · refine dQ_mv (s1 := Z) (P := 91 + 5 * n) (fun k i h1 h2 h4 => ?_) ?_ ?_ ?_ (fun i hi => ?_) hQ
        · rw [cQ1 k i h1 h2 h4, (k1' _ (by omega)).1]
        · rw [cQ4, (k1' _ (by omega)).1]
        · rw [cQ5, (k1' _ (by omega)).1]
        · rw [cQ6, (k1' _ (by omega)).1]
        · rw [y122, Nat.add_assoc, vi _ (by omega), ← Nat.add_assoc]
    · exact dB_congr (fun k hk => ⟨x1 _ (by omega) (by omega), x2 _ (by omega)⟩) (fun k hk => x1 _ (by omega) (by omega)) (fun i _ _ => by rw [y122]; exact vo i (by omega)) (fun i _ _ => wo i (by omega)) (m4 j (by omega))
