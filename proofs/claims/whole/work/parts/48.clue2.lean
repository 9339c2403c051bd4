/-! couples, whose: the reference's side -/
/-- who is asked for: everybody, or one -/
def d_fl (x : Int32) (o : Nat) : Bool := decide (x < 0) || decide (Int32.ofNat o = x)
theorem dR_q {s : fu_S} {q : Nat} {x : Int32} {D : dD} {b : Nat} (hv : dV D) (h : dR s b D) : dR (fu_pi s 117 q x) b D := dR_congr hv (fun i _ _ => by rw [p1n (by omega)]) (fun i _ _ => rfl) h
section CLR
variable {s : fu_S} {D : dD} {t p q o k b w : Nat} {x : Int32}
def r_cnt (D : dD) (x : Int32) (p q o : Nat) : Nat := d_sum (fun k => (d_it D p q o k && d_fl x o).toNat) (D 0 3)
def r_wgt (D : dD) (x : Int32) (p q o : Nat) : Nat := d_sum (fun k => if (d_it D p q o k && d_fl x o) = true then D 3 k else 0) (D 0 3)
theorem r_cpl1 (h : dR s 0 D) (hv : dV D) (ho : o < D 0 4) (hp : p < D 0 4) (hq : q < 10) : l_X12_couplesOf_25 fu_N (fu_pi s 117 27 (Int32.ofNat w)) (Int32.ofNat p) (Int32.ofNat q) x (Int32.ofNat b) (Int32.ofNat o) 0 = some (Int32.ofNat (b + r_cnt D x p q o), fu_pi s 117 27 (Int32.ofNat (w + r_wgt D x p q o))) := by
  have hp4 := hv.1
  exact lp_up (l := fun f (σ : Int32 × fu_S) k => l_X12_couplesOf_25 f σ.2 (Int32.ofNat p) (Int32.ofNat q) x σ.1 (Int32.ofNat o) (Int32.ofNat k)) (N := D 0 3) (S := fun k => (Int32.ofNat (b + d_sum (fun k => (d_it D p q o k && d_fl x o).toNat) k), fu_pi s 117 27 (Int32.ofNat (w + d_sum (fun k => if (d_it D p q o k && d_fl x o) = true then D 3 k else 0) k)))) (r := (Int32.ofNat (b + r_cnt D x p q o), fu_pi s 117 27 (Int32.ofNat (w + r_wgt D x p q o)))) (fun n k hk => by
      generalize hA : d_sum (fun k => (d_it D p q o k && d_fl x o).toNat) k = A
      generalize hB : d_sum (fun k => if (d_it D p q o k && d_fl x o) = true then D 3 k else 0) k = B
      have hR := fun y => dR_q (q := 27) (x := y) hv h
      have g0 := (dR_0 h).1.1
      have g3 := ((dR_0 h).2.1 k hk).2.2
      have e1 := fun y => r_bearerBy (hR y) hv ho hk
      have e2 := fun y => r_spotBy (hR y) hv ho hk
      have m1 : 16 + k < 1775 := by omega
      have e3 : d_by D o k < D 0 4 := d_by_lt ho
      have e4 : d_spy D o k < 10 := d_spy_lt
      show l_X12_couplesOf_25 (n + 1) (fu_pi s 117 27 (Int32.ofNat (w + B))) (Int32.ofNat p) (Int32.ofNat q) x (Int32.ofNat (b + A)) (Int32.ofNat o) (Int32.ofNat k) = l_X12_couplesOf_25 n (fu_pi s 117 27 (Int32.ofNat (w + d_sum (fun k => if (d_it D p q o k && d_fl x o) = true then D 3 k else 0) (k + 1)))) (Int32.ofNat p) (Int32.ofNat q) x (Int32.ofNat (b + d_sum (fun k => (d_it D p q o k && d_fl x o).toNat) (k + 1))) (Int32.ofNat o) (Int32.ofNat (k + 1))
      rw [d_sum_s, d_sum_s, hA, hB]
      unfold d_it d_fl
      have p27 : ∀ y z, fu_pi (fu_pi s 117 27 y) 117 27 z = fu_pi s 117 27 z := fun _ _ => pp
      by_cases h1 : d_by D o k = p
      · by_cases h2 : d_spy D o k = q
        · by_cases h3 : x < 0
          · simp (maxSteps := 1000000) (disch := omega) only [ne_eq, i_lt0, i_le0, i_eq0, i_n1, i_ltl, i_lel, i_eql, i_lt, i_le, i_eq, i_in, i_tn, i_add, i_addl, i_addr, i_mul, i_mulr, i_mull, if_true, if_false, eq_self, decide_eq_true_eq, decide_true, decide_false, Option.bind_some, Option.bind_none, ↓fu_ltd, ↓reduceIte, ↓ob_ite, ↓ob_asc, Bool.false_eq_true, Bool.true_eq_false, not_true_eq_false, not_false_eq_true, Nat.not_lt_zero, Nat.le_zero_eq, Nat.reduceAdd, Nat.reduceMul, Nat.reduceSub, Nat.reduceEqDiff, Nat.reduceLT, Nat.reduceLeDiff, sC_def, sR_def, sC_1, sC_2, sR_1, sR_2, sC_st, sR_st, sR_no, sR_refuse, and_self, true_and, and_true, false_and, and_false, l_X12_couplesOf_25, p1n, p1, g0, hk, e1, e2, h1, h2, h3, m1, g3, i_add1, p27, Bool.and_self, Bool.true_or, Bool.toNat_true, Nat.add_assoc]
          · by_cases h4 : Int32.ofNat o = x
            · subst h4
              simp (maxSteps := 1000000) (disch := omega) only [ne_eq, i_lt0, i_le0, i_eq0, i_n1, i_ltl, i_lel, i_eql, i_lt, i_le, i_eq, i_in, i_tn, i_add, i_addl, i_addr, i_mul, i_mulr, i_mull, if_true, if_false, eq_self, decide_eq_true_eq, decide_true, decide_false, Option.bind_some, Option.bind_none, ↓fu_ltd, ↓reduceIte, ↓ob_ite, ↓ob_asc, Bool.false_eq_true, Bool.true_eq_false, not_true_eq_false, not_false_eq_true, Nat.not_lt_zero, Nat.le_zero_eq, Nat.reduceAdd, Nat.reduceMul, Nat.reduceSub, Nat.reduceEqDiff, Nat.reduceLT, Nat.reduceLeDiff, sC_def, sR_def, sC_1, sC_2, sR_1, sR_2, sC_st, sR_st, sR_no, sR_refuse, and_self, true_and, and_true, false_and, and_false, l_X12_couplesOf_25, p1n, p1, g0, hk, e1, e2, h1, h2, h3, m1, g3, i_add1, p27, Bool.and_self, Bool.false_or, Bool.toNat_true, Nat.add_assoc]
            · simp (maxSteps := 1000000) (disch := omega) only [ne_eq, i_lt0, i_le0, i_eq0, i_n1, i_ltl, i_lel, i_eql, i_lt, i_le, i_eq, i_in, i_tn, i_add, i_addl, i_addr, i_mul, i_mulr, i_mull, if_true, if_false, eq_self, decide_eq_true_eq, decide_true, decide_false, Option.bind_some, Option.bind_none, ↓fu_ltd, ↓reduceIte, ↓ob_ite, ↓ob_asc, Bool.false_eq_true, Bool.true_eq_false, not_true_eq_false, not_false_eq_true, Nat.not_lt_zero, Nat.le_zero_eq, Nat.reduceAdd, Nat.reduceMul, Nat.reduceSub, Nat.reduceEqDiff, Nat.reduceLT, Nat.reduceLeDiff, sC_def, sR_def, sC_1, sC_2, sR_1, sR_2, sC_st, sR_st, sR_no, sR_refuse, and_self, true_and, and_true, false_and, and_false, l_X12_couplesOf_25, p1n, p1, g0, hk, e1, e2, h1, h2, h3, h4, m1, g3, i_add1, p27, Bool.and_self, Bool.or_self, Bool.and_false, Bool.toNat_false, Nat.add_zero]
        · simp (maxSteps := 1000000) (disch := omega) only [ne_eq, i_lt0, i_le0, i_eq0, i_n1, i_ltl, i_lel, i_eql, i_lt, i_le, i_eq, i_in, i_tn, i_add, i_addl, i_addr, i_mul, i_mulr, i_mull, if_true, if_false, eq_self, decide_eq_true_eq, decide_true, decide_false, Option.bind_some, Option.bind_none, ↓fu_ltd, ↓reduceIte, ↓ob_ite, ↓ob_asc, Bool.false_eq_true, Bool.true_eq_false, not_true_eq_false, not_false_eq_true, Nat.not_lt_zero, Nat.le_zero_eq, Nat.reduceAdd, Nat.reduceMul, Nat.reduceSub, Nat.reduceEqDiff, Nat.reduceLT, Nat.reduceLeDiff, sC_def, sR_def, sC_1, sC_2, sR_1, sR_2, sC_st, sR_st, sR_no, sR_refuse, and_self, true_and, and_true, false_and, and_false, l_X12_couplesOf_25, p1n, p1, g0, hk, e1, e2, h1, h2, i_add1, Bool.and_false, Bool.false_and, Bool.toNat_false, Nat.add_zero]
      · simp (maxSteps := 1000000) (disch := omega) only [ne_eq, i_lt0, i_le0, i_eq0, i_n1, i_ltl, i_lel, i_eql, i_lt, i_le, i_eq, i_in, i_tn, i_add, i_addl, i_addr, i_mul, i_mulr, i_mull, if_true, if_false, eq_self, decide_eq_true_eq, decide_true, decide_false, Option.bind_some, Option.bind_none, ↓fu_ltd, ↓reduceIte, ↓ob_ite, ↓ob_asc, Bool.false_eq_true, Bool.true_eq_false, not_true_eq_false, not_false_eq_true, Nat.not_lt_zero, Nat.le_zero_eq, Nat.reduceAdd, Nat.reduceMul, Nat.reduceSub, Nat.reduceEqDiff, Nat.reduceLT, Nat.reduceLeDiff, sC_def, sR_def, sC_1, sC_2, sR_1, sR_2, sC_st, sR_st, sR_no, sR_refuse, and_self, true_and, and_true, false_and, and_false, l_X12_couplesOf_25, p1n, p1, g0, hk, e1, h1, i_add1, Bool.false_and, Bool.toNat_false, Nat.add_zero]) (fun n => by
      have g0 := (dR_0 h).1.1
      show l_X12_couplesOf_25 (n + 1) (fu_pi s 117 27 (Int32.ofNat (w + r_wgt D x p q o))) (Int32.ofNat p) (Int32.ofNat q) x (Int32.ofNat (b + r_cnt D x p q o)) (Int32.ofNat o) (Int32.ofNat (D 0 3)) = _
      simp (maxSteps := 1000000) (disch := omega) only [ne_eq, i_lt0, i_le0, i_eq0, i_n1, i_ltl, i_lel, i_eql, i_lt, i_le, i_eq, i_in, i_tn, i_add, i_addl, i_addr, i_mul, i_mulr, i_mull, if_true, if_false, eq_self, decide_eq_true_eq, decide_true, decide_false, Option.bind_some, Option.bind_none, ↓fu_ltd, ↓reduceIte, ↓ob_ite, ↓ob_asc, Bool.false_eq_true, Bool.true_eq_false, not_true_eq_false, not_false_eq_true, Nat.not_lt_zero, Nat.le_zero_eq, Nat.reduceAdd, Nat.reduceMul, Nat.reduceSub, Nat.reduceEqDiff, Nat.reduceLT, Nat.reduceLeDiff, sC_def, sR_def, sC_1, sC_2, sR_1, sR_2, sC_st, sR_st, sR_no, sR_refuse, and_self, true_and, and_true, false_and, and_false, l_X12_couplesOf_25, p1n, g0, Nat.lt_irrefl]) (f := fu_N) (k := 0) (by omega) (fu_N_gt (by omega))
theorem r_cpl (h : dR s 0 D) (hv : dV D) (hp : p < D 0 4) (hq : q < 10) : f_X12_couplesOf s (Int32.ofNat p) (Int32.ofNat q) x = some (Int32.ofNat (d_sum (r_cnt D x p q) (D 0 4)), fu_pi s 117 27 (Int32.ofNat (d_sum (r_wgt D x p q) (D 0 4)))) := by
  have hp4 := hv.1
  have g1 := (dR_0 h).1.2.1
  have hL : l_X12_couplesOf_11 fu_N (fu_pi s 117 27 0) (Int32.ofNat p) (Int32.ofNat q) x 0 0 = some (Int32.ofNat (d_sum (r_cnt D x p q) (D 0 4)), fu_pi s 117 27 (Int32.ofNat (d_sum (r_wgt D x p q) (D 0 4)))) := lp_up (l := fun f (σ : Int32 × fu_S) k => l_X12_couplesOf_11 f σ.2 (Int32.ofNat p) (Int32.ofNat q) x σ.1 (Int32.ofNat k)) (N := D 0 4) (S := fun k => (Int32.ofNat (d_sum (r_cnt D x p q) k), fu_pi s 117 27 (Int32.ofNat (d_sum (r_wgt D x p q) k)))) (r := (Int32.ofNat (d_sum (r_cnt D x p q) (D 0 4)), fu_pi s 117 27 (Int32.ofNat (d_sum (r_wgt D x p q) (D 0 4))))) (fun n k hk => by
      have e1 := r_cpl1 (x := x) (b := d_sum (r_cnt D x p q) k) (w := d_sum (r_wgt D x p q) k) h hv hk hp hq
      show l_X12_couplesOf_11 (n + 1) (fu_pi s 117 27 (Int32.ofNat (d_sum (r_wgt D x p q) k))) (Int32.ofNat p) (Int32.ofNat q) x (Int32.ofNat (d_sum (r_cnt D x p q) k)) (Int32.ofNat k) = _
      simp (maxSteps := 1000000) (disch := omega) only [ne_eq, i_lt0, i_le0, i_eq0, i_n1, i_ltl, i_lel, i_eql, i_lt, i_le, i_eq, i_in, i_tn, i_add, i_addl, i_addr, i_mul, i_mulr, i_mull, if_true, if_false, eq_self, decide_eq_true_eq, decide_true, decide_false, Option.bind_some, Option.bind_none, ↓fu_ltd, ↓reduceIte, ↓ob_ite, ↓ob_asc, Bool.false_eq_true, Bool.true_eq_false, not_true_eq_false, not_false_eq_true, Nat.not_lt_zero, Nat.le_zero_eq, Nat.reduceAdd, Nat.reduceMul, Nat.reduceSub, Nat.reduceEqDiff, Nat.reduceLT, Nat.reduceLeDiff, sC_def, sR_def, sC_1, sC_2, sR_1, sR_2, sC_st, sR_st, sR_no, sR_refuse, and_self, true_and, and_true, false_and, and_false, l_X12_couplesOf_11, p1n, g1, hk, e1, i_add1, d_sum_s]) (fun n => by
      show l_X12_couplesOf_11 (n + 1) (fu_pi s 117 27 (Int32.ofNat (d_sum (r_wgt D x p q) (D 0 4)))) (Int32.ofNat p) (Int32.ofNat q) x (Int32.ofNat (d_sum (r_cnt D x p q) (D 0 4))) (Int32.ofNat (D 0 4)) = _
      simp (maxSteps := 1000000) (disch := omega) only [ne_eq, i_lt0, i_le0, i_eq0, i_n1, i_ltl, i_lel, i_eql, i_lt, i_le, i_eq, i_in, i_tn, i_add, i_addl, i_addr, i_mul, i_mulr, i_mull, if_true, if_false, eq_self, decide_eq_true_eq, decide_true, decide_false, Option.bind_some, Option.bind_none, ↓fu_ltd, ↓reduceIte, ↓ob_ite, ↓ob_asc, Bool.false_eq_true, Bool.true_eq_false, not_true_eq_false, not_false_eq_true, Nat.not_lt_zero, Nat.le_zero_eq, Nat.reduceAdd, Nat.reduceMul, Nat.reduceSub, Nat.reduceEqDiff, Nat.reduceLT, Nat.reduceLeDiff, sC_def, sR_def, sC_1, sC_2, sR_1, sR_2, sC_st, sR_st, sR_no, sR_refuse, and_self, true_and, and_true, false_and, and_false, l_X12_couplesOf_11, p1n, g1, Nat.lt_irrefl]) (f := fu_N) (k := 0) (by omega) (fu_N_gt (by omega))
  simp (maxSteps := 1000000) (disch := omega) only [ne_eq, i_lt0, i_le0, i_eq0, i_n1, i_ltl, i_lel, i_eql, i_lt, i_le, i_eq, i_in, i_tn, i_add, i_addl, i_addr, i_mul, i_mulr, i_mull, if_true, if_false, eq_self, decide_eq_true_eq, decide_true, decide_false, Option.bind_some, Option.bind_none, ↓fu_ltd, ↓reduceIte, ↓ob_ite, ↓ob_asc, Bool.false_eq_true, Bool.true_eq_false, not_true_eq_false, not_false_eq_true, Nat.not_lt_zero, Nat.le_zero_eq, Nat.reduceAdd, Nat.reduceMul, Nat.reduceSub, Nat.reduceEqDiff, Nat.reduceLT, Nat.reduceLeDiff, sC_def, sR_def, sC_1, sC_2, sR_1, sR_2, sC_st, sR_st, sR_no, sR_refuse, and_self, true_and, and_true, false_and, and_false, f_X12_couplesOf, hL]
theorem r_cnt_a (hx : x < 0) : r_cnt D x p q o = d_cnt D p q o := by
  unfold r_cnt d_cnt
  refine d_sum_congr fun k _ => ?_
  rw [show d_fl x o = true by unfold d_fl; rw [decide_eq_true hx]; rfl, Bool.and_true]
theorem r_wgt_a (hx : x < 0) : r_wgt D x p q o = d_wgt D p q o := by
  unfold r_wgt d_wgt
  refine d_sum_congr fun k _ => ?_
  rw [show d_fl x o = true by unfold d_fl; rw [decide_eq_true hx]; rfl, Bool.and_true]
theorem r_wgt_o (ho : o < 2147483648) (hw : w < 2147483648) : r_wgt D (Int32.ofNat w) p q o = if o = w then d_wgt D p q o else 0 := by
  have h0 : ¬ Int32.ofNat w < 0 := i_neg hw
  unfold r_wgt d_wgt
  by_cases e : o = w
  · rw [if_pos e]
    refine d_sum_congr fun k _ => ?_
    rw [show d_fl (Int32.ofNat w) o = true by unfold d_fl; rw [decide_eq_false h0, e]; simp, Bool.and_true]
  · rw [if_neg e]
    refine d_sum_0.mpr fun k _ => ?_
    have h1 : ¬ Int32.ofNat o = Int32.ofNat w := fun z => e ((i_eq ho hw).mp z)
    rw [show d_fl (Int32.ofNat w) o = false by unfold d_fl; rw [decide_eq_false h0, decide_eq_false h1]; rfl, Bool.and_false]
    rfl
theorem d_wgt_le (hv : dV D) : d_wgt D p q o ≤ 45 := by
  have h1 : d_wgt D p q o ≤ D 0 3 * 9 := d_sum_le fun k hk => by
    have := dV_k hv hk
    split <;> omega
  have := hv.1
  omega
theorem d_wgt_0 (hv : dV D) : d_wgt D p q o = 0 ↔ d_cnt D p q o = 0 := by
  unfold d_wgt d_cnt
  rw [d_sum_0, d_sum_0]
  refine forall_congr' fun k => forall_congr' fun hk => ?_
  have := dV_k hv hk
  cases d_it D p q o k <;> simp <;> omega
theorem d_ws_0 (hv : dV D) : ∀ {n}, d_sum (d_wgt D p q) n = 0 ↔ d_sum (d_cnt D p q) n = 0 := by
  intro n
  rw [d_sum_0, d_sum_0]
  exact forall_congr' fun o => forall_congr' fun _ => d_wgt_0 hv
end CLR
theorem r_isSpot {x : Int32} : f_X12_isSpotAt x = decide (¬ x < 0 ∧ x ≤ 9) := by
  unfold f_X12_isSpotAt
  exact r_isInl9
theorem c_isSpotD {x : Int32} {P : Nat} : f_X4_isSpot P x = decide (¬ x < 0 ∧ x < 10) := by
  unfold f_X4_isSpot fu_lt
  exact if_and2
theorem i_le9 {x : Int32} : x ≤ 9 ↔ x < 10 := by
  rw [Int32.lt_iff_toInt_lt, Int32.le_iff_toInt_le, show (9 : Int32).toInt = 9 from rfl, show (10 : Int32).toInt = 10 from rfl]
  omega
theorem i_is10 {x : Int32} (h : ¬ x < 0 ∧ x < 10) : ∃ k, k < 10 ∧ x = Int32.ofNat k := i_is (n := 10) (by omega) h
theorem eqR_27 {s : fu_S} {x : Int32} : eqR s (fu_pi s 117 27 x) := eqR_st (by omega) (by omega) (by omega) (by omega) (by omega)
theorem hd_32 : lw_E_32 dI := by
  intro s1 s2 hI a1 a2
  obtain ⟨D, hv, hC, hR, -⟩ := dI_D hI
  have hp4 := hv.1
  have hc := fun x => dC_s (x := x) (by omega : (11 : Nat) ≠ 0) hC
  have hr := fun x => dR_s (x := x) hv hR
  have ep := fun x y => r_isPerson (x := y) (hr x) hv
  by_cases h1 : ¬ a1 < 0 ∧ a1 < Int32.ofNat (D 0 4)
  · obtain ⟨p, hp, rfl⟩ := i_is (by omega) h1
    by_cases h2 : ¬ a2 < 0 ∧ a2 < 10
    · obtain ⟨q, hq, rfl⟩ := i_is10 h2
      have hq9 : q ≤ 9 := by omega
      have e1 := c_cnt (hc 0) hv hp hq
      have e2 := r_cpl (x := -1) (hr 0) hv hp hq
      rw [show d_sum (r_cnt D (-1) p q) (D 0 4) = d_sum (d_cnt D p q) (D 0 4) from d_sum_congr fun o _ => r_cnt_a (by decide)] at e2
      refine ⟨Int32.ofNat (d_sum (d_cnt D p q) (D 0 4)), sC s1 0, fu_pi (sR s2 0) 117 27 (Int32.ofNat (d_sum (r_wgt D (-1) p q) (D 0 4))), ?_, ?_, dI_eq hI eqC_sC (eqR_tr eqR_sR eqR_27) ?_⟩
      · simp (maxSteps := 1000000) (disch := omega) only [ne_eq, i_lt0, i_le0, i_eq0, i_n1, i_ltl, i_lel, i_eql, i_lt, i_le, i_eq, i_in, i_tn, i_add, i_addl, i_addr, i_mul, i_mulr, i_mull, if_true, if_false, eq_self, decide_eq_true_eq, decide_true, decide_false, Option.bind_some, Option.bind_none, ↓fu_ltd, ↓reduceIte, ↓ob_ite, ↓ob_asc, Bool.false_eq_true, Bool.true_eq_false, not_true_eq_false, not_false_eq_true, Nat.not_lt_zero, Nat.le_zero_eq, Nat.reduceAdd, Nat.reduceMul, Nat.reduceSub, Nat.reduceEqDiff, Nat.reduceLT, Nat.reduceLeDiff, sC_def, sR_def, sC_1, sC_2, sR_1, sR_2, sC_st, sR_st, sR_no, sR_refuse, and_self, true_and, and_true, false_and, and_false, f_X11_couples, c_hasPerson hC, c_isSpotD, hp, hq, e1]
      · simp (maxSteps := 1000000) (disch := omega) only [ne_eq, i_lt0, i_le0, i_eq0, i_n1, i_ltl, i_lel, i_eql, i_lt, i_le, i_eq, i_in, i_tn, i_add, i_addl, i_addr, i_mul, i_mulr, i_mull, if_true, if_false, eq_self, decide_eq_true_eq, decide_true, decide_false, Option.bind_some, Option.bind_none, ↓fu_ltd, ↓reduceIte, ↓ob_ite, ↓ob_asc, Bool.false_eq_true, Bool.true_eq_false, not_true_eq_false, not_false_eq_true, Nat.not_lt_zero, Nat.le_zero_eq, Nat.reduceAdd, Nat.reduceMul, Nat.reduceSub, Nat.reduceEqDiff, Nat.reduceLT, Nat.reduceLeDiff, sC_def, sR_def, sC_1, sC_2, sR_1, sR_2, sC_st, sR_st, sR_no, sR_refuse, and_self, true_and, and_true, false_and, and_false, f_X12_couples, ep, r_isSpot, hp, hq9, e2]
      · rw [sC_st, p1q (by omega), sR_st]
    · have h2' : ¬ (¬ a2 < 0 ∧ a2 ≤ 9) := fun z => h2 ⟨z.1, i_le9.mp z.2⟩
      refine ⟨-1, sC s1 2, sR s2 2, ?_, ?_, dI_s hI⟩
      · simp (maxSteps := 1000000) (disch := omega) only [ne_eq, i_lt0, i_le0, i_eq0, i_n1, i_ltl, i_lel, i_eql, i_lt, i_le, i_eq, i_in, i_tn, i_add, i_addl, i_addr, i_mul, i_mulr, i_mull, if_true, if_false, eq_self, decide_eq_true_eq, decide_true, decide_false, Option.bind_some, Option.bind_none, ↓fu_ltd, ↓reduceIte, ↓ob_ite, ↓ob_asc, Bool.false_eq_true, Bool.true_eq_false, not_true_eq_false, not_false_eq_true, Nat.not_lt_zero, Nat.le_zero_eq, Nat.reduceAdd, Nat.reduceMul, Nat.reduceSub, Nat.reduceEqDiff, Nat.reduceLT, Nat.reduceLeDiff, sC_def, sR_def, sC_1, sC_2, sR_1, sR_2, sC_st, sR_st, sR_no, sR_refuse, and_self, true_and, and_true, false_and, and_false, f_X11_couples, c_hasPerson hC, c_isSpotD, hp, h2]
        try rfl
      · simp (maxSteps := 1000000) (disch := omega) only [ne_eq, i_lt0, i_le0, i_eq0, i_n1, i_ltl, i_lel, i_eql, i_lt, i_le, i_eq, i_in, i_tn, i_add, i_addl, i_addr, i_mul, i_mulr, i_mull, if_true, if_false, eq_self, decide_eq_true_eq, decide_true, decide_false, Option.bind_some, Option.bind_none, ↓fu_ltd, ↓reduceIte, ↓ob_ite, ↓ob_asc, Bool.false_eq_true, Bool.true_eq_false, not_true_eq_false, not_false_eq_true, Nat.not_lt_zero, Nat.le_zero_eq, Nat.reduceAdd, Nat.reduceMul, Nat.reduceSub, Nat.reduceEqDiff, Nat.reduceLT, Nat.reduceLeDiff, sC_def, sR_def, sC_1, sC_2, sR_1, sR_2, sC_st, sR_st, sR_no, sR_refuse, and_self, true_and, and_true, false_and, and_false, f_X12_couples, ep, r_isSpot, hp, h2']
  · refine ⟨-1, sC s1 2, sR s2 2, ?_, ?_, dI_s hI⟩
    · simp (maxSteps := 1000000) (disch := omega) only [ne_eq, i_lt0, i_le0, i_eq0, i_n1, i_ltl, i_lel, i_eql, i_lt, i_le, i_eq, i_in, i_tn, i_add, i_addl, i_addr, i_mul, i_mulr, i_mull, if_true, if_false, eq_self, decide_eq_true_eq, decide_true, decide_false, Option.bind_some, Option.bind_none, ↓fu_ltd, ↓reduceIte, ↓ob_ite, ↓ob_asc, Bool.false_eq_true, Bool.true_eq_false, not_true_eq_false, not_false_eq_true, Nat.not_lt_zero, Nat.le_zero_eq, Nat.reduceAdd, Nat.reduceMul, Nat.reduceSub, Nat.reduceEqDiff, Nat.reduceLT, Nat.reduceLeDiff, sC_def, sR_def, sC_1, sC_2, sR_1, sR_2, sC_st, sR_st, sR_no, sR_refuse, and_self, true_and, and_true, false_and, and_false, f_X11_couples, c_hasPerson hC, h1]
      try rfl
    · simp (maxSteps := 1000000) (disch := omega) only [ne_eq, i_lt0, i_le0, i_eq0, i_n1, i_ltl, i_lel, i_eql, i_lt, i_le, i_eq, i_in, i_tn, i_add, i_addl, i_addr, i_mul, i_mulr, i_mull, if_true, if_false, eq_self, decide_eq_true_eq, decide_true, decide_false, Option.bind_some, Option.bind_none, ↓fu_ltd, ↓reduceIte, ↓ob_ite, ↓ob_asc, Bool.false_eq_true, Bool.true_eq_false, not_true_eq_false, not_false_eq_true, Nat.not_lt_zero, Nat.le_zero_eq, Nat.reduceAdd, Nat.reduceMul, Nat.reduceSub, Nat.reduceEqDiff, Nat.reduceLT, Nat.reduceLeDiff, sC_def, sR_def, sC_1, sC_2, sR_1, sR_2, sC_st, sR_st, sR_no, sR_refuse, and_self, true_and, and_true, false_and, and_false, f_X12_couples, ep, h1]
theorem hd_33 : lw_E_33 dI := by
  intro s1 s2 hI a1 a2 a3
  obtain ⟨D, hv, hC, hR, -⟩ := dI_D hI
  have hp4 := hv.1
  have hc := fun x => dC_s (x := x) (by omega : (11 : Nat) ≠ 0) hC
  have hr := fun x => dR_s (x := x) hv hR
  have ep := fun x y => r_isPerson (x := y) (hr x) hv
  by_cases h1 : ¬ a1 < 0 ∧ a1 < Int32.ofNat (D 0 4)
  · obtain ⟨p, hp, rfl⟩ := i_is (by omega) h1
    by_cases h2 : ¬ a2 < 0 ∧ a2 < 10
    · obtain ⟨q, hq, rfl⟩ := i_is10 h2
      have hq9 : q ≤ 9 := by omega
      by_cases h3 : ¬ a3 < 0 ∧ a3 < Int32.ofNat (D 0 4)
      · obtain ⟨w, hw, rfl⟩ := i_is (by omega) h3
        have e1 := c_cnt hC hv hp hq
        have e2 := r_cpl (x := -1) (hr 0) hv hp hq
        rw [show d_sum (r_wgt D (-1) p q) (D 0 4) = d_sum (d_wgt D p q) (D 0 4) from d_sum_congr fun o _ => r_wgt_a (by decide)] at e2
        have hA : d_sum (d_wgt D p q) (D 0 4) ≤ D 0 4 * 45 := d_sum_le fun _ _ => d_wgt_le hv
        have hB : d_sum (d_cnt D p q) (D 0 4) ≤ D 0 4 * 5 := d_sum_le fun o _ => by
          have h1 : d_cnt D p q o ≤ D 0 3 * 1 := d_sum_le fun k _ => by cases d_it D p q o k <;> simp
          omega
        have hz := d_ws_0 (p := p) (q := q) hv (n := D 0 4)
        have e5 := r_cpl (x := Int32.ofNat w) (dR_q (q := 27) (x := Int32.ofNat (d_sum (d_wgt D p q) (D 0 4))) hv (hr 0)) hv hp hq
        rw [show d_sum (r_wgt D (Int32.ofNat w) p q) (D 0 4) = d_wgt D p q w from (d_sum_congr fun o ho => r_wgt_o (by omega) (by omega)).trans (d_sum_one.trans (if_pos hw)), pp] at e5
        have hW : d_wgt D p q w ≤ 45 := d_wgt_le hv
        have e6 := c_wgt (hc 0) hv hw hp hq
        have e7 : l_X11_whose_74 fu_N (sC s1 0) (Int32.ofNat p) (Int32.ofNat q) (Int32.ofNat w) 0 0 = some (Int32.ofNat (d_sum (d_wgt D p q) (D 0 4))) := by
          have c4 : (sC s1 0).1 11 4 = Int32.ofNat (D 0 4) := (dC_11 (hc 0)).1.2.2.2.2.1
          exact lp_up (l := fun f σ k => l_X11_whose_74 f (sC s1 0) (Int32.ofNat p) (Int32.ofNat q) (Int32.ofNat w) (Int32.ofNat σ) (Int32.ofNat k)) (N := D 0 4) (S := fun k => d_sum (d_wgt D p q) k) (r := Int32.ofNat (d_sum (d_wgt D p q) (D 0 4))) (fun n k hk => by
            have e1 := c_wgt (hc 0) hv hk hp hq
            show l_X11_whose_74 (n + 1) (sC s1 0) (Int32.ofNat p) (Int32.ofNat q) (Int32.ofNat w) (Int32.ofNat (d_sum (d_wgt D p q) k)) (Int32.ofNat k) = _
            generalize sC s1 0 = u at *
            simp (maxSteps := 1000000) (disch := omega) only [ne_eq, i_lt0, i_le0, i_eq0, i_n1, i_ltl, i_lel, i_eql, i_lt, i_le, i_eq, i_in, i_tn, i_add, i_addl, i_addr, i_mul, i_mulr, i_mull, if_true, if_false, eq_self, decide_eq_true_eq, decide_true, decide_false, Option.bind_some, Option.bind_none, ↓fu_ltd, ↓reduceIte, ↓ob_ite, ↓ob_asc, Bool.false_eq_true, Bool.true_eq_false, not_true_eq_false, not_false_eq_true, Nat.not_lt_zero, Nat.le_zero_eq, Nat.reduceAdd, Nat.reduceMul, Nat.reduceSub, Nat.reduceEqDiff, Nat.reduceLT, Nat.reduceLeDiff, sC_def, sR_def, sC_1, sC_2, sR_1, sR_2, sC_st, sR_st, sR_no, sR_refuse, and_self, true_and, and_true, false_and, and_false, l_X11_whose_74, f_X4_people, c4, hk, e1, i_add1, d_sum_s]) (fun n => by
            show l_X11_whose_74 (n + 1) (sC s1 0) (Int32.ofNat p) (Int32.ofNat q) (Int32.ofNat w) (Int32.ofNat (d_sum (d_wgt D p q) (D 0 4))) (Int32.ofNat (D 0 4)) = _
            generalize sC s1 0 = u at *
            simp (maxSteps := 1000000) (disch := omega) only [ne_eq, i_lt0, i_le0, i_eq0, i_n1, i_ltl, i_lel, i_eql, i_lt, i_le, i_eq, i_in, i_tn, i_add, i_addl, i_addr, i_mul, i_mulr, i_mull, if_true, if_false, eq_self, decide_eq_true_eq, decide_true, decide_false, Option.bind_some, Option.bind_none, ↓fu_ltd, ↓reduceIte, ↓ob_ite, ↓ob_asc, Bool.false_eq_true, Bool.true_eq_false, not_true_eq_false, not_false_eq_true, Nat.not_lt_zero, Nat.le_zero_eq, Nat.reduceAdd, Nat.reduceMul, Nat.reduceSub, Nat.reduceEqDiff, Nat.reduceLT, Nat.reduceLeDiff, sC_def, sR_def, sC_1, sC_2, sR_1, sR_2, sC_st, sR_st, sR_no, sR_refuse, and_self, true_and, and_true, false_and, and_false, l_X11_whose_74, f_X4_people, c4, Nat.lt_irrefl]) (f := fu_N) (k := 0) (by omega) (fu_N_gt (by omega))
        generalize d_sum (d_wgt D p q) (D 0 4) = A at *
        generalize d_sum (d_cnt D p q) (D 0 4) = B at *
        generalize d_wgt D p q w = W at *
        by_cases hz0 : A = 0
        · have hB0 : B = 0 := hz.mp hz0
          subst hz0 hB0
          refine ⟨false, sC s1 8, sR (fu_pi s2 117 27 0) 8, ?_, ?_, dI_eq hI eqC_sC (eqR_tr eqR_27 eqR_sR) ?_⟩
          · simp (maxSteps := 1000000) (disch := omega) only [ne_eq, i_lt0, i_le0, i_eq0, i_n1, i_ltl, i_lel, i_eql, i_lt, i_le, i_eq, i_in, i_tn, i_add, i_addl, i_addr, i_mul, i_mulr, i_mull, if_true, if_false, eq_self, decide_eq_true_eq, decide_true, decide_false, Option.bind_some, Option.bind_none, ↓fu_ltd, ↓reduceIte, ↓ob_ite, ↓ob_asc, Bool.false_eq_true, Bool.true_eq_false, not_true_eq_false, not_false_eq_true, Nat.not_lt_zero, Nat.le_zero_eq, Nat.reduceAdd, Nat.reduceMul, Nat.reduceSub, Nat.reduceEqDiff, Nat.reduceLT, Nat.reduceLeDiff, sC_def, sR_def, sC_1, sC_2, sR_1, sR_2, sC_st, sR_st, sR_no, sR_refuse, and_self, true_and, and_true, false_and, and_false, f_X11_whose, c_hasPerson hC, c_isSpotD, hp, hq, hw, e1]
            try rfl
          · have z1 : f_X12_no (fu_pi (sR s2 0) 117 27 (Int32.ofNat 0)) 8 = (false, sR (fu_pi s2 117 27 0) 8) := by
              unfold f_X12_no sR fu_lt
              refine congrArg (Prod.mk false) ?_
              unfold fu_pi
              refine Prod.ext ?_ rfl
              funext a r
              dsimp only
              by_cases y1 : a = 117 ∧ r = 0
              · simp [y1]
              · by_cases y2 : a = 117 ∧ r = 1
                · simp [y2]
                · by_cases y3 : a = 117 ∧ r = 27
                  · simp [y3]
                  · simp [y1, y2, y3]
            simp (maxSteps := 1000000) (disch := omega) only [ne_eq, i_lt0, i_le0, i_eq0, i_n1, i_ltl, i_lel, i_eql, i_lt, i_le, i_eq, i_in, i_tn, i_add, i_addl, i_addr, i_mul, i_mulr, i_mull, if_true, if_false, eq_self, decide_eq_true_eq, decide_true, decide_false, Option.bind_some, Option.bind_none, ↓fu_ltd, ↓reduceIte, ↓ob_ite, ↓ob_asc, Bool.false_eq_true, Bool.true_eq_false, not_true_eq_false, not_false_eq_true, Nat.not_lt_zero, Nat.le_zero_eq, Nat.reduceAdd, Nat.reduceMul, Nat.reduceSub, Nat.reduceEqDiff, Nat.reduceLT, Nat.reduceLeDiff, sC_def, sR_def, sC_1, sC_2, sR_1, sR_2, sC_st, sR_st, sR_no, sR_refuse, and_self, true_and, and_true, false_and, and_false, f_X12_whose, ep, r_isSpot, hp, hq9, hw, e2, p1, z1]
            try rfl
          · rw [sC_st, sR_st]
        · have hB0 : ¬ B = 0 := fun z => hz0 (hz.mpr z)
          have A6 : A < 2147483648 := by omega
          have W6 : W < 2147483648 := by omega
          have B6 : B < 2147483648 := by omega
          have e8 := c_tell (s := sC s1 0) (t := W) (b := A) (by omega) (by omega) (by omega)
          have e9 := r_fraction (s := fu_pi (sR s2 0) 117 27 (Int32.ofNat W)) (t := W) (b := A) (by omega) (by omega) (by omega)
          have jA : Int32.toInt64 (Int32.ofNat A) = Int64.ofNat A := j_of A6
          have jW : Int32.toInt64 (Int32.ofNat W) = Int64.ofNat W := j_of W6
          refine ⟨true, _, _, ?_, ?_, dI_tell (x := Int64.ofNat (W / Nat.gcd W A)) (y := Int64.ofNat (A / Nat.gcd W A)) (s1 := sC s1 0) (s2 := fu_pi (sR s2 0) 117 27 (Int32.ofNat W)) (dI_eq hI eqC_sC (eqR_tr eqR_sR eqR_27) ?_)⟩
          · simp (maxSteps := 1000000) (disch := omega) only [ne_eq, i_lt0, i_le0, i_eq0, i_n1, i_ltl, i_lel, i_eql, i_lt, i_le, i_eq, i_in, i_tn, i_add, i_addl, i_addr, i_mul, i_mulr, i_mull, if_true, if_false, eq_self, decide_eq_true_eq, decide_true, decide_false, Option.bind_some, Option.bind_none, ↓fu_ltd, ↓reduceIte, ↓ob_ite, ↓ob_asc, Bool.false_eq_true, Bool.true_eq_false, not_true_eq_false, not_false_eq_true, Nat.not_lt_zero, Nat.le_zero_eq, Nat.reduceAdd, Nat.reduceMul, Nat.reduceSub, Nat.reduceEqDiff, Nat.reduceLT, Nat.reduceLeDiff, sC_def, sR_def, sC_1, sC_2, sR_1, sR_2, sC_st, sR_st, sR_no, sR_refuse, and_self, true_and, and_true, false_and, and_false, f_X11_whose, c_hasPerson hC, c_isSpotD, hp, hq, hw, e1, hB0, e7, e6, jA, jW, e8]
          · simp (maxSteps := 1000000) (disch := omega) only [ne_eq, i_lt0, i_le0, i_eq0, i_n1, i_ltl, i_lel, i_eql, i_lt, i_le, i_eq, i_in, i_tn, i_add, i_addl, i_addr, i_mul, i_mulr, i_mull, if_true, if_false, eq_self, decide_eq_true_eq, decide_true, decide_false, Option.bind_some, Option.bind_none, ↓fu_ltd, ↓reduceIte, ↓ob_ite, ↓ob_asc, Bool.false_eq_true, Bool.true_eq_false, not_true_eq_false, not_false_eq_true, Nat.not_lt_zero, Nat.le_zero_eq, Nat.reduceAdd, Nat.reduceMul, Nat.reduceSub, Nat.reduceEqDiff, Nat.reduceLT, Nat.reduceLeDiff, sC_def, sR_def, sC_1, sC_2, sR_1, sR_2, sC_st, sR_st, sR_no, sR_refuse, and_self, true_and, and_true, false_and, and_false, f_X12_whose, ep, r_isSpot, hp, hq9, hw, e2, p1, hz0, e5, jA, jW, e9]
          · rw [sC_st, p1q (by omega), sR_st]
      · refine ⟨false, sC s1 2, sR s2 2, ?_, ?_, dI_s hI⟩
        · simp (maxSteps := 1000000) (disch := omega) only [ne_eq, i_lt0, i_le0, i_eq0, i_n1, i_ltl, i_lel, i_eql, i_lt, i_le, i_eq, i_in, i_tn, i_add, i_addl, i_addr, i_mul, i_mulr, i_mull, if_true, if_false, eq_self, decide_eq_true_eq, decide_true, decide_false, Option.bind_some, Option.bind_none, ↓fu_ltd, ↓reduceIte, ↓ob_ite, ↓ob_asc, Bool.false_eq_true, Bool.true_eq_false, not_true_eq_false, not_false_eq_true, Nat.not_lt_zero, Nat.le_zero_eq, Nat.reduceAdd, Nat.reduceMul, Nat.reduceSub, Nat.reduceEqDiff, Nat.reduceLT, Nat.reduceLeDiff, sC_def, sR_def, sC_1, sC_2, sR_1, sR_2, sC_st, sR_st, sR_no, sR_refuse, and_self, true_and, and_true, false_and, and_false, f_X11_whose, c_hasPerson hC, c_isSpotD, hp, hq, h3]
          try rfl
        · simp (maxSteps := 1000000) (disch := omega) only [ne_eq, i_lt0, i_le0, i_eq0, i_n1, i_ltl, i_lel, i_eql, i_lt, i_le, i_eq, i_in, i_tn, i_add, i_addl, i_addr, i_mul, i_mulr, i_mull, if_true, if_false, eq_self, decide_eq_true_eq, decide_true, decide_false, Option.bind_some, Option.bind_none, ↓fu_ltd, ↓reduceIte, ↓ob_ite, ↓ob_asc, Bool.false_eq_true, Bool.true_eq_false, not_true_eq_false, not_false_eq_true, Nat.not_lt_zero, Nat.le_zero_eq, Nat.reduceAdd, Nat.reduceMul, Nat.reduceSub, Nat.reduceEqDiff, Nat.reduceLT, Nat.reduceLeDiff, sC_def, sR_def, sC_1, sC_2, sR_1, sR_2, sC_st, sR_st, sR_no, sR_refuse, and_self, true_and, and_true, false_and, and_false, f_X12_whose, ep, r_isSpot, hp, hq9, h3]
    · have h2' : ¬ (¬ a2 < 0 ∧ a2 ≤ 9) := fun z => h2 ⟨z.1, i_le9.mp z.2⟩
      refine ⟨false, sC s1 2, sR s2 2, ?_, ?_, dI_s hI⟩
      · simp (maxSteps := 1000000) (disch := omega) only [ne_eq, i_lt0, i_le0, i_eq0, i_n1, i_ltl, i_lel, i_eql, i_lt, i_le, i_eq, i_in, i_tn, i_add, i_addl, i_addr, i_mul, i_mulr, i_mull, if_true, if_false, eq_self, decide_eq_true_eq, decide_true, decide_false, Option.bind_some, Option.bind_none, ↓fu_ltd, ↓reduceIte, ↓ob_ite, ↓ob_asc, Bool.false_eq_true, Bool.true_eq_false, not_true_eq_false, not_false_eq_true, Nat.not_lt_zero, Nat.le_zero_eq, Nat.reduceAdd, Nat.reduceMul, Nat.reduceSub, Nat.reduceEqDiff, Nat.reduceLT, Nat.reduceLeDiff, sC_def, sR_def, sC_1, sC_2, sR_1, sR_2, sC_st, sR_st, sR_no, sR_refuse, and_self, true_and, and_true, false_and, and_false, f_X11_whose, c_hasPerson hC, c_isSpotD, hp, h2]
        try rfl
      · simp (maxSteps := 1000000) (disch := omega) only [ne_eq, i_lt0, i_le0, i_eq0, i_n1, i_ltl, i_lel, i_eql, i_lt, i_le, i_eq, i_in, i_tn, i_add, i_addl, i_addr, i_mul, i_mulr, i_mull, if_true, if_false, eq_self, decide_eq_true_eq, decide_true, decide_false, Option.bind_some, Option.bind_none, ↓fu_ltd, ↓reduceIte, ↓ob_ite, ↓ob_asc, Bool.false_eq_true, Bool.true_eq_false, not_true_eq_false, not_false_eq_true, Nat.not_lt_zero, Nat.le_zero_eq, Nat.reduceAdd, Nat.reduceMul, Nat.reduceSub, Nat.reduceEqDiff, Nat.reduceLT, Nat.reduceLeDiff, sC_def, sR_def, sC_1, sC_2, sR_1, sR_2, sC_st, sR_st, sR_no, sR_refuse, and_self, true_and, and_true, false_and, and_false, f_X12_whose, ep, r_isSpot, hp, h2']
  · refine ⟨false, sC s1 2, sR s2 2, ?_, ?_, dI_s hI⟩
    · simp (maxSteps := 1000000) (disch := omega) only [ne_eq, i_lt0, i_le0, i_eq0, i_n1, i_ltl, i_lel, i_eql, i_lt, i_le, i_eq, i_in, i_tn, i_add, i_addl, i_addr, i_mul, i_mulr, i_mull, if_true, if_false, eq_self, decide_eq_true_eq, decide_true, decide_false, Option.bind_some, Option.bind_none, ↓fu_ltd, ↓reduceIte, ↓ob_ite, ↓ob_asc, Bool.false_eq_true, Bool.true_eq_false, not_true_eq_false, not_false_eq_true, Nat.not_lt_zero, Nat.le_zero_eq, Nat.reduceAdd, Nat.reduceMul, Nat.reduceSub, Nat.reduceEqDiff, Nat.reduceLT, Nat.reduceLeDiff, sC_def, sR_def, sC_1, sC_2, sR_1, sR_2, sC_st, sR_st, sR_no, sR_refuse, and_self, true_and, and_true, false_and, and_false, f_X11_whose, c_hasPerson hC, h1]
      try rfl
    · simp (maxSteps := 1000000) (disch := omega) only [ne_eq, i_lt0, i_le0, i_eq0, i_n1, i_ltl, i_lel, i_eql, i_lt, i_le, i_eq, i_in, i_tn, i_add, i_addl, i_addr, i_mul, i_mulr, i_mull, if_true, if_false, eq_self, decide_eq_true_eq, decide_true, decide_false, Option.bind_some, Option.bind_none, ↓fu_ltd, ↓reduceIte, ↓ob_ite, ↓ob_asc, Bool.false_eq_true, Bool.true_eq_false, not_true_eq_false, not_false_eq_true, Nat.not_lt_zero, Nat.le_zero_eq, Nat.reduceAdd, Nat.reduceMul, Nat.reduceSub, Nat.reduceEqDiff, Nat.reduceLT, Nat.reduceLeDiff, sC_def, sR_def, sC_1, sC_2, sR_1, sR_2, sC_st, sR_st, sR_no, sR_refuse, and_self, true_and, and_true, false_and, and_false, f_X12_whose, ep, h1]
