/-! hands, way -/
section HN2
variable {s : fu_S} {P : Nat} {D : dD} {t p q o k b A n len : Nat} {h h' : Nat → Nat}
theorem r_hasL (h0 : dR s 0 D) (hv : dV D) (hp : p < D 0 4) (hh : ∀ r, r < 7 → s.1 126 r = e_b (h r)) (hb : ∀ r, h r ≤ 7) (hl : 1 ≤ len) (hl7 : len ≤ 7) : l_X12_laysHands_56 fu_N s (Int32.ofNat len) (Int32.ofNat p) false 0 = some (d_has D h p len) := by
  have hp4 := hv.1
  exact lp_up (l := fun f σ k => l_X12_laysHands_56 f s (Int32.ofNat len) (Int32.ofNat p) σ (Int32.ofNat k)) (N := D 0 3) (S := fun k => !d_allb (fun k => !decide (h (d_by D p k) = len)) k) (r := d_has D h p len) (fun n k hk => by
      have g0 := (dR_0 h0).1.1
      have e1 := r_bearerBy h0 hv hp hk
      have hb4 : d_by D p k < D 0 4 := d_by_lt hp
      have hb7 : d_by D p k < 7 := by omega
      have e2 := hh _ hb7
      have e3 := e_b_eq (a := h (d_by D p k)) (v := len - 1) (by have := hb (d_by D p k); omega) (by omega)
      have e4 : d_allb (fun k => !decide (h (d_by D p k) = len)) (k + 1) = (d_allb (fun k => !decide (h (d_by D p k) = len)) k && !decide (h (d_by D p k) = len)) := rfl
      show l_X12_laysHands_56 (n + 1) s (Int32.ofNat len) (Int32.ofNat p) (!d_allb (fun k => !decide (h (d_by D p k) = len)) k) (Int32.ofNat k) = l_X12_laysHands_56 n s (Int32.ofNat len) (Int32.ofNat p) (!d_allb (fun k => !decide (h (d_by D p k) = len)) (k + 1)) (Int32.ofNat (k + 1))
      rw [e4]
      generalize d_allb (fun k => !decide (h (d_by D p k) = len)) k = B
      cases B
      · simp (maxSteps := 1000000) (disch := omega) only [ne_eq, i_lt0, i_le0, i_eq0, i_n1, i_ltl, i_lel, i_eql, i_lt, i_le, i_eq, i_in, i_tn, i_add, i_addl, i_addr, i_mul, i_mulr, i_mull, if_true, if_false, eq_self, decide_eq_true_eq, decide_true, decide_false, Option.bind_some, Option.bind_none, ↓fu_ltd, ↓reduceIte, ↓ob_ite, ↓ob_asc, Bool.false_eq_true, Bool.true_eq_false, not_true_eq_false, not_false_eq_true, Nat.not_lt_zero, Nat.le_zero_eq, Nat.reduceAdd, Nat.reduceMul, Nat.reduceSub, Nat.reduceEqDiff, Nat.reduceLT, Nat.reduceLeDiff, sC_def, sR_def, sC_1, sC_2, sR_1, sR_2, sC_st, sR_st, sR_no, sR_refuse, and_self, true_and, and_true, false_and, and_false, l_X12_laysHands_56, g0, hk, Bool.not_false, Bool.false_and, i_add1]
      · by_cases hz : h (d_by D p k) = len
        · have hz' : e_b (h (d_by D p k)) = Int32.ofNat (len - 1) := e3.mpr (by omega)
          rw [decide_eq_true hz]
          simp (maxSteps := 1000000) (disch := omega) only [ne_eq, i_lt0, i_le0, i_eq0, i_n1, i_ltl, i_lel, i_eql, i_lt, i_le, i_eq, i_in, i_tn, i_add, i_addl, i_addr, i_mul, i_mulr, i_mull, if_true, if_false, eq_self, decide_eq_true_eq, decide_true, decide_false, Option.bind_some, Option.bind_none, ↓fu_ltd, ↓reduceIte, ↓ob_ite, ↓ob_asc, Bool.false_eq_true, Bool.true_eq_false, not_true_eq_false, not_false_eq_true, Nat.not_lt_zero, Nat.le_zero_eq, Nat.reduceAdd, Nat.reduceMul, Nat.reduceSub, Nat.reduceEqDiff, Nat.reduceLT, Nat.reduceLeDiff, sC_def, sR_def, sC_1, sC_2, sR_1, sR_2, sC_st, sR_st, sR_no, sR_refuse, and_self, true_and, and_true, false_and, and_false, l_X12_laysHands_56, g0, hk, e1, hb7, e2, i_subl, hl, hz', Bool.not_false, Bool.not_true, Bool.and_false, i_add1]
        · have hz' : ¬ e_b (h (d_by D p k)) = Int32.ofNat (len - 1) := fun z => hz (by have := e3.mp z; omega)
          rw [decide_eq_false hz]
          simp (maxSteps := 1000000) (disch := omega) only [ne_eq, i_lt0, i_le0, i_eq0, i_n1, i_ltl, i_lel, i_eql, i_lt, i_le, i_eq, i_in, i_tn, i_add, i_addl, i_addr, i_mul, i_mulr, i_mull, if_true, if_false, eq_self, decide_eq_true_eq, decide_true, decide_false, Option.bind_some, Option.bind_none, ↓fu_ltd, ↓reduceIte, ↓ob_ite, ↓ob_asc, Bool.false_eq_true, Bool.true_eq_false, not_true_eq_false, not_false_eq_true, Nat.not_lt_zero, Nat.le_zero_eq, Nat.reduceAdd, Nat.reduceMul, Nat.reduceSub, Nat.reduceEqDiff, Nat.reduceLT, Nat.reduceLeDiff, sC_def, sR_def, sC_1, sC_2, sR_1, sR_2, sC_st, sR_st, sR_no, sR_refuse, and_self, true_and, and_true, false_and, and_false, l_X12_laysHands_56, g0, hk, e1, hb7, e2, i_subl, hl, hz', Bool.not_false, Bool.not_true, Bool.and_true, i_add1]) (fun n => by
      have g0 := (dR_0 h0).1.1
      show l_X12_laysHands_56 (n + 1) s (Int32.ofNat len) (Int32.ofNat p) (d_has D h p len) (Int32.ofNat (D 0 3)) = _
      simp (maxSteps := 1000000) (disch := omega) only [ne_eq, i_lt0, i_le0, i_eq0, i_n1, i_ltl, i_lel, i_eql, i_lt, i_le, i_eq, i_in, i_tn, i_add, i_addl, i_addr, i_mul, i_mulr, i_mull, if_true, if_false, eq_self, decide_eq_true_eq, decide_true, decide_false, Option.bind_some, Option.bind_none, ↓fu_ltd, ↓reduceIte, ↓ob_ite, ↓ob_asc, Bool.false_eq_true, Bool.true_eq_false, not_true_eq_false, not_false_eq_true, Nat.not_lt_zero, Nat.le_zero_eq, Nat.reduceAdd, Nat.reduceMul, Nat.reduceSub, Nat.reduceEqDiff, Nat.reduceLT, Nat.reduceLeDiff, sC_def, sR_def, sC_1, sC_2, sR_1, sR_2, sC_st, sR_st, sR_no, sR_refuse, and_self, true_and, and_true, false_and, and_false, l_X12_laysHands_56, g0, Nat.lt_irrefl]) (f := fu_N) (k := 0) (by omega) (fu_N_gt (by omega))
theorem r_lay1 (h0 : dR s 0 D) (hv : dV D) (hb : ∀ r, h r ≤ 7) (hl : 1 ≤ len) (hl7 : len < 7) : l_X12_laysHands_40 fu_N (wri s 126 7 (fun r => e_b (h r))) (Int32.ofNat len) 0 = some (wri s 126 7 (fun r => e_b (d_hp D len h (D 0 4) r))) := by
  have hp4 := hv.1
  exact lp_up (l := fun f σ k => l_X12_laysHands_40 f σ (Int32.ofNat len) (Int32.ofNat k)) (N := D 0 4) (S := fun p => wri s 126 7 (fun r => e_b (d_hp D len h p r))) (r := wri s 126 7 (fun r => e_b (d_hp D len h (D 0 4) r))) (fun n k hk => by
      have hb' : ∀ r, d_hp D len h k r ≤ 7 := d_hp_le hb (by omega)
      generalize hg : d_hp D len h k = g at *
      have hh' : ∀ r, r < 7 → (wri s 126 7 (fun r => e_b (g r))).1 126 r = e_b (g r) := fun r hr => wri_r hr
      have hk7 : k < 7 := by omega
      have e0 := hh' k hk7
      have hbk := hb' k
      have hR := dR_w (f := fun r => e_b (g r)) (a := 126) (j := 7) (by omega) hv h0
      have g1 := (dR_0 hR).1.2.1
      have e1 := r_hasL hR hv hk hh' hb' hl (by omega)
      have hu : d_hp D len h (k + 1) = d_hu D len k g := by rw [← hg]; rfl
      have hn := e_b_neg (b := g k) (by omega)
      show l_X12_laysHands_40 (n + 1) (wri s 126 7 (fun r => e_b (g r))) (Int32.ofNat len) (Int32.ofNat k) = l_X12_laysHands_40 n (wri s 126 7 (fun r => e_b (d_hp D len h (k + 1) r))) (Int32.ofNat len) (Int32.ofNat (k + 1))
      rw [hu]
      cases hz : d_has D g k len
      · rw [hz] at e1
        have e2 : wri s 126 7 (fun r => e_b (d_hu D len k g r)) = wri s 126 7 (fun r => e_b (g r)) := wri_c fun r _ => by
          unfold d_hu
          rw [if_neg (fun z => by rw [hz] at z; exact Bool.noConfusion z.2.2.2)]
        rw [e2]
        generalize wri s 126 7 (fun r => e_b (g r)) = u at *
        simp (maxSteps := 1000000) (disch := omega) only [ne_eq, i_lt0, i_le0, i_eq0, i_n1, i_ltl, i_lel, i_eql, i_lt, i_le, i_eq, i_in, i_tn, i_add, i_addl, i_addr, i_mul, i_mulr, i_mull, if_true, if_false, eq_self, decide_eq_true_eq, decide_true, decide_false, Option.bind_some, Option.bind_none, ↓fu_ltd, ↓reduceIte, ↓ob_ite, ↓ob_asc, Bool.false_eq_true, Bool.true_eq_false, not_true_eq_false, not_false_eq_true, Nat.not_lt_zero, Nat.le_zero_eq, Nat.reduceAdd, Nat.reduceMul, Nat.reduceSub, Nat.reduceEqDiff, Nat.reduceLT, Nat.reduceLeDiff, sC_def, sR_def, sC_1, sC_2, sR_1, sR_2, sC_st, sR_st, sR_no, sR_refuse, and_self, true_and, and_true, false_and, and_false, l_X12_laysHands_40, g1, hk, e1, i_add1]
      · rw [hz] at e1
        by_cases h1 : g k = 0
        · have hn' := hn.mpr h1
          have e2 : fu_pi (wri s 126 7 (fun r => e_b (g r))) 126 k (Int32.ofNat len) = wri s 126 7 (fun r => e_b (d_hu D len k g r)) := by
            rw [wri_u hk7]
            refine wri_c fun j _ => ?_
            unfold d_hu
            by_cases e : j = k
            · rw [if_pos e, if_pos ⟨e, hk, h1, hz⟩]; rfl
            · rw [if_neg e, if_neg (fun z => e z.1)]
          generalize wri s 126 7 (fun r => e_b (g r)) = u at *
          generalize wri s 126 7 (fun r => e_b (d_hu D len k g r)) = v at *
          simp (maxSteps := 1000000) (disch := omega) only [ne_eq, i_lt0, i_le0, i_eq0, i_n1, i_ltl, i_lel, i_eql, i_lt, i_le, i_eq, i_in, i_tn, i_add, i_addl, i_addr, i_mul, i_mulr, i_mull, if_true, if_false, eq_self, decide_eq_true_eq, decide_true, decide_false, Option.bind_some, Option.bind_none, ↓fu_ltd, ↓reduceIte, ↓ob_ite, ↓ob_asc, Bool.false_eq_true, Bool.true_eq_false, not_true_eq_false, not_false_eq_true, Nat.not_lt_zero, Nat.le_zero_eq, Nat.reduceAdd, Nat.reduceMul, Nat.reduceSub, Nat.reduceEqDiff, Nat.reduceLT, Nat.reduceLeDiff, sC_def, sR_def, sC_1, sC_2, sR_1, sR_2, sC_st, sR_st, sR_no, sR_refuse, and_self, true_and, and_true, false_and, and_false, l_X12_laysHands_40, g1, hk, hk7, e1, e0, hn', e2, i_add1]
        · have hn' : ¬ _ := fun z => h1 (hn.mp z)
          have e2 : wri s 126 7 (fun r => e_b (d_hu D len k g r)) = wri s 126 7 (fun r => e_b (g r)) := wri_c fun r _ => by
            unfold d_hu
            rw [if_neg (fun z => h1 z.2.2.1)]
          rw [e2]
          generalize wri s 126 7 (fun r => e_b (g r)) = u at *
          simp (maxSteps := 1000000) (disch := omega) only [ne_eq, i_lt0, i_le0, i_eq0, i_n1, i_ltl, i_lel, i_eql, i_lt, i_le, i_eq, i_in, i_tn, i_add, i_addl, i_addr, i_mul, i_mulr, i_mull, if_true, if_false, eq_self, decide_eq_true_eq, decide_true, decide_false, Option.bind_some, Option.bind_none, ↓fu_ltd, ↓reduceIte, ↓ob_ite, ↓ob_asc, Bool.false_eq_true, Bool.true_eq_false, not_true_eq_false, not_false_eq_true, Nat.not_lt_zero, Nat.le_zero_eq, Nat.reduceAdd, Nat.reduceMul, Nat.reduceSub, Nat.reduceEqDiff, Nat.reduceLT, Nat.reduceLeDiff, sC_def, sR_def, sC_1, sC_2, sR_1, sR_2, sC_st, sR_st, sR_no, sR_refuse, and_self, true_and, and_true, false_and, and_false, l_X12_laysHands_40, g1, hk, hk7, e1, e0, hn', i_add1]) (fun n => by
      have hR := dR_w (f := fun r => e_b (d_hp D len h (D 0 4) r)) (a := 126) (j := 7) (by omega) hv h0
      have g1 := (dR_0 hR).1.2.1
      show l_X12_laysHands_40 (n + 1) (wri s 126 7 (fun r => e_b (d_hp D len h (D 0 4) r))) (Int32.ofNat len) (Int32.ofNat (D 0 4)) = _
      generalize wri s 126 7 (fun r => e_b (d_hp D len h (D 0 4) r)) = u at *
      simp (maxSteps := 1000000) (disch := omega) only [ne_eq, i_lt0, i_le0, i_eq0, i_n1, i_ltl, i_lel, i_eql, i_lt, i_le, i_eq, i_in, i_tn, i_add, i_addl, i_addr, i_mul, i_mulr, i_mull, if_true, if_false, eq_self, decide_eq_true_eq, decide_true, decide_false, Option.bind_some, Option.bind_none, ↓fu_ltd, ↓reduceIte, ↓ob_ite, ↓ob_asc, Bool.false_eq_true, Bool.true_eq_false, not_true_eq_false, not_false_eq_true, Nat.not_lt_zero, Nat.le_zero_eq, Nat.reduceAdd, Nat.reduceMul, Nat.reduceSub, Nat.reduceEqDiff, Nat.reduceLT, Nat.reduceLeDiff, sC_def, sR_def, sC_1, sC_2, sR_1, sR_2, sC_st, sR_st, sR_no, sR_refuse, and_self, true_and, and_true, false_and, and_false, l_X12_laysHands_40, g1, Nat.lt_irrefl]) (f := fu_N) (k := 0) (by omega) (fu_N_gt (by omega))
theorem r_lay (h0 : dR s 0 D) (hv : dV D) (hq : q < 7) : f_X12_laysHands s (Int32.ofNat q) = some (wri s 126 7 (fun r => e_b (d_hl D q 6 r))) := by
  have hL0 : l_X12_laysHands_2 fu_N s (Int32.ofNat q) 0 = some (wri s 126 7 (fun r => e_b (d_hl D q 0 r))) := by
    have := lp_up (l := fun f σ k => l_X12_laysHands_2 f σ (Int32.ofNat q) (Int32.ofNat k)) (N := 7) (S := fun k => wri s 126 k (fun r => e_b (d_hl D q 0 r))) (r := wri s 126 7 (fun r => e_b (d_hl D q 0 r))) (fun n k hk => by
      have e1 : fu_pi (wri s 126 k (fun r => e_b (d_hl D q 0 r))) 126 k (e_b (d_hl D q 0 k)) = wri s 126 (k + 1) (fun r => e_b (d_hl D q 0 r)) := wri_s (f := fun r => e_b (d_hl D q 0 r))
      show l_X12_laysHands_2 (n + 1) (wri s 126 k (fun r => e_b (d_hl D q 0 r))) (Int32.ofNat q) (Int32.ofNat k) = l_X12_laysHands_2 n (wri s 126 (k + 1) (fun r => e_b (d_hl D q 0 r))) (Int32.ofNat q) (Int32.ofNat (k + 1))
      by_cases e : k = q
      · have e2 : e_b (d_hl D q 0 k) = 0 := by
          show e_b (if k = q then 1 else 0) = 0
          rw [if_pos e]; rfl
        rw [e2] at e1
        generalize wri s 126 k (fun r => e_b (d_hl D q 0 r)) = u at *
        generalize wri s 126 (k + 1) (fun r => e_b (d_hl D q 0 r)) = v at *
        subst e
        simp (maxSteps := 1000000) (disch := omega) only [ne_eq, i_lt0, i_le0, i_eq0, i_n1, i_ltl, i_lel, i_eql, i_lt, i_le, i_eq, i_in, i_tn, i_add, i_addl, i_addr, i_mul, i_mulr, i_mull, if_true, if_false, eq_self, decide_eq_true_eq, decide_true, decide_false, Option.bind_some, Option.bind_none, ↓fu_ltd, ↓reduceIte, ↓ob_ite, ↓ob_asc, Bool.false_eq_true, Bool.true_eq_false, not_true_eq_false, not_false_eq_true, Nat.not_lt_zero, Nat.le_zero_eq, Nat.reduceAdd, Nat.reduceMul, Nat.reduceSub, Nat.reduceEqDiff, Nat.reduceLT, Nat.reduceLeDiff, sC_def, sR_def, sC_1, sC_2, sR_1, sR_2, sC_st, sR_st, sR_no, sR_refuse, and_self, true_and, and_true, false_and, and_false, l_X12_laysHands_2, hk, e1, i_add1]
      · have e2 : e_b (d_hl D q 0 k) = -1 := by
          show e_b (if k = q then 1 else 0) = -1
          rw [if_neg e]; rfl
        rw [e2] at e1
        generalize wri s 126 k (fun r => e_b (d_hl D q 0 r)) = u at *
        generalize wri s 126 (k + 1) (fun r => e_b (d_hl D q 0 r)) = v at *
        simp (maxSteps := 1000000) (disch := omega) only [ne_eq, i_lt0, i_le0, i_eq0, i_n1, i_ltl, i_lel, i_eql, i_lt, i_le, i_eq, i_in, i_tn, i_add, i_addl, i_addr, i_mul, i_mulr, i_mull, if_true, if_false, eq_self, decide_eq_true_eq, decide_true, decide_false, Option.bind_some, Option.bind_none, ↓fu_ltd, ↓reduceIte, ↓ob_ite, ↓ob_asc, Bool.false_eq_true, Bool.true_eq_false, not_true_eq_false, not_false_eq_true, Nat.not_lt_zero, Nat.le_zero_eq, Nat.reduceAdd, Nat.reduceMul, Nat.reduceSub, Nat.reduceEqDiff, Nat.reduceLT, Nat.reduceLeDiff, sC_def, sR_def, sC_1, sC_2, sR_1, sR_2, sC_st, sR_st, sR_no, sR_refuse, and_self, true_and, and_true, false_and, and_false, l_X12_laysHands_2, hk, e, e1, i_add1]) (fun n => by
      show l_X12_laysHands_2 (n + 1) (wri s 126 7 (fun r => e_b (d_hl D q 0 r))) (Int32.ofNat q) (Int32.ofNat 7) = _
      simp (maxSteps := 1000000) (disch := omega) only [ne_eq, i_lt0, i_le0, i_eq0, i_n1, i_ltl, i_lel, i_eql, i_lt, i_le, i_eq, i_in, i_tn, i_add, i_addl, i_addr, i_mul, i_mulr, i_mull, if_true, if_false, eq_self, decide_eq_true_eq, decide_true, decide_false, Option.bind_some, Option.bind_none, ↓fu_ltd, ↓reduceIte, ↓ob_ite, ↓ob_asc, Bool.false_eq_true, Bool.true_eq_false, not_true_eq_false, not_false_eq_true, Nat.not_lt_zero, Nat.le_zero_eq, Nat.reduceAdd, Nat.reduceMul, Nat.reduceSub, Nat.reduceEqDiff, Nat.reduceLT, Nat.reduceLeDiff, sC_def, sR_def, sC_1, sC_2, sR_1, sR_2, sC_st, sR_st, sR_no, sR_refuse, and_self, true_and, and_true, false_and, and_false, l_X12_laysHands_2, Nat.lt_irrefl]) (f := fu_N) (k := 0) (by omega) (fu_N_gt (by omega))
    simp only [wri_0] at this
    exact this
  have hL : l_X12_laysHands_32 fu_N (wri s 126 7 (fun r => e_b (d_hl D q 0 r))) 1 = some (wri s 126 7 (fun r => e_b (d_hl D q 6 r))) := lp_fr (l := fun f σ k => l_X12_laysHands_32 f σ (Int32.ofNat k)) (a := 1) (b := 7) (S := fun k => wri s 126 7 (fun r => e_b (d_hl D q (k - 1) r))) (r := wri s 126 7 (fun r => e_b (d_hl D q 6 r))) (fun n k ha hk => by
      have e1 := r_lay1 (s := s) (h := d_hl D q (k - 1)) (len := k) h0 hv (fun r => by have := d_hl_le (D := D) (q := q) (l := k - 1) r; omega) ha hk
      rw [show d_hp D k (d_hl D q (k - 1)) (D 0 4) = d_hl D q k by
        obtain ⟨j, rfl⟩ : ∃ j, k = j + 1 := ⟨k - 1, by omega⟩
        rfl] at e1
      show l_X12_laysHands_32 (n + 1) (wri s 126 7 (fun r => e_b (d_hl D q (k - 1) r))) (Int32.ofNat k) = l_X12_laysHands_32 n (wri s 126 7 (fun r => e_b (d_hl D q k r))) (Int32.ofNat (k + 1))
      generalize wri s 126 7 (fun r => e_b (d_hl D q (k - 1) r)) = u at *
      generalize wri s 126 7 (fun r => e_b (d_hl D q k r)) = v at *
      simp (maxSteps := 1000000) (disch := omega) only [ne_eq, i_lt0, i_le0, i_eq0, i_n1, i_ltl, i_lel, i_eql, i_lt, i_le, i_eq, i_in, i_tn, i_add, i_addl, i_addr, i_mul, i_mulr, i_mull, if_true, if_false, eq_self, decide_eq_true_eq, decide_true, decide_false, Option.bind_some, Option.bind_none, ↓fu_ltd, ↓reduceIte, ↓ob_ite, ↓ob_asc, Bool.false_eq_true, Bool.true_eq_false, not_true_eq_false, not_false_eq_true, Nat.not_lt_zero, Nat.le_zero_eq, Nat.reduceAdd, Nat.reduceMul, Nat.reduceSub, Nat.reduceEqDiff, Nat.reduceLT, Nat.reduceLeDiff, sC_def, sR_def, sC_1, sC_2, sR_1, sR_2, sC_st, sR_st, sR_no, sR_refuse, and_self, true_and, and_true, false_and, and_false, l_X12_laysHands_32, hk, e1, i_add1]) (fun n => by
      show l_X12_laysHands_32 (n + 1) (wri s 126 7 (fun r => e_b (d_hl D q 6 r))) (Int32.ofNat 7) = _
      simp (maxSteps := 1000000) (disch := omega) only [ne_eq, i_lt0, i_le0, i_eq0, i_n1, i_ltl, i_lel, i_eql, i_lt, i_le, i_eq, i_in, i_tn, i_add, i_addl, i_addr, i_mul, i_mulr, i_mull, if_true, if_false, eq_self, decide_eq_true_eq, decide_true, decide_false, Option.bind_some, Option.bind_none, ↓fu_ltd, ↓reduceIte, ↓ob_ite, ↓ob_asc, Bool.false_eq_true, Bool.true_eq_false, not_true_eq_false, not_false_eq_true, Nat.not_lt_zero, Nat.le_zero_eq, Nat.reduceAdd, Nat.reduceMul, Nat.reduceSub, Nat.reduceEqDiff, Nat.reduceLT, Nat.reduceLeDiff, sC_def, sR_def, sC_1, sC_2, sR_1, sR_2, sC_st, sR_st, sR_no, sR_refuse, and_self, true_and, and_true, false_and, and_false, l_X12_laysHands_32, Nat.lt_irrefl]) (f := fu_N) (k := 1) (by omega) (by omega) (fu_N_gt (by omega))
  simp (maxSteps := 1000000) (disch := omega) only [ne_eq, i_lt0, i_le0, i_eq0, i_n1, i_ltl, i_lel, i_eql, i_lt, i_le, i_eq, i_in, i_tn, i_add, i_addl, i_addr, i_mul, i_mulr, i_mull, if_true, if_false, eq_self, decide_eq_true_eq, decide_true, decide_false, Option.bind_some, Option.bind_none, ↓fu_ltd, ↓reduceIte, ↓ob_ite, ↓ob_asc, Bool.false_eq_true, Bool.true_eq_false, not_true_eq_false, not_false_eq_true, Nat.not_lt_zero, Nat.le_zero_eq, Nat.reduceAdd, Nat.reduceMul, Nat.reduceSub, Nat.reduceEqDiff, Nat.reduceLT, Nat.reduceLeDiff, sC_def, sR_def, sC_1, sC_2, sR_1, sR_2, sC_st, sR_st, sR_no, sR_refuse, and_self, true_and, and_true, false_and, and_false, f_X12_laysHands, hL0, hL]
/-- what both have laid -/
theorem c_laid (h0 : dC s P D) (hv : dV D) (hP : P + 13 ≤ 115) (hq : q < 7) : ∃ u, f_X0_drawKinds s P = some u ∧ f_X0_measureTo u (Int32.ofNat q) = some (wri u 116 7 (fun r => e_b (d_hl D q 6 r))) ∧ u = wri s 115 7 (fun r => Int32.ofNat (d_kt D r)) := by
  refine ⟨_, c_drawK h0 hv hP, ?_, rfl⟩
  exact c_meas hv (fun r hr => wri_r hr) hq
end HN2
theorem hd_36 : lw_E_36 dI := by
  intro s1 s2 hI a1 a2
  obtain ⟨D, hv, hC, hR, -⟩ := dI_D hI
  have hp4 := hv.1
  have hr := fun x => dR_s (x := x) hv hR
  have ep := fun x y => r_isPerson (x := y) (hr x) hv
  by_cases h1 : ¬ a1 < 0 ∧ a1 < Int32.ofNat (D 0 4)
  · obtain ⟨p, hp, rfl⟩ := i_is (by omega) h1
    by_cases h2 : ¬ a2 < 0 ∧ a2 < Int32.ofNat (D 0 4)
    · obtain ⟨q, hq, rfl⟩ := i_is (by omega) h2
      have hq7 : q < 7 := by omega
      have hp7 : p < 7 := by omega
      obtain ⟨u, e1, e2, e3⟩ := c_laid (dC_s (x := 0) (by omega : (11 : Nat) ≠ 0) hC) hv (by omega) hq7
      have e4 := r_lay (hr 0) hv hq7
      have hle : d_hl D q 6 p ≤ 7 := d_hl_le p
      have x1 : (wri u 116 7 (fun r => e_b (d_hl D q 6 r))).1 116 p = e_b (d_hl D q 6 p) := wri_r hp7
      have x2 : (wri (sR s2 0) 126 7 (fun r => e_b (d_hl D q 6 r))).1 126 p = e_b (d_hl D q 6 p) := wri_r hp7
      have hc1 : eqC s1 (wri u 116 7 (fun r => e_b (d_hl D q 6 r))) := by
        rw [e3]
        exact eqC_tr eqC_sC (eqC_tr (eqC_w (by omega)) (eqC_w (by omega)))
      have hr1 : eqR s2 (wri (sR s2 0) 126 7 (fun r => e_b (d_hl D q 6 r))) := eqR_tr eqR_sR (eqR_w (by omega))
      have y2 : (wri (sR s2 0) 126 7 (fun r => e_b (d_hl D q 6 r))).1 117 0 = 0 := by rw [wri_n (by omega), sR_st]
      generalize wri u 116 7 (fun r => e_b (d_hl D q 6 r)) = U at *
      generalize wri (sR s2 0) 126 7 (fun r => e_b (d_hl D q 6 r)) = V at *
      have hn := e_b_neg (b := d_hl D q 6 p) (by omega)
      have hn1 := e_b_n1 (a := d_hl D q 6 p) (by omega)
      by_cases hz : d_hl D q 6 p = 0
      · have z1 := hn.mpr hz
        have z2 := hn1.mpr hz
        refine ⟨-1, fu_pi U 0 15 8, fu_pi V 117 0 8, ?_, ?_, dI_eq hI (eqC_tr hc1 eqC_st) (eqR_tr hr1 (eqR_st (by omega) (by omega) (by omega) (by omega) (by omega))) (p1.trans p1.symm)⟩
        · simp (maxSteps := 1000000) (disch := omega) only [ne_eq, i_lt0, i_le0, i_eq0, i_n1, i_ltl, i_lel, i_eql, i_lt, i_le, i_eq, i_in, i_tn, i_add, i_addl, i_addr, i_mul, i_mulr, i_mull, if_true, if_false, eq_self, decide_eq_true_eq, decide_true, decide_false, Option.bind_some, Option.bind_none, ↓fu_ltd, ↓reduceIte, ↓ob_ite, ↓ob_asc, Bool.false_eq_true, Bool.true_eq_false, not_true_eq_false, not_false_eq_true, Nat.not_lt_zero, Nat.le_zero_eq, Nat.reduceAdd, Nat.reduceMul, Nat.reduceSub, Nat.reduceEqDiff, Nat.reduceLT, Nat.reduceLeDiff, sC_def, sR_def, sC_1, sC_2, sR_1, sR_2, sC_st, sR_st, sR_no, sR_refuse, and_self, true_and, and_true, false_and, and_false, f_X11_hands, f_X11_coupleStatus, c_hasPerson hC, hp, hq, hp7, e1, e2, f_X0_stepsFrom, x1, z2]
          try rfl
        · simp (maxSteps := 1000000) (disch := omega) only [ne_eq, i_lt0, i_le0, i_eq0, i_n1, i_ltl, i_lel, i_eql, i_lt, i_le, i_eq, i_in, i_tn, i_add, i_addl, i_addr, i_mul, i_mulr, i_mull, if_true, if_false, eq_self, decide_eq_true_eq, decide_true, decide_false, Option.bind_some, Option.bind_none, ↓fu_ltd, ↓reduceIte, ↓ob_ite, ↓ob_asc, Bool.false_eq_true, Bool.true_eq_false, not_true_eq_false, not_false_eq_true, Nat.not_lt_zero, Nat.le_zero_eq, Nat.reduceAdd, Nat.reduceMul, Nat.reduceSub, Nat.reduceEqDiff, Nat.reduceLT, Nat.reduceLeDiff, sC_def, sR_def, sC_1, sC_2, sR_1, sR_2, sC_st, sR_st, sR_no, sR_refuse, and_self, true_and, and_true, false_and, and_false, f_X12_hands, ep, hp, hq, hp7, e4, x2, z1, f_X12_refuse]
          try rfl
      · have z1 : ¬ _ := fun z => hz (hn.mp z)
        have z2 : ¬ _ := fun z => hz (hn1.mp z)
        refine ⟨e_b (d_hl D q 6 p), fu_pi U 0 15 0, V, ?_, ?_, dI_eq hI (eqC_tr hc1 eqC_st) hr1 (p1.trans y2.symm)⟩
        · simp (maxSteps := 1000000) (disch := omega) only [ne_eq, i_lt0, i_le0, i_eq0, i_n1, i_ltl, i_lel, i_eql, i_lt, i_le, i_eq, i_in, i_tn, i_add, i_addl, i_addr, i_mul, i_mulr, i_mull, if_true, if_false, eq_self, decide_eq_true_eq, decide_true, decide_false, Option.bind_some, Option.bind_none, ↓fu_ltd, ↓reduceIte, ↓ob_ite, ↓ob_asc, Bool.false_eq_true, Bool.true_eq_false, not_true_eq_false, not_false_eq_true, Nat.not_lt_zero, Nat.le_zero_eq, Nat.reduceAdd, Nat.reduceMul, Nat.reduceSub, Nat.reduceEqDiff, Nat.reduceLT, Nat.reduceLeDiff, sC_def, sR_def, sC_1, sC_2, sR_1, sR_2, sC_st, sR_st, sR_no, sR_refuse, and_self, true_and, and_true, false_and, and_false, f_X11_hands, f_X11_coupleStatus, c_hasPerson hC, hp, hq, hp7, e1, e2, f_X0_stepsFrom, x1, z2]
          try rfl
        · simp (maxSteps := 1000000) (disch := omega) only [ne_eq, i_lt0, i_le0, i_eq0, i_n1, i_ltl, i_lel, i_eql, i_lt, i_le, i_eq, i_in, i_tn, i_add, i_addl, i_addr, i_mul, i_mulr, i_mull, if_true, if_false, eq_self, decide_eq_true_eq, decide_true, decide_false, Option.bind_some, Option.bind_none, ↓fu_ltd, ↓reduceIte, ↓ob_ite, ↓ob_asc, Bool.false_eq_true, Bool.true_eq_false, not_true_eq_false, not_false_eq_true, Nat.not_lt_zero, Nat.le_zero_eq, Nat.reduceAdd, Nat.reduceMul, Nat.reduceSub, Nat.reduceEqDiff, Nat.reduceLT, Nat.reduceLeDiff, sC_def, sR_def, sC_1, sC_2, sR_1, sR_2, sC_st, sR_st, sR_no, sR_refuse, and_self, true_and, and_true, false_and, and_false, f_X12_hands, ep, hp, hq, hp7, e4, x2, z1]
          try rfl
    · refine ⟨-1, sC s1 2, sR s2 2, ?_, ?_, dI_s hI⟩
      · simp (maxSteps := 1000000) (disch := omega) only [ne_eq, i_lt0, i_le0, i_eq0, i_n1, i_ltl, i_lel, i_eql, i_lt, i_le, i_eq, i_in, i_tn, i_add, i_addl, i_addr, i_mul, i_mulr, i_mull, if_true, if_false, eq_self, decide_eq_true_eq, decide_true, decide_false, Option.bind_some, Option.bind_none, ↓fu_ltd, ↓reduceIte, ↓ob_ite, ↓ob_asc, Bool.false_eq_true, Bool.true_eq_false, not_true_eq_false, not_false_eq_true, Nat.not_lt_zero, Nat.le_zero_eq, Nat.reduceAdd, Nat.reduceMul, Nat.reduceSub, Nat.reduceEqDiff, Nat.reduceLT, Nat.reduceLeDiff, sC_def, sR_def, sC_1, sC_2, sR_1, sR_2, sC_st, sR_st, sR_no, sR_refuse, and_self, true_and, and_true, false_and, and_false, f_X11_hands, f_X11_coupleStatus, c_hasPerson hC, hp, h2]
        try rfl
      · simp (maxSteps := 1000000) (disch := omega) only [ne_eq, i_lt0, i_le0, i_eq0, i_n1, i_ltl, i_lel, i_eql, i_lt, i_le, i_eq, i_in, i_tn, i_add, i_addl, i_addr, i_mul, i_mulr, i_mull, if_true, if_false, eq_self, decide_eq_true_eq, decide_true, decide_false, Option.bind_some, Option.bind_none, ↓fu_ltd, ↓reduceIte, ↓ob_ite, ↓ob_asc, Bool.false_eq_true, Bool.true_eq_false, not_true_eq_false, not_false_eq_true, Nat.not_lt_zero, Nat.le_zero_eq, Nat.reduceAdd, Nat.reduceMul, Nat.reduceSub, Nat.reduceEqDiff, Nat.reduceLT, Nat.reduceLeDiff, sC_def, sR_def, sC_1, sC_2, sR_1, sR_2, sC_st, sR_st, sR_no, sR_refuse, and_self, true_and, and_true, false_and, and_false, f_X12_hands, ep, hp, h2]
  · refine ⟨-1, sC s1 2, sR s2 2, ?_, ?_, dI_s hI⟩
    · simp (maxSteps := 1000000) (disch := omega) only [ne_eq, i_lt0, i_le0, i_eq0, i_n1, i_ltl, i_lel, i_eql, i_lt, i_le, i_eq, i_in, i_tn, i_add, i_addl, i_addr, i_mul, i_mulr, i_mull, if_true, if_false, eq_self, decide_eq_true_eq, decide_true, decide_false, Option.bind_some, Option.bind_none, ↓fu_ltd, ↓reduceIte, ↓ob_ite, ↓ob_asc, Bool.false_eq_true, Bool.true_eq_false, not_true_eq_false, not_false_eq_true, Nat.not_lt_zero, Nat.le_zero_eq, Nat.reduceAdd, Nat.reduceMul, Nat.reduceSub, Nat.reduceEqDiff, Nat.reduceLT, Nat.reduceLeDiff, sC_def, sR_def, sC_1, sC_2, sR_1, sR_2, sC_st, sR_st, sR_no, sR_refuse, and_self, true_and, and_true, false_and, and_false, f_X11_hands, f_X11_coupleStatus, c_hasPerson hC, h1]
      try rfl
    · simp (maxSteps := 1000000) (disch := omega) only [ne_eq, i_lt0, i_le0, i_eq0, i_n1, i_ltl, i_lel, i_eql, i_lt, i_le, i_eq, i_in, i_tn, i_add, i_addl, i_addr, i_mul, i_mulr, i_mull, if_true, if_false, eq_self, decide_eq_true_eq, decide_true, decide_false, Option.bind_some, Option.bind_none, ↓fu_ltd, ↓reduceIte, ↓ob_ite, ↓ob_asc, Bool.false_eq_true, Bool.true_eq_false, not_true_eq_false, not_false_eq_true, Nat.not_lt_zero, Nat.le_zero_eq, Nat.reduceAdd, Nat.reduceMul, Nat.reduceSub, Nat.reduceEqDiff, Nat.reduceLT, Nat.reduceLeDiff, sC_def, sR_def, sC_1, sC_2, sR_1, sR_2, sC_st, sR_st, sR_no, sR_refuse, and_self, true_and, and_true, false_and, and_false, f_X12_hands, ep, h1]
