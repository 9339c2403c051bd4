/-! mean -/
def mG1 (s t : fu_S) : Prop := ∀ a, ¬ (29 ≤ a ∧ a < 42) → a ≠ 108 → a ≠ 109 → t.1 a = s.1 a ∧ t.2 a = s.2 a
def mG2 (s t : fu_S) : Prop := t.2 = s.2 ∧ (∀ a, a ≠ 117 → t.1 a = s.1 a) ∧ ∀ q, ¬ (32 ≤ q ∧ q < 40) → t.1 117 q = s.1 117 q
section MEA
variable {s b1 b2 u1 u2 t : fu_S} {k w x n : Nat} {D : dD}
theorem mG1_tr {s t u : fu_S} (h : mG1 s t) (g : mG1 t u) : mG1 s u := fun a h1 h2 h3 => ⟨(g a h1 h2 h3).1.trans (h a h1 h2 h3).1, (g a h1 h2 h3).2.trans (h a h1 h2 h3).2⟩
theorem mG2_tr {s t u : fu_S} (h : mG2 s t) (g : mG2 t u) : mG2 s u := ⟨g.1.trans h.1, fun a ha => (g.2.1 a ha).trans (h.2.1 a ha), fun q hq => (g.2.2 q hq).trans (h.2.2 q hq)⟩
theorem r_mean62 {y z : Int32} : l_X12_mean_62 fu_N s y z 0 = some (wri s 123 83 (fun r => s.1 122 r)) := by
  have := lp_up (l := fun f σ k => l_X12_mean_62 f σ y z (Int32.ofNat k)) (N := 83) (S := fun k => wri s 123 k (fun r => s.1 122 r)) (r := wri s 123 83 (fun r => s.1 122 r)) (fun n k hk => by
    have m1 : k < 1775 := by omega
    have e1 : (wri s 123 k (fun r => s.1 122 r)).1 122 k = s.1 122 k := by rw [wri_n (by omega)]
    have e2 : fu_pi (wri s 123 k (fun r => s.1 122 r)) 123 k (s.1 122 k) = wri s 123 (k + 1) (fun r => s.1 122 r) := wri_s (f := fun r => s.1 122 r)
    show l_X12_mean_62 (n + 1) (wri s 123 k (fun r => s.1 122 r)) y z (Int32.ofNat k) = l_X12_mean_62 n (wri s 123 (k + 1) (fun r => s.1 122 r)) y z (Int32.ofNat (k + 1))
    generalize wri s 123 (k + 1) (fun r => s.1 122 r) = V at *
    generalize wri s 123 k (fun r => s.1 122 r) = U at *
    simp (maxSteps := 1000000) (disch := omega) only [ne_eq, i_lt0, i_le0, i_eq0, i_n1, i_ltl, i_lel, i_eql, i_lt, i_le, i_eq, i_in, i_tn, i_add, i_addl, i_addr, i_mul, i_mulr, i_mull, if_true, if_false, eq_self, decide_eq_true_eq, decide_true, decide_false, Option.bind_some, Option.bind_none, ↓fu_ltd, ↓reduceIte, ↓ob_ite, ↓ob_asc, Bool.false_eq_true, Bool.true_eq_false, not_true_eq_false, not_false_eq_true, Nat.not_lt_zero, Nat.le_zero_eq, Nat.reduceAdd, Nat.reduceMul, Nat.reduceSub, Nat.reduceEqDiff, Nat.reduceLT, Nat.reduceLeDiff, sC_def, sR_def, sC_1, sC_2, sR_1, sR_2, sC_st, sR_st, sR_no, sR_refuse, and_self, true_and, and_true, false_and, and_false, l_X12_mean_62, hk, m1, e1, e2, i_add1]) (fun n => by
    show l_X12_mean_62 (n + 1) (wri s 123 83 (fun r => s.1 122 r)) y z (Int32.ofNat 83) = _
    generalize wri s 123 83 (fun r => s.1 122 r) = U at *
    simp (maxSteps := 1000000) (disch := omega) only [ne_eq, i_lt0, i_le0, i_eq0, i_n1, i_ltl, i_lel, i_eql, i_lt, i_le, i_eq, i_in, i_tn, i_add, i_addl, i_addr, i_mul, i_mulr, i_mull, if_true, if_false, eq_self, decide_eq_true_eq, decide_true, decide_false, Option.bind_some, Option.bind_none, ↓fu_ltd, ↓reduceIte, ↓ob_ite, ↓ob_asc, Bool.false_eq_true, Bool.true_eq_false, not_true_eq_false, not_false_eq_true, Nat.not_lt_zero, Nat.le_zero_eq, Nat.reduceAdd, Nat.reduceMul, Nat.reduceSub, Nat.reduceEqDiff, Nat.reduceLT, Nat.reduceLeDiff, sC_def, sR_def, sC_1, sC_2, sR_1, sR_2, sC_st, sR_st, sR_no, sR_refuse, and_self, true_and, and_true, false_and, and_false, l_X12_mean_62, Nat.lt_irrefl]) (f := fu_N) (k := 0) (by omega) (fu_N_gt (by omega))
  rw [wri_0] at this
  exact this
theorem r_mean120 {y z x5 : Int32} {x3 : Int64} : l_X12_mean_120 fu_N s y z x3 x5 0 = some (wri s 122 83 (fun r => s.1 123 r)) := by
  have := lp_up (l := fun f σ k => l_X12_mean_120 f σ y z x3 x5 (Int32.ofNat k)) (N := 83) (S := fun k => wri s 122 k (fun r => s.1 123 r)) (r := wri s 122 83 (fun r => s.1 123 r)) (fun n k hk => by
    have m1 : k < 1775 := by omega
    have e1 : (wri s 122 k (fun r => s.1 123 r)).1 123 k = s.1 123 k := by rw [wri_n (by omega)]
    have e2 : fu_pi (wri s 122 k (fun r => s.1 123 r)) 122 k (s.1 123 k) = wri s 122 (k + 1) (fun r => s.1 123 r) := wri_s (f := fun r => s.1 123 r)
    show l_X12_mean_120 (n + 1) (wri s 122 k (fun r => s.1 123 r)) y z x3 x5 (Int32.ofNat k) = l_X12_mean_120 n (wri s 122 (k + 1) (fun r => s.1 123 r)) y z x3 x5 (Int32.ofNat (k + 1))
    generalize wri s 122 (k + 1) (fun r => s.1 123 r) = V at *
    generalize wri s 122 k (fun r => s.1 123 r) = U at *
    simp (maxSteps := 1000000) (disch := omega) only [ne_eq, i_lt0, i_le0, i_eq0, i_n1, i_ltl, i_lel, i_eql, i_lt, i_le, i_eq, i_in, i_tn, i_add, i_addl, i_addr, i_mul, i_mulr, i_mull, if_true, if_false, eq_self, decide_eq_true_eq, decide_true, decide_false, Option.bind_some, Option.bind_none, ↓fu_ltd, ↓reduceIte, ↓ob_ite, ↓ob_asc, Bool.false_eq_true, Bool.true_eq_false, not_true_eq_false, not_false_eq_true, Nat.not_lt_zero, Nat.le_zero_eq, Nat.reduceAdd, Nat.reduceMul, Nat.reduceSub, Nat.reduceEqDiff, Nat.reduceLT, Nat.reduceLeDiff, sC_def, sR_def, sC_1, sC_2, sR_1, sR_2, sC_st, sR_st, sR_no, sR_refuse, and_self, true_and, and_true, false_and, and_false, l_X12_mean_120, hk, m1, e1, e2, i_add1]) (fun n => by
    show l_X12_mean_120 (n + 1) (wri s 122 83 (fun r => s.1 123 r)) y z x3 x5 (Int32.ofNat 83) = _
    generalize wri s 122 83 (fun r => s.1 123 r) = U at *
    simp (maxSteps := 1000000) (disch := omega) only [ne_eq, i_lt0, i_le0, i_eq0, i_n1, i_ltl, i_lel, i_eql, i_lt, i_le, i_eq, i_in, i_tn, i_add, i_addl, i_addr, i_mul, i_mulr, i_mull, if_true, if_false, eq_self, decide_eq_true_eq, decide_true, decide_false, Option.bind_some, Option.bind_none, ↓fu_ltd, ↓reduceIte, ↓ob_ite, ↓ob_asc, Bool.false_eq_true, Bool.true_eq_false, not_true_eq_false, not_false_eq_true, Nat.not_lt_zero, Nat.le_zero_eq, Nat.reduceAdd, Nat.reduceMul, Nat.reduceSub, Nat.reduceEqDiff, Nat.reduceLT, Nat.reduceLeDiff, sC_def, sR_def, sC_1, sC_2, sR_1, sR_2, sC_st, sR_st, sR_no, sR_refuse, and_self, true_and, and_true, false_and, and_false, l_X12_mean_120, Nat.lt_irrefl]) (f := fu_N) (k := 0) (by omega) (fu_N_gt (by omega))
  rw [wri_0] at this
  exact this
/-- a round of mean -/
theorem L_mean1 (hv : dV D) (hC : dC b1 11 D) (hR : dR b2 0 D) (hQ : dQ b1 24 b2 0 D) (h123 : ∀ i, i < 83 → b2.1 123 i = b2.1 122 i) (h1 : mG1 b1 u1) (h2 : mG2 b2 u2) (hx : x < 65536) {y z x5 : Int32} {x3 : Int64} : ∃ t1 t2 v1 v2 A, f_X3_run (f_X4_copyFrom u1 29 11) 108 24 29 (Int32.ofNat x) = some t1 ∧ f_X12_runsDays u2 (Int32.ofNat x) = some t2 ∧ f_X4_foundSet t1 29 = some (Int32.ofNat A) ∧ A < 1024 ∧ f_X12_things t2 2 = some (Int32.ofNat A) ∧ v1 = t1 ∧ l_X12_mean_120 fu_N t2 y z x3 x5 0 = some v2 ∧ mG1 b1 v1 ∧ mG2 b2 v2 := by
  have hp4 := hv.1
  have e0 : ∀ a, a ≠ 117 → u2.1 a = b2.1 a := h2.2.1
  have hC1 : dC u1 11 D := dC_congr (fun k hk => h1 _ (by omega) (by omega) (by omega)) hC
  have hR1 : dR u2 0 D := dR_congr hv (fun i _ _ => by rw [e0 122 (by omega)]) (fun i _ _ => by rw [h2.1]) hR
  have hCc := c_cpC (s := u1) (P := 29) (Q := 11) (by omega) hv hC1
  have fc := c_cpF (s := u1) (P := 29) (Q := 11)
  have hQ1 : dQ (f_X4_copyFrom u1 29 11) 24 u2 0 D := dQ_congr (fun k hk => by rw [(fc _ (by omega)).1, (h1 _ (by omega) (by omega) (by omega)).1]) (fun i _ _ => by rw [e0 122 (by omega)]) hQ
  obtain ⟨t1, t2, D', n, ov, e1, e2, e3, e4, e5, e6⟩ := L_run (Q := 108) (P := 29) (PL := 24) (by omega) (by omega) hv hCc hR1 hQ1 hx
  obtain ⟨hv', hC', hR', he, -⟩ := id e3
  refine ⟨t1, t2, t1, _, d_set (fun t => d_isF D' t) (D' 0 5), e1, e2, c_fndSet hC' hv', d_set_bd _ (by have := hv'.1; omega), r_things2 hR' hv', rfl, r_mean120, fun a x1 x2 x3 => ?_, ?_, fun a ha => ?_, fun q hq => ?_⟩
  · have w1 := e4 a x1 x2 x3
    have w2 := fc a x1
    have w3 := h1 a x1 x2 x3
    exact ⟨w1.1.trans (w2.1.trans w3.1), w1.2.trans (w2.2.trans w3.2)⟩
  · rw [wri_2, e6.1, h2.1]
  · by_cases h : a = 122
    · subst h
      funext i
      by_cases hi : i < 83
      · rw [wri_r hi, e6.2.1 123 (by omega) (by omega), e0 123 (by omega), h123 i hi]
      · show (if 122 = 122 ∧ i < 83 then _ else t2.1 122 i) = _
        rw [if_neg (fun z => hi z.2), e6.2.2.2 i (by omega), e0 122 (by omega)]
    · rw [wri_n h, e6.2.1 a ha h, e0 a ha]
  · rw [wri_n (by omega), e6.2.2.1 q hq, h2.2.2 q hq]
theorem L_mean (hv : dV D) (hC : dC b1 11 D) (hR : dR b2 0 D) (hQ : dQ b1 24 b2 0 D) (h123 : ∀ i, i < 83 → b2.1 123 i = b2.1 122 i) (hx : x + w ≤ 20000) (hw : w ≤ 20) : ∀ {r k y f g : Nat} {u1 u2 : fu_S}, k + r = w → r < f → r < g → mG1 b1 u1 → mG2 b2 u2 → y ≤ 10 * k → ∃ y' v1 v2, y' ≤ 10 * w ∧ l_X11_mean_62 f u1 (Int32.ofNat x) (Int32.ofNat w) (Int64.ofNat y) (Int32.ofNat k) = some (Int64.ofNat y', v1) ∧ l_X12_mean_91 g u2 (Int32.ofNat x) (Int32.ofNat w) (Int64.ofNat y) (Int32.ofNat k) = some (Int64.ofNat y', v2) ∧ mG1 b1 v1 ∧ mG2 b2 v2 := by
  intro r
  induction r with
  | zero =>
    intro k y f g u1 u2 hk hf hg h1 h2 hy
    obtain ⟨f, rfl⟩ : ∃ f', f = f' + 1 := ⟨f - 1, by omega⟩
    obtain ⟨g, rfl⟩ : ∃ g', g = g' + 1 := ⟨g - 1, by omega⟩
    have hkw : k = w := by omega
    subst hkw
    refine ⟨y, u1, u2, hy, ?_, ?_, h1, h2⟩
    · rw [l_X11_mean_62]; exact if_neg (fun z => Int32.lt_irrefl z)
    · rw [l_X12_mean_91]; exact if_neg (fun z => Int32.lt_irrefl z)
  | succ r ih =>
    intro k y f g u1 u2 hk hf hg h1 h2 hy
    obtain ⟨f, rfl⟩ : ∃ f', f = f' + 1 := ⟨f - 1, by omega⟩
    obtain ⟨g, rfl⟩ : ∃ g', g = g' + 1 := ⟨g - 1, by omega⟩
    have hkw : k < w := by omega
    have hp : ∀ A, d_pop A ≤ 10 := fun A => d_pop_le
    obtain ⟨t1, t2, v1, v2, A, e1, e2, e3, e4, e5, -, -, -, -⟩ := L_mean1 hv hC hR hQ h123 h1 h2 (x := x + k) (by omega) (y := 0) (z := 0) (x5 := 0) (x3 := 0)
    obtain ⟨t1', t2', v1', v2', A', e1', e2', e3', e4', e5', e6', e7', e8', e9'⟩ := L_mean1 hv hC hR hQ h123 h1 h2 (x := x + k) (by omega) (y := Int32.ofNat x) (z := Int32.ofNat w) (x5 := Int32.ofNat k) (x3 := Int64.ofNat (y + d_pop A))
    have q1 : t1' = t1 := by rw [e1] at e1'; exact (Option.some.inj e1').symm
    have q2 : t2' = t2 := by rw [e2] at e2'; exact (Option.some.inj e2').symm
    subst q1 q2 e6'
    have b1 := c_bits e4
    have b2 := r_sizeOf (a := A) (by omega)
    have hpA := hp A
    have j1 : Int32.toInt64 (Int32.ofNat (d_pop A)) = Int64.ofNat (d_pop A) := j_of (by omega)
    obtain ⟨y', z1, z2, z3, z4, z5, z6, z7⟩ := ih (k := k + 1) (y := y + d_pop A) (f := f) (g := g) (by omega) (by omega) (by omega) e8' e9' (by omega)
    refine ⟨y', z1, z2, z3, ?_, ?_, z6, z7⟩
    · rw [← z4]
      generalize d_pop A = B at *
      simp (maxSteps := 1000000) (disch := omega) only [ne_eq, i_lt0, i_le0, i_eq0, i_n1, i_ltl, i_lel, i_eql, i_lt, i_le, i_eq, i_in, i_tn, i_add, i_addl, i_addr, i_mul, i_mulr, i_mull, if_true, if_false, eq_self, decide_eq_true_eq, decide_true, decide_false, Option.bind_some, Option.bind_none, ↓fu_ltd, ↓reduceIte, ↓ob_ite, ↓ob_asc, Bool.false_eq_true, Bool.true_eq_false, not_true_eq_false, not_false_eq_true, Nat.not_lt_zero, Nat.le_zero_eq, Nat.reduceAdd, Nat.reduceMul, Nat.reduceSub, Nat.reduceEqDiff, Nat.reduceLT, Nat.reduceLeDiff, sC_def, sR_def, sC_1, sC_2, sR_1, sR_2, sC_st, sR_st, sR_no, sR_refuse, and_self, true_and, and_true, false_and, and_false, l_X11_mean_62, hkw, e1, e3, b1, j1, j_add, i_add1]
    · rw [← z5]
      generalize d_pop A = B at *
      simp (maxSteps := 1000000) (disch := omega) only [ne_eq, i_lt0, i_le0, i_eq0, i_n1, i_ltl, i_lel, i_eql, i_lt, i_le, i_eq, i_in, i_tn, i_add, i_addl, i_addr, i_mul, i_mulr, i_mull, if_true, if_false, eq_self, decide_eq_true_eq, decide_true, decide_false, Option.bind_some, Option.bind_none, ↓fu_ltd, ↓reduceIte, ↓ob_ite, ↓ob_asc, Bool.false_eq_true, Bool.true_eq_false, not_true_eq_false, not_false_eq_true, Nat.not_lt_zero, Nat.le_zero_eq, Nat.reduceAdd, Nat.reduceMul, Nat.reduceSub, Nat.reduceEqDiff, Nat.reduceLT, Nat.reduceLeDiff, sC_def, sR_def, sC_1, sC_2, sR_1, sR_2, sC_st, sR_st, sR_no, sR_refuse, and_self, true_and, and_true, false_and, and_false, l_X12_mean_91, hkw, e2, e5, b2, j1, j_add, e7', i_add1]
end MEA
theorem r_isIn1_20 {x : Int32} : f_X12_isIn (Int32.toInt64 x) (1 : Int64) (20 : Int64) = decide (¬ x < 1 ∧ x ≤ 20) := r_isIn1 (n := 20) (by omega)
theorem hd_46 : lw_E_46 dI := by
  intro s1 s2 hI a1 a2
  have hI0 := dI_s (x := 0) hI
  obtain ⟨-, -, hT, hP, hW, hL, ⟨D, hv, hC, hR, hQ⟩, m, m1, m2, m3, m4⟩ := id hI0
  have hp4 := hv.1
  obtain ⟨-, -, -, -, -, -, -, q4, -⟩ := id hQ
  have fail : ∀ x : Int32, f_X11_mean s1 a1 a2 = some (false, sC s1 x) → f_X12_mean s2 a1 a2 = some (false, sR s2 x) → ∃ (r : Bool) (t1 t2 : fu_S), (f_X11_mean s1 a1 a2 = some (r, t1)) ∧ (f_X12_mean s2 a1 a2 = some (r, t2)) ∧ dI t1 t2 := fun x h1 h2 => ⟨false, sC s1 x, sR s2 x, h1, h2, dI_s hI⟩
  by_cases h2 : ¬ a2 < 1 ∧ a2 ≤ 20
  · obtain ⟨w, hw1, hw2, rfl⟩ := i_in1 (n := 20) (by omega) h2
    have k1 : ¬ w < 1 := by omega
    have e10 : (10000 : Int32) - Int32.ofNat w = Int32.ofNat (10000 - w) := i_sub (a := 10000) (by omega)
    have ein := r_isInN (x := a1) (n := 10000 - w) (by omega)
    rw [← j_of (by omega)] at ein
    by_cases h1 : ¬ a1 < 0 ∧ a1 ≤ Int32.ofNat (10000 - w)
    · obtain ⟨x, hx, rfl⟩ := i_upto (by omega) h1
      have y24 : (sC s1 0).1 24 6 = s1.1 24 6 := by rw [sC_1 (by omega)]
      have y83 : (sR s2 0).1 122 83 = s2.1 122 83 := by rw [sR_1 (by omega)]
      have q4' : fu_tb (s1.1 24 6) = decide (s2.1 122 83 ≠ 0) := by rw [← y24, ← y83]; exact q4
      rw [decide_eq_true h1] at ein
      by_cases hz : s2.1 122 83 = 0
      · have q5 : fu_tb (s1.1 24 6) = false := by rw [q4', hz]; decide
        refine fail 8 ?_ ?_
        · simp (maxSteps := 1000000) (disch := omega) only [ne_eq, i_lt0, i_le0, i_eq0, i_n1, i_ltl, i_lel, i_eql, i_lt, i_le, i_eq, i_in, i_tn, i_add, i_addl, i_addr, i_mul, i_mulr, i_mull, if_true, if_false, eq_self, decide_eq_true_eq, decide_true, decide_false, Option.bind_some, Option.bind_none, ↓fu_ltd, ↓reduceIte, ↓ob_ite, ↓ob_asc, Bool.false_eq_true, Bool.true_eq_false, not_true_eq_false, not_false_eq_true, Nat.not_lt_zero, Nat.le_zero_eq, Nat.reduceAdd, Nat.reduceMul, Nat.reduceSub, Nat.reduceEqDiff, Nat.reduceLT, Nat.reduceLeDiff, sC_def, sR_def, sC_1, sC_2, sR_1, sR_2, sC_st, sR_st, sR_no, sR_refuse, and_self, true_and, and_true, false_and, and_false, f_X11_mean, f_X5_isThere, k1, hw2, e10, hx, q5]
          try rfl
        · simp (maxSteps := 1000000) (disch := omega) only [ne_eq, i_lt0, i_le0, i_eq0, i_n1, i_ltl, i_lel, i_eql, i_lt, i_le, i_eq, i_in, i_tn, i_add, i_addl, i_addr, i_mul, i_mulr, i_mull, if_true, if_false, eq_self, decide_eq_true_eq, decide_true, decide_false, Option.bind_some, Option.bind_none, ↓fu_ltd, ↓reduceIte, ↓ob_ite, ↓ob_asc, Bool.false_eq_true, Bool.true_eq_false, not_true_eq_false, not_false_eq_true, Nat.not_lt_zero, Nat.le_zero_eq, Nat.reduceAdd, Nat.reduceMul, Nat.reduceSub, Nat.reduceEqDiff, Nat.reduceLT, Nat.reduceLeDiff, sC_def, sR_def, sC_1, sC_2, sR_1, sR_2, sC_st, sR_st, sR_no, sR_refuse, and_self, true_and, and_true, false_and, and_false, f_X12_mean, r_isIn1_20, k1, hw2, e10, ein, y83, hz]
      · have q5 : fu_tb (s1.1 24 6) = true := by rw [q4', decide_eq_true hz]
        obtain ⟨B2, hB2⟩ : ∃ B2, B2 = wri (sR s2 0) 123 83 (fun r => (sR s2 0).1 122 r) := ⟨_, rfl⟩
        have f1 := r_mean62 (s := sR s2 0) (y := Int32.ofNat x) (z := Int32.ofNat w)
        rw [← hB2] at f1
        have hb : ∀ a, a ≠ 123 → B2.1 a = (sR s2 0).1 a := fun a h => by rw [hB2, wri_n h]
        have hb2 : B2.2 = (sR s2 0).2 := by rw [hB2]; rfl
        have hRb : dR B2 0 D := dR_congr hv (fun i _ _ => by rw [hb 122 (by omega)]) (fun i _ _ => by rw [hb2]) hR
        have hQb : dQ (sC s1 0) 24 B2 0 D := dQ_congr (fun _ _ => rfl) (fun i _ _ => by rw [hb 122 (by omega)]) hQ
        obtain ⟨y', v1, v2, z3, z4, z5, z6, z7⟩ := L_mean (b1 := sC s1 0) (b2 := B2) (x := x) (w := w) hv hC hRb hQb (fun i hi => by rw [hb 122 (by omega), hB2, wri_r hi]) (by omega) hw2 (r := w) (k := 0) (y := 0) (f := fu_N) (g := fu_N) (u1 := sC s1 0) (u2 := B2) (by omega) (fu_N_gt (by omega)) (fu_N_gt (by omega)) (fun a _ _ _ => ⟨rfl, rfl⟩) ⟨rfl, fun _ _ => rfl, fun _ _ => rfl⟩ (by omega)
        have z4' : l_X11_mean_62 fu_N (sC s1 0) (Int32.ofNat x) (Int32.ofNat w) 0 0 = some (Int64.ofNat y', v1) := z4
        have z5' : l_X12_mean_91 fu_N B2 (Int32.ofNat x) (Int32.ofNat w) 0 0 = some (Int64.ofNat y', v2) := z5
        have hc1 : eqC (sC s1 0) v1 := ⟨by rw [(z6 0 (by omega) (by omega) (by omega)).1], (z6 0 (by omega) (by omega) (by omega)).2, by rw [(z6 5 (by omega) (by omega) (by omega)).1], by rw [(z6 5 (by omega) (by omega) (by omega)).1], ⟨by rw [(z6 5 (by omega) (by omega) (by omega)).1], fun i _ => by rw [(z6 113 (by omega) (by omega) (by omega)).1]⟩, fun a ha => z6 a (by omega) (by omega) (by omega)⟩
        have hr1 : eqR (sR s2 0) v2 := by
          have k2 : v2.2 = (sR s2 0).2 := z7.1.trans hb2
          have k3 : ∀ a, a ≠ 117 → a ≠ 123 → v2.1 a = (sR s2 0).1 a := fun a h h' => (z7.2.1 a h).trans (hb a h')
          have k4 : ∀ q, ¬ (32 ≤ q ∧ q < 40) → v2.1 117 q = (sR s2 0).1 117 q := fun q hq => (z7.2.2 q hq).trans (by rw [hb 117 (by omega)])
          exact ⟨by rw [k2], by rw [k2], k4 8 (by omega), k4 10 (by omega), k4 11 (by omega), k4 23 (by omega), k4 31 (by omega), fun a ha => ⟨k3 a (by omega) (by omega), by rw [k2]⟩, fun i _ => by rw [k3 122 (by omega) (by omega)], fun i _ => by rw [k2]⟩
        have hst : v1.1 0 15 = v2.1 117 0 := by
          rw [(z6 0 (by omega) (by omega) (by omega)).1, z7.2.2 0 (by omega), hb 117 (by omega), sC_st, sR_st]
        have hI1 := dI_eq hI0 hc1 hr1 hst
        have e7 := c_tell (s := v1) (t := y') (b := w) (by omega) (by omega) (by omega)
        have e9 := r_fraction (s := v2) (t := y') (b := w) (by omega) (by omega) (by omega)
        have jw : Int32.toInt64 (Int32.ofNat w) = Int64.ofNat w := j_of (by omega)
        have e20 := r_isIn1_20 (x := Int32.ofNat w)
        rw [decide_eq_true h2, jw] at e20
        refine ⟨true, _, _, ?_, ?_, dI_tell (x := Int64.ofNat (y' / Nat.gcd y' w)) (y := Int64.ofNat (w / Nat.gcd y' w)) hI1⟩
        · simp (maxSteps := 1000000) (disch := omega) only [ne_eq, i_lt0, i_le0, i_eq0, i_n1, i_ltl, i_lel, i_eql, i_lt, i_le, i_eq, i_in, i_tn, i_add, i_addl, i_addr, i_mul, i_mulr, i_mull, if_true, if_false, eq_self, decide_eq_true_eq, decide_true, decide_false, Option.bind_some, Option.bind_none, ↓fu_ltd, ↓reduceIte, ↓ob_ite, ↓ob_asc, Bool.false_eq_true, Bool.true_eq_false, not_true_eq_false, not_false_eq_true, Nat.not_lt_zero, Nat.le_zero_eq, Nat.reduceAdd, Nat.reduceMul, Nat.reduceSub, Nat.reduceEqDiff, Nat.reduceLT, Nat.reduceLeDiff, sC_def, sR_def, sC_1, sC_2, sR_1, sR_2, sC_st, sR_st, sR_no, sR_refuse, and_self, true_and, and_true, false_and, and_false, f_X11_mean, f_X5_isThere, k1, hw2, e10, hx, q5, z4', jw, e7]
        · simp (maxSteps := 1000000) (disch := omega) only [ne_eq, i_lt0, i_le0, i_eq0, i_n1, i_ltl, i_lel, i_eql, i_lt, i_le, i_eq, i_in, i_tn, i_add, i_addl, i_addr, i_mul, i_mulr, i_mull, if_true, if_false, eq_self, decide_eq_true_eq, decide_true, decide_false, Option.bind_some, Option.bind_none, ↓fu_ltd, ↓reduceIte, ↓ob_ite, ↓ob_asc, Bool.false_eq_true, Bool.true_eq_false, not_true_eq_false, not_false_eq_true, Nat.not_lt_zero, Nat.le_zero_eq, Nat.reduceAdd, Nat.reduceMul, Nat.reduceSub, Nat.reduceEqDiff, Nat.reduceLT, Nat.reduceLeDiff, sC_def, sR_def, sC_1, sC_2, sR_1, sR_2, sC_st, sR_st, sR_no, sR_refuse, and_self, true_and, and_true, false_and, and_false, f_X12_mean, e20, k1, hw2, e10, ein, y83, hz, f1, z5', jw, e9]
    · rw [decide_eq_false h1] at ein
      refine fail 5 ?_ ?_
      · by_cases h5 : a1 < 0
        · simp (maxSteps := 1000000) (disch := omega) only [ne_eq, i_lt0, i_le0, i_eq0, i_n1, i_ltl, i_lel, i_eql, i_lt, i_le, i_eq, i_in, i_tn, i_add, i_addl, i_addr, i_mul, i_mulr, i_mull, if_true, if_false, eq_self, decide_eq_true_eq, decide_true, decide_false, Option.bind_some, Option.bind_none, ↓fu_ltd, ↓reduceIte, ↓ob_ite, ↓ob_asc, Bool.false_eq_true, Bool.true_eq_false, not_true_eq_false, not_false_eq_true, Nat.not_lt_zero, Nat.le_zero_eq, Nat.reduceAdd, Nat.reduceMul, Nat.reduceSub, Nat.reduceEqDiff, Nat.reduceLT, Nat.reduceLeDiff, sC_def, sR_def, sC_1, sC_2, sR_1, sR_2, sC_st, sR_st, sR_no, sR_refuse, and_self, true_and, and_true, false_and, and_false, f_X11_mean, h5]
          try rfl
        · have h6 : ¬ a1 ≤ Int32.ofNat (10000 - w) := fun z => h1 ⟨h5, z⟩
          simp (maxSteps := 1000000) (disch := omega) only [ne_eq, i_lt0, i_le0, i_eq0, i_n1, i_ltl, i_lel, i_eql, i_lt, i_le, i_eq, i_in, i_tn, i_add, i_addl, i_addr, i_mul, i_mulr, i_mull, if_true, if_false, eq_self, decide_eq_true_eq, decide_true, decide_false, Option.bind_some, Option.bind_none, ↓fu_ltd, ↓reduceIte, ↓ob_ite, ↓ob_asc, Bool.false_eq_true, Bool.true_eq_false, not_true_eq_false, not_false_eq_true, Nat.not_lt_zero, Nat.le_zero_eq, Nat.reduceAdd, Nat.reduceMul, Nat.reduceSub, Nat.reduceEqDiff, Nat.reduceLT, Nat.reduceLeDiff, sC_def, sR_def, sC_1, sC_2, sR_1, sR_2, sC_st, sR_st, sR_no, sR_refuse, and_self, true_and, and_true, false_and, and_false, f_X11_mean, h5, k1, hw2, e10, h6]
          try rfl
      · simp (maxSteps := 1000000) (disch := omega) only [ne_eq, i_lt0, i_le0, i_eq0, i_n1, i_ltl, i_lel, i_eql, i_lt, i_le, i_eq, i_in, i_tn, i_add, i_addl, i_addr, i_mul, i_mulr, i_mull, if_true, if_false, eq_self, decide_eq_true_eq, decide_true, decide_false, Option.bind_some, Option.bind_none, ↓fu_ltd, ↓reduceIte, ↓ob_ite, ↓ob_asc, Bool.false_eq_true, Bool.true_eq_false, not_true_eq_false, not_false_eq_true, Nat.not_lt_zero, Nat.le_zero_eq, Nat.reduceAdd, Nat.reduceMul, Nat.reduceSub, Nat.reduceEqDiff, Nat.reduceLT, Nat.reduceLeDiff, sC_def, sR_def, sC_1, sC_2, sR_1, sR_2, sC_st, sR_st, sR_no, sR_refuse, and_self, true_and, and_true, false_and, and_false, f_X12_mean, r_isIn1_20, k1, hw2, e10, ein]
  · refine fail 5 ?_ ?_
    · by_cases h5 : a1 < 0
      · simp (maxSteps := 1000000) (disch := omega) only [ne_eq, i_lt0, i_le0, i_eq0, i_n1, i_ltl, i_lel, i_eql, i_lt, i_le, i_eq, i_in, i_tn, i_add, i_addl, i_addr, i_mul, i_mulr, i_mull, if_true, if_false, eq_self, decide_eq_true_eq, decide_true, decide_false, Option.bind_some, Option.bind_none, ↓fu_ltd, ↓reduceIte, ↓ob_ite, ↓ob_asc, Bool.false_eq_true, Bool.true_eq_false, not_true_eq_false, not_false_eq_true, Nat.not_lt_zero, Nat.le_zero_eq, Nat.reduceAdd, Nat.reduceMul, Nat.reduceSub, Nat.reduceEqDiff, Nat.reduceLT, Nat.reduceLeDiff, sC_def, sR_def, sC_1, sC_2, sR_1, sR_2, sC_st, sR_st, sR_no, sR_refuse, and_self, true_and, and_true, false_and, and_false, f_X11_mean, h5]
        try rfl
      · by_cases h6 : a2 < 1
        · simp (maxSteps := 1000000) (disch := omega) only [ne_eq, i_lt0, i_le0, i_eq0, i_n1, i_ltl, i_lel, i_eql, i_lt, i_le, i_eq, i_in, i_tn, i_add, i_addl, i_addr, i_mul, i_mulr, i_mull, if_true, if_false, eq_self, decide_eq_true_eq, decide_true, decide_false, Option.bind_some, Option.bind_none, ↓fu_ltd, ↓reduceIte, ↓ob_ite, ↓ob_asc, Bool.false_eq_true, Bool.true_eq_false, not_true_eq_false, not_false_eq_true, Nat.not_lt_zero, Nat.le_zero_eq, Nat.reduceAdd, Nat.reduceMul, Nat.reduceSub, Nat.reduceEqDiff, Nat.reduceLT, Nat.reduceLeDiff, sC_def, sR_def, sC_1, sC_2, sR_1, sR_2, sC_st, sR_st, sR_no, sR_refuse, and_self, true_and, and_true, false_and, and_false, f_X11_mean, h5, h6]
          try rfl
        · have h7 : ¬ a2 ≤ 20 := fun z => h2 ⟨h6, z⟩
          simp (maxSteps := 1000000) (disch := omega) only [ne_eq, i_lt0, i_le0, i_eq0, i_n1, i_ltl, i_lel, i_eql, i_lt, i_le, i_eq, i_in, i_tn, i_add, i_addl, i_addr, i_mul, i_mulr, i_mull, if_true, if_false, eq_self, decide_eq_true_eq, decide_true, decide_false, Option.bind_some, Option.bind_none, ↓fu_ltd, ↓reduceIte, ↓ob_ite, ↓ob_asc, Bool.false_eq_true, Bool.true_eq_false, not_true_eq_false, not_false_eq_true, Nat.not_lt_zero, Nat.le_zero_eq, Nat.reduceAdd, Nat.reduceMul, Nat.reduceSub, Nat.reduceEqDiff, Nat.reduceLT, Nat.reduceLeDiff, sC_def, sR_def, sC_1, sC_2, sR_1, sR_2, sC_st, sR_st, sR_no, sR_refuse, and_self, true_and, and_true, false_and, and_false, f_X11_mean, h5, h6, h7]
          try rfl
    · simp (maxSteps := 1000000) (disch := omega) only [ne_eq, i_lt0, i_le0, i_eq0, i_n1, i_ltl, i_lel, i_eql, i_lt, i_le, i_eq, i_in, i_tn, i_add, i_addl, i_addr, i_mul, i_mulr, i_mull, if_true, if_false, eq_self, decide_eq_true_eq, decide_true, decide_false, Option.bind_some, Option.bind_none, ↓fu_ltd, ↓reduceIte, ↓ob_ite, ↓ob_asc, Bool.false_eq_true, Bool.true_eq_false, not_true_eq_false, not_false_eq_true, Nat.not_lt_zero, Nat.le_zero_eq, Nat.reduceAdd, Nat.reduceMul, Nat.reduceSub, Nat.reduceEqDiff, Nat.reduceLT, Nat.reduceLeDiff, sC_def, sR_def, sC_1, sC_2, sR_1, sR_2, sC_st, sR_st, sR_no, sR_refuse, and_self, true_and, and_true, false_and, and_false, f_X12_mean, r_isIn1_20, h2]
