/-! game, moveOf -/
section GR3
variable {s : fu_S} {P : Nat} {D : dD} {t p q k A B n G x y T m : Nat} {e : Bool}
theorem r_play (hd : dR s 0 D) (hv : dV D) (hp : p < D 0 4) (hq : q < D 0 4) : ∀ {f k n G A B x y : Nat}, k < f → n + k ≤ 4 → 1 ≤ n → (n % 2 = 0 ∧ x = p ∧ y = q ∨ n % 2 = 1 ∧ x = q ∧ y = p) → G < 256 → A < 2 ^ D 0 5 → B < 2 ^ D 0 5 → (∀ t, t < D 0 5 → A.testBit t = ((g_w D x).testBit t && !G.testBit t)) → (∀ t, t < D 0 5 → B.testBit t = ((g_w D y).testBit t && !G.testBit t)) →
    f_X12_plays f s (Int32.ofNat p) (Int32.ofNat q) (Int32.ofNat n) (Int32.ofNat (n + k)) (Int32.ofNat G) = some (Int32.ofInt (g_sg (decide (n % 2 = 0)) (g_v (d_w D) k A B)), s)
  | 0, _, _, _, _, _, _, _, hf, _, _, _, _, _, _, _, _ => absurd hf (by omega)
  | f + 1, 0, n, G, A, B, x, y, hf, hn, hn1, hxy, hG, hAl, hBl, hA, hB => by
    rw [f_X12_plays, Nat.add_zero]
    have h0 : Int32.ofInt (g_sg (decide (n % 2 = 0)) (g_v (d_w D) 0 A B)) = 0 := by
      show Int32.ofInt (g_sg _ 0) = 0
      unfold g_sg
      split <;> rfl
    rw [h0]
    unfold fb_X12_plays
    exact if_pos rfl
  | f + 1, k + 1, n, G, A, B, x, y, hf, hn, hn1, hxy, hG, hAl, hBl, hA, hB => by
    have hp4 := hv.1
    have h8 : 2 ^ D 0 5 ≤ 2 ^ 8 := Nat.pow_le_pow_right (by omega) (by omega)
    rw [f_X12_plays]
    have hsg : ∀ v : Int, g_sg (decide ((n + 1) % 2 = 0)) v = g_sg (decide (n % 2 = 0)) (-v) := fun v => by
      unfold g_sg
      by_cases h : n % 2 = 0
      · rw [decide_eq_true h, decide_eq_false (by omega)]
        simp
      · rw [decide_eq_false h, decide_eq_true (by omega)]
        simp
    have hout : ∀ (A G w t : Nat), t < D 0 5 → (∀ t, t < D 0 5 → A.testBit t = ((g_w D w).testBit t && !G.testBit t)) → ∀ i, i < D 0 5 → (d_nb A (2 ^ t)).testBit i = ((g_w D w).testBit i && !(G ||| 2 ^ t).testBit i) := fun A G w t ht h i hi => by
      rw [d_nb_bit (by omega), h i hi, Nat.testBit_or, Bool.not_or, Bool.and_assoc]
    have hK : ∀ t, t < D 0 5 → A.testBit t = true → f_X12_plays f s (Int32.ofNat p) (Int32.ofNat q) (Int32.ofNat (n + 1)) (Int32.ofNat (n + (k + 1))) (Int32.ofNat (G ||| 2 ^ t)) = some (Int32.ofInt (g_sg (decide (n % 2 = 0)) (-(g_v (d_w D) k (d_nb B (2 ^ t)) (d_nb A (2 ^ t))))), s) := fun t ht hz => by
      have := r_play hd hv hp hq (f := f) (k := k) (n := n + 1) (G := G ||| 2 ^ t) (A := d_nb B (2 ^ t)) (B := d_nb A (2 ^ t)) (x := y) (y := x) (by omega) (by omega) (by omega) (by omega) (Nat.or_lt_two_pow (n := 8) hG (Nat.pow_lt_pow_right (by omega) (by omega))) (Nat.lt_of_le_of_lt d_nb_le hBl) (Nat.lt_of_le_of_lt d_nb_le hAl) (hout B G y t ht hB) (hout A G x t ht hA)
      rw [hsg, show n + 1 + k = n + (k + 1) by omega] at this
      exact this
    have hP : f_X12_plays f s (Int32.ofNat p) (Int32.ofNat q) (Int32.ofNat (n + 1)) (Int32.ofNat (n + (k + 1))) (Int32.ofNat G) = some (Int32.ofInt (g_sg (decide (n % 2 = 0)) (-(g_v (d_w D) k B A))), s) := by
      have := r_play hd hv hp hq (f := f) (k := k) (n := n + 1) (G := G) (A := B) (B := A) (x := y) (y := x) (by omega) (by omega) (by omega) (by omega) hG hBl hAl hB hA
      rw [hsg, show n + 1 + k = n + (k + 1) by omega] at this
      exact this
    have hx : x < D 0 4 := by omega
    have hL := r_playL (n := n) hd hv (by omega : k ≤ 3) hx hG hA hK hP
    rw [← (g_tot (k := k) (B := B) hv hAl).1] at hL
    have h1 : ¬ n = n + (k + 1) := by omega
    have h2 : ¬ n = 0 := by omega
    generalize e_b (g_b (g_c D A) (g_g D k A B) (D 0 5 + 1)).2 = E at *
    generalize g_v (d_w D) (k + 1) A B = V at *
    rcases hxy with ⟨w1, rfl, rfl⟩ | ⟨w1, rfl, rfl⟩
    · rw [decide_eq_true w1] at hL ⊢
      simp (maxSteps := 1000000) (disch := omega) only [ne_eq, i_lt0, i_le0, i_eq0, i_n1, i_ltl, i_lel, i_eql, i_lt, i_le, i_eq, i_in, i_tn, i_add, i_addl, i_addr, i_mul, i_mulr, i_mull, if_true, if_false, eq_self, decide_eq_true_eq, decide_true, decide_false, Option.bind_some, Option.bind_none, ↓fu_ltd, ↓reduceIte, ↓ob_ite, ↓ob_asc, ↓Option.bind_some, Bool.false_eq_true, Bool.true_eq_false, not_true_eq_false, not_false_eq_true, Nat.not_lt_zero, Nat.le_zero_eq, Nat.reduceAdd, Nat.reduceMul, Nat.reduceSub, Nat.reduceEqDiff, Nat.reduceLT, Nat.reduceLeDiff, sC_def, sR_def, sC_1, sC_2, sR_1, sR_2, sC_st, sR_st, sR_no, sR_refuse, and_self, true_and, and_true, false_and, and_false, fb_X12_plays, h1, h2, i_reml, w1, hL]
    · have w2 : ¬ n % 2 = 0 := by omega
      rw [decide_eq_false w2] at hL ⊢
      simp (maxSteps := 1000000) (disch := omega) only [ne_eq, i_lt0, i_le0, i_eq0, i_n1, i_ltl, i_lel, i_eql, i_lt, i_le, i_eq, i_in, i_tn, i_add, i_addl, i_addr, i_mul, i_mulr, i_mull, if_true, if_false, eq_self, decide_eq_true_eq, decide_true, decide_false, Option.bind_some, Option.bind_none, ↓fu_ltd, ↓reduceIte, ↓ob_ite, ↓ob_asc, ↓Option.bind_some, Bool.false_eq_true, Bool.true_eq_false, not_true_eq_false, not_false_eq_true, Nat.not_lt_zero, Nat.le_zero_eq, Nat.reduceAdd, Nat.reduceMul, Nat.reduceSub, Nat.reduceEqDiff, Nat.reduceLT, Nat.reduceLeDiff, sC_def, sR_def, sC_1, sC_2, sR_1, sR_2, sC_st, sR_st, sR_no, sR_refuse, and_self, true_and, and_true, false_and, and_false, fb_X12_plays, h1, h2, i_reml, w2, hL]
/-- the first turn -/
theorem r_play0 (hd : dR s 0 D) (hv : dV D) (hp : p < D 0 4) (hq : q < D 0 4) (hk : k + 1 ≤ 4) : f_X12_plays 16 s (Int32.ofNat p) (Int32.ofNat q) 0 (Int32.ofNat (k + 1)) 0 = some (Int32.ofInt (g_v (d_w D) (k + 1) (g_w D p) (g_w D q)), fu_pi s 117 29 (e_b (g_b (g_c D (g_w D p)) (g_g D k (g_w D p) (g_w D q)) (D 0 5 + 1)).2)) := by
  have hp4 := hv.1
  have h8 : 2 ^ D 0 5 ≤ 2 ^ 8 := Nat.pow_le_pow_right (by omega) (by omega)
  have hAl : g_w D p < 2 ^ D 0 5 := d_set_lt _ _
  have hBl : g_w D q < 2 ^ D 0 5 := d_set_lt _ _
  have hout : ∀ (A G w t : Nat), t < D 0 5 → (∀ t, t < D 0 5 → A.testBit t = ((g_w D w).testBit t && !G.testBit t)) → ∀ i, i < D 0 5 → (d_nb A (2 ^ t)).testBit i = ((g_w D w).testBit i && !(G ||| 2 ^ t).testBit i) := fun A G w t ht h i hi => by
    rw [d_nb_bit (by omega), h i hi, Nat.testBit_or, Bool.not_or, Bool.and_assoc]
  have h0 : ∀ w t, t < D 0 5 → (g_w D w).testBit t = ((g_w D w).testBit t && !Nat.testBit 0 t) := fun w t _ => by
    rw [Nat.zero_testBit, Bool.not_false, Bool.and_true]
  have hK : ∀ t, t < D 0 5 → (g_w D p).testBit t = true → f_X12_plays 15 s (Int32.ofNat p) (Int32.ofNat q) (Int32.ofNat (0 + 1)) (Int32.ofNat (k + 1)) (Int32.ofNat (0 ||| 2 ^ t)) = some (Int32.ofInt (g_sg true (-(g_v (d_w D) k (d_nb (g_w D q) (2 ^ t)) (d_nb (g_w D p) (2 ^ t))))), s) := fun t ht hz => by
    have := r_play hd hv hp hq (f := 15) (k := k) (n := 1) (G := 0 ||| 2 ^ t) (A := d_nb (g_w D q) (2 ^ t)) (B := d_nb (g_w D p) (2 ^ t)) (x := q) (y := p) (by omega) (by omega) (by omega) (by omega) (Nat.or_lt_two_pow (n := 8) (by omega) (Nat.pow_lt_pow_right (by omega) (by omega))) (Nat.lt_of_le_of_lt d_nb_le hBl) (Nat.lt_of_le_of_lt d_nb_le hAl) (hout _ 0 q t ht (h0 q)) (hout _ 0 p t ht (h0 p))
    rw [show 1 + k = k + 1 by omega] at this
    exact this
  have hP : f_X12_plays 15 s (Int32.ofNat p) (Int32.ofNat q) (Int32.ofNat (0 + 1)) (Int32.ofNat (k + 1)) (Int32.ofNat 0) = some (Int32.ofInt (g_sg true (-(g_v (d_w D) k (g_w D q) (g_w D p)))), s) := by
    have := r_play hd hv hp hq (f := 15) (k := k) (n := 1) (G := 0) (A := g_w D q) (B := g_w D p) (x := q) (y := p) (by omega) (by omega) (by omega) (by omega) (by omega) hBl hAl (h0 q) (h0 p)
    rw [show 1 + k = k + 1 by omega] at this
    exact this
  have hL := r_playL (n := 0) hd hv (by omega : k ≤ 3) hp (by omega) (h0 p) hK hP
  rw [← (g_tot (k := k) (B := g_w D q) hv hAl).1] at hL
  have h1 : ¬ 0 = k + 1 := by omega
  have hL' : l_X12_plays_42 (f_X12_plays 15) fu_N s (Int32.ofNat p) (Int32.ofNat q) 0 (Int32.ofNat (k + 1)) 0 true (Int32.ofNat p) 0 (-1) 0 = _ := hL
  have h3 : ¬ (0 : Int32) = Int32.ofNat (k + 1) := fun z => h1 ((i_eq (a := 0) (by omega) (by omega)).mp z)
  have h4 : (0 : Int32) - 0 / 2 * 2 = 0 := by decide
  generalize e_b (g_b (g_c D (g_w D p)) (g_g D k (g_w D p) (g_w D q)) (D 0 5 + 1)).2 = E at *
  generalize g_v (d_w D) (k + 1) (g_w D p) (g_w D q) = V at *
  rw [show (16 : Nat) = 15 + 1 from rfl, f_X12_plays]
  unfold fb_X12_plays
  rw [if_neg h3, if_pos h4]
  simp (maxSteps := 1000000) (disch := omega) only [ne_eq, i_lt0, i_le0, i_eq0, i_n1, i_ltl, i_lel, i_eql, i_lt, i_le, i_eq, i_in, i_tn, i_add, i_addl, i_addr, i_mul, i_mulr, i_mull, if_true, if_false, eq_self, decide_eq_true_eq, decide_true, decide_false, Option.bind_some, Option.bind_none, ↓fu_ltd, ↓reduceIte, ↓ob_ite, ↓ob_asc, ↓Option.bind_some, Bool.false_eq_true, Bool.true_eq_false, not_true_eq_false, not_false_eq_true, Nat.not_lt_zero, Nat.le_zero_eq, Nat.reduceAdd, Nat.reduceMul, Nat.reduceSub, Nat.reduceEqDiff, Nat.reduceLT, Nat.reduceLeDiff, sC_def, sR_def, sC_1, sC_2, sR_1, sR_2, sC_st, sR_st, sR_no, sR_refuse, and_self, true_and, and_true, false_and, and_false, hL']
  rfl
theorem r_isInG {x l : Int32} : f_X12_isIn (Int32.toInt64 x) (Int32.toInt64 l) (4 : Int64) = decide (¬ x < l ∧ x ≤ 4) := by
  rw [r_isIn, show (4 : Int64) = Int32.toInt64 (4 : Int32) from l_lit (n := 4) (show (4 : Nat) < 2147483648 by omega)]
  simp only [l_lt, l_le]
end GR3
theorem hd_41 : lw_E_41 dI := by
  intro s1 s2 hI a1 a2 a3
  obtain ⟨D, hv, hC, hR, -⟩ := dI_D hI
  have hp4 := hv.1
  have h8 : 2 ^ D 0 5 ≤ 2 ^ 8 := Nat.pow_le_pow_right (by omega) (by omega)
  have hc := fun x => dC_s (x := x) (by omega : (11 : Nat) ≠ 0) hC
  have hr := fun x => dR_s (x := x) hv hR
  have hq1 := dR_q (q := 1) (x := 0) hv hR
  have ep := fun y => r_isPerson (x := y) hq1 hv
  by_cases h1 : ¬ a1 < 0 ∧ a1 < Int32.ofNat (D 0 4)
  · obtain ⟨p, hp, rfl⟩ := i_is (by omega) h1
    by_cases h2 : ¬ a2 < 0 ∧ a2 < Int32.ofNat (D 0 4)
    · obtain ⟨q, hq, rfl⟩ := i_is (by omega) h2
      by_cases hpq : p = q
      · refine ⟨-1, sC s1 5, sR s2 5, ?_, ?_, dI_s hI⟩
        · simp (maxSteps := 1000000) (disch := omega) only [ne_eq, i_lt0, i_le0, i_eq0, i_n1, i_ltl, i_lel, i_eql, i_lt, i_le, i_eq, i_in, i_tn, i_add, i_addl, i_addr, i_mul, i_mulr, i_mull, if_true, if_false, eq_self, decide_eq_true_eq, decide_true, decide_false, Option.bind_some, Option.bind_none, ↓fu_ltd, ↓reduceIte, ↓ob_ite, ↓ob_asc, Bool.false_eq_true, Bool.true_eq_false, not_true_eq_false, not_false_eq_true, Nat.not_lt_zero, Nat.le_zero_eq, Nat.reduceAdd, Nat.reduceMul, Nat.reduceSub, Nat.reduceEqDiff, Nat.reduceLT, Nat.reduceLeDiff, sC_def, sR_def, sC_1, sC_2, sR_1, sR_2, sC_st, sR_st, sR_no, sR_refuse, and_self, true_and, and_true, false_and, and_false, f_X11_game, f_X11_gameStatus, f_X11_coupleStatus, c_hasPerson hC, hp, hq, hpq]
          try rfl
        · simp (maxSteps := 1000000) (disch := omega) only [ne_eq, i_lt0, i_le0, i_eq0, i_n1, i_ltl, i_lel, i_eql, i_lt, i_le, i_eq, i_in, i_tn, i_add, i_addl, i_addr, i_mul, i_mulr, i_mull, if_true, if_false, eq_self, decide_eq_true_eq, decide_true, decide_false, Option.bind_some, Option.bind_none, ↓fu_ltd, ↓reduceIte, ↓ob_ite, ↓ob_asc, Bool.false_eq_true, Bool.true_eq_false, not_true_eq_false, not_false_eq_true, Nat.not_lt_zero, Nat.le_zero_eq, Nat.reduceAdd, Nat.reduceMul, Nat.reduceSub, Nat.reduceEqDiff, Nat.reduceLT, Nat.reduceLeDiff, sC_def, sR_def, sC_1, sC_2, sR_1, sR_2, sC_st, sR_st, sR_no, sR_refuse, and_self, true_and, and_true, false_and, and_false, f_X12_game, f_X12_whyNoGame, ep, hp, hq, hpq]
          try rfl
      · by_cases h3 : ¬ a3 < 0 ∧ a3 ≤ 4
        · have e0 := r_isInG (x := a3) (l := 0)
          rw [decide_eq_true h3] at e0
          obtain ⟨k, hk, rfl⟩ := i_upto (n := 4) (by omega) h3
          have hAl : g_w D p < 2 ^ D 0 5 := d_set_lt _ _
          have hBl : g_w D q < 2 ^ D 0 5 := d_set_lt _ _
          have e1 := c_upSetFor (hc 0) hv hp
          have e2 := c_upSetFor (hc 0) hv hq
          rw [show d_set (fun t => d_isUp D t && d_able D p t) (D 0 5) = g_w D p from rfl] at e1
          rw [show d_set (fun t => d_isUp D t && d_able D q t) (D 0 5) = g_w D q from rfl] at e2
          have e3 := c_play (n := 16) (k := k) (A := g_w D p) (B := g_w D q) (hc 0) hv (by omega) hk (by omega) (by omega)
          by_cases hk0 : k = 0
          · subst hk0
            have e4 : f_X12_plays 16 (sR s2 0) (Int32.ofNat p) (Int32.ofNat q) 0 (Int32.ofNat 0) 0 = some (0, sR s2 0) := by
              rw [show (16 : Nat) = 15 + 1 from rfl, f_X12_plays]
              exact if_pos rfl
            refine ⟨Int32.ofInt (g_v (d_w D) 0 (g_w D p) (g_w D q)), sC s1 0, sR s2 0, ?_, ?_, dI_s hI⟩
            · simp (maxSteps := 1000000) (disch := omega) only [ne_eq, i_lt0, i_le0, i_eq0, i_n1, i_ltl, i_lel, i_eql, i_lt, i_le, i_eq, i_in, i_tn, i_add, i_addl, i_addr, i_mul, i_mulr, i_mull, if_true, if_false, eq_self, decide_eq_true_eq, decide_true, decide_false, Option.bind_some, Option.bind_none, ↓fu_ltd, ↓reduceIte, ↓ob_ite, ↓ob_asc, Bool.false_eq_true, Bool.true_eq_false, not_true_eq_false, not_false_eq_true, Nat.not_lt_zero, Nat.le_zero_eq, Nat.reduceAdd, Nat.reduceMul, Nat.reduceSub, Nat.reduceEqDiff, Nat.reduceLT, Nat.reduceLeDiff, sC_def, sR_def, sC_1, sC_2, sR_1, sR_2, sC_st, sR_st, sR_no, sR_refuse, and_self, true_and, and_true, false_and, and_false, f_X11_game, f_X11_gameStatus, f_X11_coupleStatus, f_X10_gameWorth, c_hasPerson hC, hp, hq, hpq, e1, e2, e3]
              try rfl
            · simp (maxSteps := 1000000) (disch := omega) only [ne_eq, i_lt0, i_le0, i_eq0, i_n1, i_ltl, i_lel, i_eql, i_lt, i_le, i_eq, i_in, i_tn, i_add, i_addl, i_addr, i_mul, i_mulr, i_mull, if_true, if_false, eq_self, decide_eq_true_eq, decide_true, decide_false, Option.bind_some, Option.bind_none, ↓fu_ltd, ↓reduceIte, ↓ob_ite, ↓ob_asc, Bool.false_eq_true, Bool.true_eq_false, not_true_eq_false, not_false_eq_true, Nat.not_lt_zero, Nat.le_zero_eq, Nat.reduceAdd, Nat.reduceMul, Nat.reduceSub, Nat.reduceEqDiff, Nat.reduceLT, Nat.reduceLeDiff, sC_def, sR_def, sC_1, sC_2, sR_1, sR_2, sC_st, sR_st, sR_no, sR_refuse, and_self, true_and, and_true, false_and, and_false, f_X12_game, f_X12_whyNoGame, ep, hp, hq, hpq, e0, e4]
              try rfl
          · obtain ⟨j, rfl⟩ : ∃ j, k = j + 1 := ⟨k - 1, by omega⟩
            have e4 := r_play0 (k := j) (hr 0) hv hp hq hk
            generalize e_b (g_b (g_c D (g_w D p)) (g_g D j (g_w D p) (g_w D q)) (D 0 5 + 1)).2 = E at *
            refine ⟨Int32.ofInt (g_v (d_w D) (j + 1) (g_w D p) (g_w D q)), sC s1 0, fu_pi (sR s2 0) 117 29 E, ?_, ?_, dI_eq hI eqC_sC (eqR_tr eqR_sR (eqR_st (by omega) (by omega) (by omega) (by omega) (by omega))) ?_⟩
            · simp (maxSteps := 1000000) (disch := omega) only [ne_eq, i_lt0, i_le0, i_eq0, i_n1, i_ltl, i_lel, i_eql, i_lt, i_le, i_eq, i_in, i_tn, i_add, i_addl, i_addr, i_mul, i_mulr, i_mull, if_true, if_false, eq_self, decide_eq_true_eq, decide_true, decide_false, Option.bind_some, Option.bind_none, ↓fu_ltd, ↓reduceIte, ↓ob_ite, ↓ob_asc, Bool.false_eq_true, Bool.true_eq_false, not_true_eq_false, not_false_eq_true, Nat.not_lt_zero, Nat.le_zero_eq, Nat.reduceAdd, Nat.reduceMul, Nat.reduceSub, Nat.reduceEqDiff, Nat.reduceLT, Nat.reduceLeDiff, sC_def, sR_def, sC_1, sC_2, sR_1, sR_2, sC_st, sR_st, sR_no, sR_refuse, and_self, true_and, and_true, false_and, and_false, f_X11_game, f_X11_gameStatus, f_X11_coupleStatus, f_X10_gameWorth, c_hasPerson hC, hp, hq, hpq, hk, e1, e2, e3]
              try rfl
            · simp (maxSteps := 1000000) (disch := omega) only [ne_eq, i_lt0, i_le0, i_eq0, i_n1, i_ltl, i_lel, i_eql, i_lt, i_le, i_eq, i_in, i_tn, i_add, i_addl, i_addr, i_mul, i_mulr, i_mull, if_true, if_false, eq_self, decide_eq_true_eq, decide_true, decide_false, Option.bind_some, Option.bind_none, ↓fu_ltd, ↓reduceIte, ↓ob_ite, ↓ob_asc, Bool.false_eq_true, Bool.true_eq_false, not_true_eq_false, not_false_eq_true, Nat.not_lt_zero, Nat.le_zero_eq, Nat.reduceAdd, Nat.reduceMul, Nat.reduceSub, Nat.reduceEqDiff, Nat.reduceLT, Nat.reduceLeDiff, sC_def, sR_def, sC_1, sC_2, sR_1, sR_2, sC_st, sR_st, sR_no, sR_refuse, and_self, true_and, and_true, false_and, and_false, f_X12_game, f_X12_whyNoGame, ep, hp, hq, hpq, e0, e4]
              try rfl
            · rw [p1q (by omega), sC_st, sR_st]
        · have e0 := r_isInG (x := a3) (l := 0)
          rw [decide_eq_false h3] at e0
          refine ⟨-1, sC s1 5, sR s2 5, ?_, ?_, dI_s hI⟩
          · by_cases h5 : a3 < 0
            · simp (maxSteps := 1000000) (disch := omega) only [ne_eq, i_lt0, i_le0, i_eq0, i_n1, i_ltl, i_lel, i_eql, i_lt, i_le, i_eq, i_in, i_tn, i_add, i_addl, i_addr, i_mul, i_mulr, i_mull, if_true, if_false, eq_self, decide_eq_true_eq, decide_true, decide_false, Option.bind_some, Option.bind_none, ↓fu_ltd, ↓reduceIte, ↓ob_ite, ↓ob_asc, Bool.false_eq_true, Bool.true_eq_false, not_true_eq_false, not_false_eq_true, Nat.not_lt_zero, Nat.le_zero_eq, Nat.reduceAdd, Nat.reduceMul, Nat.reduceSub, Nat.reduceEqDiff, Nat.reduceLT, Nat.reduceLeDiff, sC_def, sR_def, sC_1, sC_2, sR_1, sR_2, sC_st, sR_st, sR_no, sR_refuse, and_self, true_and, and_true, false_and, and_false, f_X11_game, f_X11_gameStatus, f_X11_coupleStatus, c_hasPerson hC, hp, hq, hpq, h5]
              try rfl
            · have h6 : ¬ a3 ≤ 4 := fun z => h3 ⟨h5, z⟩
              simp (maxSteps := 1000000) (disch := omega) only [ne_eq, i_lt0, i_le0, i_eq0, i_n1, i_ltl, i_lel, i_eql, i_lt, i_le, i_eq, i_in, i_tn, i_add, i_addl, i_addr, i_mul, i_mulr, i_mull, if_true, if_false, eq_self, decide_eq_true_eq, decide_true, decide_false, Option.bind_some, Option.bind_none, ↓fu_ltd, ↓reduceIte, ↓ob_ite, ↓ob_asc, Bool.false_eq_true, Bool.true_eq_false, not_true_eq_false, not_false_eq_true, Nat.not_lt_zero, Nat.le_zero_eq, Nat.reduceAdd, Nat.reduceMul, Nat.reduceSub, Nat.reduceEqDiff, Nat.reduceLT, Nat.reduceLeDiff, sC_def, sR_def, sC_1, sC_2, sR_1, sR_2, sC_st, sR_st, sR_no, sR_refuse, and_self, true_and, and_true, false_and, and_false, f_X11_game, f_X11_gameStatus, f_X11_coupleStatus, c_hasPerson hC, hp, hq, hpq, h5, h6]
              try rfl
          · simp (maxSteps := 1000000) (disch := omega) only [ne_eq, i_lt0, i_le0, i_eq0, i_n1, i_ltl, i_lel, i_eql, i_lt, i_le, i_eq, i_in, i_tn, i_add, i_addl, i_addr, i_mul, i_mulr, i_mull, if_true, if_false, eq_self, decide_eq_true_eq, decide_true, decide_false, Option.bind_some, Option.bind_none, ↓fu_ltd, ↓reduceIte, ↓ob_ite, ↓ob_asc, Bool.false_eq_true, Bool.true_eq_false, not_true_eq_false, not_false_eq_true, Nat.not_lt_zero, Nat.le_zero_eq, Nat.reduceAdd, Nat.reduceMul, Nat.reduceSub, Nat.reduceEqDiff, Nat.reduceLT, Nat.reduceLeDiff, sC_def, sR_def, sC_1, sC_2, sR_1, sR_2, sC_st, sR_st, sR_no, sR_refuse, and_self, true_and, and_true, false_and, and_false, f_X12_game, f_X12_whyNoGame, ep, hp, hq, hpq, e0]
            try rfl
    · refine ⟨-1, sC s1 2, sR s2 2, ?_, ?_, dI_s hI⟩
      · simp (maxSteps := 1000000) (disch := omega) only [ne_eq, i_lt0, i_le0, i_eq0, i_n1, i_ltl, i_lel, i_eql, i_lt, i_le, i_eq, i_in, i_tn, i_add, i_addl, i_addr, i_mul, i_mulr, i_mull, if_true, if_false, eq_self, decide_eq_true_eq, decide_true, decide_false, Option.bind_some, Option.bind_none, ↓fu_ltd, ↓reduceIte, ↓ob_ite, ↓ob_asc, Bool.false_eq_true, Bool.true_eq_false, not_true_eq_false, not_false_eq_true, Nat.not_lt_zero, Nat.le_zero_eq, Nat.reduceAdd, Nat.reduceMul, Nat.reduceSub, Nat.reduceEqDiff, Nat.reduceLT, Nat.reduceLeDiff, sC_def, sR_def, sC_1, sC_2, sR_1, sR_2, sC_st, sR_st, sR_no, sR_refuse, and_self, true_and, and_true, false_and, and_false, f_X11_game, f_X11_gameStatus, f_X11_coupleStatus, c_hasPerson hC, hp, h2]
        try rfl
      · simp (maxSteps := 1000000) (disch := omega) only [ne_eq, i_lt0, i_le0, i_eq0, i_n1, i_ltl, i_lel, i_eql, i_lt, i_le, i_eq, i_in, i_tn, i_add, i_addl, i_addr, i_mul, i_mulr, i_mull, if_true, if_false, eq_self, decide_eq_true_eq, decide_true, decide_false, Option.bind_some, Option.bind_none, ↓fu_ltd, ↓reduceIte, ↓ob_ite, ↓ob_asc, Bool.false_eq_true, Bool.true_eq_false, not_true_eq_false, not_false_eq_true, Nat.not_lt_zero, Nat.le_zero_eq, Nat.reduceAdd, Nat.reduceMul, Nat.reduceSub, Nat.reduceEqDiff, Nat.reduceLT, Nat.reduceLeDiff, sC_def, sR_def, sC_1, sC_2, sR_1, sR_2, sC_st, sR_st, sR_no, sR_refuse, and_self, true_and, and_true, false_and, and_false, f_X12_game, f_X12_whyNoGame, ep, hp, h2]
        try rfl
  · refine ⟨-1, sC s1 2, sR s2 2, ?_, ?_, dI_s hI⟩
    · simp (maxSteps := 1000000) (disch := omega) only [ne_eq, i_lt0, i_le0, i_eq0, i_n1, i_ltl, i_lel, i_eql, i_lt, i_le, i_eq, i_in, i_tn, i_add, i_addl, i_addr, i_mul, i_mulr, i_mull, if_true, if_false, eq_self, decide_eq_true_eq, decide_true, decide_false, Option.bind_some, Option.bind_none, ↓fu_ltd, ↓reduceIte, ↓ob_ite, ↓ob_asc, Bool.false_eq_true, Bool.true_eq_false, not_true_eq_false, not_false_eq_true, Nat.not_lt_zero, Nat.le_zero_eq, Nat.reduceAdd, Nat.reduceMul, Nat.reduceSub, Nat.reduceEqDiff, Nat.reduceLT, Nat.reduceLeDiff, sC_def, sR_def, sC_1, sC_2, sR_1, sR_2, sC_st, sR_st, sR_no, sR_refuse, and_self, true_and, and_true, false_and, and_false, f_X11_game, f_X11_gameStatus, f_X11_coupleStatus, c_hasPerson hC, h1]
      try rfl
    · simp (maxSteps := 1000000) (disch := omega) only [ne_eq, i_lt0, i_le0, i_eq0, i_n1, i_ltl, i_lel, i_eql, i_lt, i_le, i_eq, i_in, i_tn, i_add, i_addl, i_addr, i_mul, i_mulr, i_mull, if_true, if_false, eq_self, decide_eq_true_eq, decide_true, decide_false, Option.bind_some, Option.bind_none, ↓fu_ltd, ↓reduceIte, ↓ob_ite, ↓ob_asc, Bool.false_eq_true, Bool.true_eq_false, not_true_eq_false, not_false_eq_true, Nat.not_lt_zero, Nat.le_zero_eq, Nat.reduceAdd, Nat.reduceMul, Nat.reduceSub, Nat.reduceEqDiff, Nat.reduceLT, Nat.reduceLeDiff, sC_def, sR_def, sC_1, sC_2, sR_1, sR_2, sC_st, sR_st, sR_no, sR_refuse, and_self, true_and, and_true, false_and, and_false, f_X12_game, f_X12_whyNoGame, ep, h1]
      try rfl
theorem c_fmL {s : fu_S} {P : Nat} {D : dD} {k A B : Nat} (h : dC s P D) (hv : dV D) (hk : k + 1 ≤ 4) (hA : A < 2 ^ D 0 5) (hB : B < 2 ^ D 0 5) : l_X10_firstMove_29 fu_N s P (Int32.ofNat (k + 1)) (Int32.ofNat A) (Int32.ofNat B) (Int32.ofInt (g_v (d_w D) (k + 1) A B)) 0 = some (if (g_b (g_c D A) (g_g D k A B) (D 0 5 + 1)).2 = D 0 5 + 1 then .inr () else .inl (Int32.ofNat ((g_b (g_c D A) (g_g D k A B) (D 0 5 + 1)).2 - 1))) := by
  have hp4 := hv.1
  have h8 : 2 ^ D 0 5 ≤ 2 ^ 8 := Nat.pow_le_pow_right (by omega) (by omega)
  obtain ⟨g1, g2⟩ := g_tot (k := k) (B := B) hv hA
  have hVb := g_v_bd (w := d_w D) (fun t => d_w_le hv) (k := k + 1) (A := A) (B := B)
  have val : ∀ t, t < 8 → f_X10_worthOfMove (f_X10_bestPlay 16) s P (Int32.ofNat A) (Int32.ofNat B) (Int32.ofNat (k + 1)) (Int32.ofNat t) = some (Int32.ofInt (g_fm D k A B t)) := fun t ht => by
    have ht31 : t < 31 := by omega
    have e2 := c_worth h hv ht
    have e3 := c_play (n := 16) (k := k) (A := d_nb B (2 ^ t)) (B := d_nb A (2 ^ t)) h hv (by omega) (by omega) (Nat.lt_of_le_of_lt d_nb_le (by omega)) (Nat.lt_of_le_of_lt d_nb_le (by omega))
    have e4 : Int32.ofInt (d_w D t) - Int32.ofInt (g_v (d_w D) k (d_nb B (2 ^ t)) (d_nb A (2 ^ t))) = Int32.ofInt (g_fm D k A B t) := o_sub
    simp (maxSteps := 1000000) (disch := omega) only [ne_eq, i_lt0, i_le0, i_eq0, i_n1, i_ltl, i_lel, i_eql, i_lt, i_le, i_eq, i_in, i_tn, i_add, i_addl, i_addr, i_mul, i_mulr, i_mull, if_true, if_false, eq_self, decide_eq_true_eq, decide_true, decide_false, Option.bind_some, Option.bind_none, ↓fu_ltd, ↓reduceIte, ↓ob_ite, ↓ob_asc, Bool.false_eq_true, Bool.true_eq_false, not_true_eq_false, not_false_eq_true, Nat.not_lt_zero, Nat.le_zero_eq, Nat.reduceAdd, Nat.reduceMul, Nat.reduceSub, Nat.reduceEqDiff, Nat.reduceLT, Nat.reduceLeDiff, sC_def, sR_def, sC_1, sC_2, sR_1, sR_2, sC_st, sR_st, sR_no, sR_refuse, and_self, true_and, and_true, false_and, and_false, f_X10_worthOfMove, e2, i_nand1, i_add1s, e3, e4]
  have step : ∀ f t, t < 8 → ¬ (A.testBit t = true ∧ g_fm D k A B t = g_v (d_w D) (k + 1) A B) → l_X10_firstMove_29 (f + 1) s P (Int32.ofNat (k + 1)) (Int32.ofNat A) (Int32.ofNat B) (Int32.ofInt (g_v (d_w D) (k + 1) A B)) (Int32.ofNat t) = l_X10_firstMove_29 f s P (Int32.ofNat (k + 1)) (Int32.ofNat A) (Int32.ofNat B) (Int32.ofInt (g_v (d_w D) (k + 1) A B)) (Int32.ofNat (t + 1)) := fun f t ht hz => by
    have ht31 : t < 31 := by omega
    have e1 := val t ht
    have q1 := g_fm_bd (A := A) (B := B) (t := t) hv (by omega : k ≤ 4)
    generalize g_fm D k A B t = F at *
    generalize g_v (d_w D) (k + 1) A B = V at *
    cases hb : A.testBit t
    · simp (maxSteps := 1000000) (disch := omega) only [ne_eq, i_lt0, i_le0, i_eq0, i_n1, i_ltl, i_lel, i_eql, i_lt, i_le, i_eq, i_in, i_tn, i_add, i_addl, i_addr, i_mul, i_mulr, i_mull, if_true, if_false, eq_self, decide_eq_true_eq, decide_true, decide_false, Option.bind_some, Option.bind_none, ↓fu_ltd, ↓reduceIte, ↓ob_ite, ↓ob_asc, Bool.false_eq_true, Bool.true_eq_false, not_true_eq_false, not_false_eq_true, Nat.not_lt_zero, Nat.le_zero_eq, Nat.reduceAdd, Nat.reduceMul, Nat.reduceSub, Nat.reduceEqDiff, Nat.reduceLT, Nat.reduceLeDiff, sC_def, sR_def, sC_1, sC_2, sR_1, sR_2, sC_st, sR_st, sR_no, sR_refuse, and_self, true_and, and_true, false_and, and_false, l_X10_firstMove_29, ht, i_bit0, hb, i_add1]
    · have hne : ¬ F = V := fun w => hz ⟨hb, w⟩
      have hne' : ¬ Int32.ofInt F = Int32.ofInt V := fun w => hne ((o_eq (by omega) (by omega)).mp w)
      simp (maxSteps := 1000000) (disch := omega) only [ne_eq, i_lt0, i_le0, i_eq0, i_n1, i_ltl, i_lel, i_eql, i_lt, i_le, i_eq, i_in, i_tn, i_add, i_addl, i_addr, i_mul, i_mulr, i_mull, if_true, if_false, eq_self, decide_eq_true_eq, decide_true, decide_false, Option.bind_some, Option.bind_none, ↓fu_ltd, ↓reduceIte, ↓ob_ite, ↓ob_asc, Bool.false_eq_true, Bool.true_eq_false, not_true_eq_false, not_false_eq_true, Nat.not_lt_zero, Nat.le_zero_eq, Nat.reduceAdd, Nat.reduceMul, Nat.reduceSub, Nat.reduceEqDiff, Nat.reduceLT, Nat.reduceLeDiff, sC_def, sR_def, sC_1, sC_2, sR_1, sR_2, sC_st, sR_st, sR_no, sR_refuse, and_self, true_and, and_true, false_and, and_false, l_X10_firstMove_29, ht, i_bit0, hb, e1, hne', i_add1]
  rcases g_b_ok (c := g_c D A) (f := g_g D k A B) (n := D 0 5 + 1) with ⟨z1, -⟩ | ⟨t, z1, z2, z3, z4, z5, -⟩
  · exact absurd z1 g2
  · rw [← g1] at z4 z5
    rw [z1]
    have before : ∀ j, j < t → ¬ (A.testBit j = true ∧ g_fm D k A B j = g_v (d_w D) (k + 1) A B) := fun j hj ⟨w1, w2⟩ => by
      have y1 : g_c D A j = true := by
        unfold g_c
        rw [if_neg (by omega)]; exact w1
      have y2 := z5 j hj y1
      rw [show g_g D k A B j = g_fm D k A B j from if_neg (by omega)] at y2
      omega
    by_cases ht : t = D 0 5
    · rw [if_pos (by omega)]
      exact lp_fr (l := fun f (_ : Unit) j => l_X10_firstMove_29 f s P (Int32.ofNat (k + 1)) (Int32.ofNat A) (Int32.ofNat B) (Int32.ofInt (g_v (d_w D) (k + 1) A B)) (Int32.ofNat j)) (a := 0) (b := 8) (S := fun _ => ()) (r := .inr ()) (fun f j _ hj => by
        by_cases hjt : j < t
        · exact step f j hj (before j hjt)
        · refine step f j hj (fun w => ?_)
          rw [bit_hi hA (by omega)] at w
          exact Bool.noConfusion w.1) (fun f => by
        generalize g_v (d_w D) (k + 1) A B = V at *
        simp (maxSteps := 1000000) (disch := omega) only [ne_eq, i_lt0, i_le0, i_eq0, i_n1, i_ltl, i_lel, i_eql, i_lt, i_le, i_eq, i_in, i_tn, i_add, i_addl, i_addr, i_mul, i_mulr, i_mull, if_true, if_false, eq_self, decide_eq_true_eq, decide_true, decide_false, Option.bind_some, Option.bind_none, ↓fu_ltd, ↓reduceIte, ↓ob_ite, ↓ob_asc, Bool.false_eq_true, Bool.true_eq_false, not_true_eq_false, not_false_eq_true, Nat.not_lt_zero, Nat.le_zero_eq, Nat.reduceAdd, Nat.reduceMul, Nat.reduceSub, Nat.reduceEqDiff, Nat.reduceLT, Nat.reduceLeDiff, sC_def, sR_def, sC_1, sC_2, sR_1, sR_2, sC_st, sR_st, sR_no, sR_refuse, and_self, true_and, and_true, false_and, and_false, l_X10_firstMove_29, Nat.lt_irrefl]) (f := fu_N) (k := 0) (by omega) (by omega) (fu_N_gt (by omega))
    · rw [if_neg (by omega)]
      have ht5 : t < D 0 5 := by omega
      have ht8 : t < 8 := by omega
      have hb : A.testBit t = true := by
        unfold g_c at z3
        rw [if_neg ht] at z3; exact z3
      have hf : g_fm D k A B t = g_v (d_w D) (k + 1) A B := by
        rw [← z4]
        exact (if_neg ht).symm
      exact lp_fr (l := fun f (_ : Unit) j => l_X10_firstMove_29 f s P (Int32.ofNat (k + 1)) (Int32.ofNat A) (Int32.ofNat B) (Int32.ofInt (g_v (d_w D) (k + 1) A B)) (Int32.ofNat j)) (a := 0) (b := t) (S := fun _ => ()) (r := .inl (Int32.ofNat (t + 1 - 1))) (fun f j _ hj => step f j (by omega) (before j hj)) (fun f => by
        have ht31 : t < 31 := by omega
        have e1 := val t ht8
        rw [hf] at e1
        generalize g_v (d_w D) (k + 1) A B = V at *
        rw [Nat.add_sub_cancel]
        simp (maxSteps := 1000000) (disch := omega) only [ne_eq, i_lt0, i_le0, i_eq0, i_n1, i_ltl, i_lel, i_eql, i_lt, i_le, i_eq, i_in, i_tn, i_add, i_addl, i_addr, i_mul, i_mulr, i_mull, if_true, if_false, eq_self, decide_eq_true_eq, decide_true, decide_false, Option.bind_some, Option.bind_none, ↓fu_ltd, ↓reduceIte, ↓ob_ite, ↓ob_asc, Bool.false_eq_true, Bool.true_eq_false, not_true_eq_false, not_false_eq_true, Nat.not_lt_zero, Nat.le_zero_eq, Nat.reduceAdd, Nat.reduceMul, Nat.reduceSub, Nat.reduceEqDiff, Nat.reduceLT, Nat.reduceLeDiff, sC_def, sR_def, sC_1, sC_2, sR_1, sR_2, sC_st, sR_st, sR_no, sR_refuse, and_self, true_and, and_true, false_and, and_false, l_X10_firstMove_29, ht8, i_bit0, hb, e1]) (f := fu_N) (k := 0) (by omega) (by omega) (fu_N_gt (by omega))
theorem hd_42 : lw_E_42 dI := by
  intro s1 s2 hI a1 a2 a3
  obtain ⟨D, hv, hC, hR, -⟩ := dI_D hI
  have hp4 := hv.1
  have h8 : 2 ^ D 0 5 ≤ 2 ^ 8 := Nat.pow_le_pow_right (by omega) (by omega)
  have hc := fun x => dC_s (x := x) (by omega : (11 : Nat) ≠ 0) hC
  have hr := fun x => dR_s (x := x) hv hR
  have hq1 := dR_q (q := 1) (x := 0) hv hR
  have ep := fun y => r_isPerson (x := y) hq1 hv
  by_cases h1 : ¬ a1 < 0 ∧ a1 < Int32.ofNat (D 0 4)
  · obtain ⟨p, hp, rfl⟩ := i_is (by omega) h1
    by_cases h2 : ¬ a2 < 0 ∧ a2 < Int32.ofNat (D 0 4)
    · obtain ⟨q, hq, rfl⟩ := i_is (by omega) h2
      by_cases hpq : p = q
      · refine ⟨-1, sC s1 5, sR s2 5, ?_, ?_, dI_s hI⟩
        · simp (maxSteps := 1000000) (disch := omega) only [ne_eq, i_lt0, i_le0, i_eq0, i_n1, i_ltl, i_lel, i_eql, i_lt, i_le, i_eq, i_in, i_tn, i_add, i_addl, i_addr, i_mul, i_mulr, i_mull, if_true, if_false, eq_self, decide_eq_true_eq, decide_true, decide_false, Option.bind_some, Option.bind_none, ↓fu_ltd, ↓reduceIte, ↓ob_ite, ↓ob_asc, Bool.false_eq_true, Bool.true_eq_false, not_true_eq_false, not_false_eq_true, Nat.not_lt_zero, Nat.le_zero_eq, Nat.reduceAdd, Nat.reduceMul, Nat.reduceSub, Nat.reduceEqDiff, Nat.reduceLT, Nat.reduceLeDiff, sC_def, sR_def, sC_1, sC_2, sR_1, sR_2, sC_st, sR_st, sR_no, sR_refuse, and_self, true_and, and_true, false_and, and_false, f_X11_moveOf, f_X11_gameStatus, f_X11_coupleStatus, c_hasPerson hC, hp, hq, hpq]
          try rfl
        · simp (maxSteps := 1000000) (disch := omega) only [ne_eq, i_lt0, i_le0, i_eq0, i_n1, i_ltl, i_lel, i_eql, i_lt, i_le, i_eq, i_in, i_tn, i_add, i_addl, i_addr, i_mul, i_mulr, i_mull, if_true, if_false, eq_self, decide_eq_true_eq, decide_true, decide_false, Option.bind_some, Option.bind_none, ↓fu_ltd, ↓reduceIte, ↓ob_ite, ↓ob_asc, Bool.false_eq_true, Bool.true_eq_false, not_true_eq_false, not_false_eq_true, Nat.not_lt_zero, Nat.le_zero_eq, Nat.reduceAdd, Nat.reduceMul, Nat.reduceSub, Nat.reduceEqDiff, Nat.reduceLT, Nat.reduceLeDiff, sC_def, sR_def, sC_1, sC_2, sR_1, sR_2, sC_st, sR_st, sR_no, sR_refuse, and_self, true_and, and_true, false_and, and_false, f_X12_moveOf, f_X12_whyNoGame, ep, hp, hq, hpq]
          try rfl
      · by_cases h3 : ¬ a3 < 1 ∧ a3 ≤ 4
        · have e0 := r_isInG (x := a3) (l := 1)
          rw [decide_eq_true h3] at e0
          have h30 : ¬ a3 < 0 := fun z => h3.1 (by
            rw [Int32.lt_iff_toInt_lt] at z ⊢
            rw [show (0 : Int32).toInt = 0 from rfl] at z
            rw [show (1 : Int32).toInt = 1 from rfl]
            omega)
          obtain ⟨k, hk, rfl⟩ := i_upto (n := 4) (by omega) ⟨h30, h3.2⟩
          have hk1 : ¬ k < 1 := fun z => h3.1 ((i_ltl (n := 1) (by omega) (show (1 : Nat) < 2147483648 by omega)).mpr z)
          obtain ⟨j, rfl⟩ : ∃ j, k = j + 1 := ⟨k - 1, by omega⟩
          have hAl : g_w D p < 2 ^ D 0 5 := d_set_lt _ _
          have hBl : g_w D q < 2 ^ D 0 5 := d_set_lt _ _
          have e1 := c_upSetFor (hc 0) hv hp
          have e2 := c_upSetFor (hc 0) hv hq
          rw [show d_set (fun t => d_isUp D t && d_able D p t) (D 0 5) = g_w D p from rfl] at e1
          rw [show d_set (fun t => d_isUp D t && d_able D q t) (D 0 5) = g_w D q from rfl] at e2
          have e3 := c_play (n := 16) (k := j + 1) (A := g_w D p) (B := g_w D q) (hc 0) hv (by omega) hk (by omega) (by omega)
          have e4 := r_play0 (k := j) (hr 0) hv hp hq hk
          have e5 := c_fmL (k := j) (hc 0) hv hk hAl hBl
          have hne := (g_tot (k := j) (B := g_w D q) hv hAl).2
          have hbd := (g_b_bd (c := g_c D (g_w D p)) (f := g_g D j (g_w D p) (g_w D q)) (n := D 0 5 + 1) (fun i _ => g_g_bd hv (by omega))).2
          have g2 : (sR s2 0).1 122 2 = Int32.ofNat (D 0 5) := (dR_0 (hr 0)).1.2.2.1
          generalize (g_b (g_c D (g_w D p)) (g_g D j (g_w D p) (g_w D q)) (D 0 5 + 1)).2 = C at *
          generalize g_v (d_w D) (j + 1) (g_w D p) (g_w D q) = V at *
          rw [e_b_of hne] at e4
          have y1 : ∀ x, (fu_pi (sR s2 0) 117 29 x).1 117 29 = x := fun x => p1
          have y2 : ∀ x, (fu_pi (sR s2 0) 117 29 x).1 122 2 = Int32.ofNat (D 0 5) := fun x => by rw [p1n (by omega)]; exact g2
          have hr1 : ∀ x, eqR s2 (fu_pi (sR s2 0) 117 29 x) := fun x => eqR_tr eqR_sR (eqR_st (by omega) (by omega) (by omega) (by omega) (by omega))
          by_cases hC5 : C = D 0 5 + 1
          · rw [if_pos hC5] at e5
            have hC6 : C - 1 = D 0 5 := by omega
            refine ⟨-1, fu_pi (sC s1 0) 0 15 8, fu_pi (fu_pi (sR s2 0) 117 29 (Int32.ofNat (C - 1))) 117 0 8, ?_, ?_, dI_eq hI (eqC_tr eqC_sC eqC_st) (eqR_tr (hr1 _) (eqR_st (by omega) (by omega) (by omega) (by omega) (by omega))) (p1.trans p1.symm)⟩
            · simp (maxSteps := 1000000) (disch := omega) only [ne_eq, i_lt0, i_le0, i_eq0, i_n1, i_ltl, i_lel, i_eql, i_lt, i_le, i_eq, i_in, i_tn, i_add, i_addl, i_addr, i_mul, i_mulr, i_mull, if_true, if_false, eq_self, decide_eq_true_eq, decide_true, decide_false, Option.bind_some, Option.bind_none, ↓fu_ltd, ↓reduceIte, ↓ob_ite, ↓ob_asc, Bool.false_eq_true, Bool.true_eq_false, not_true_eq_false, not_false_eq_true, Nat.not_lt_zero, Nat.le_zero_eq, Nat.reduceAdd, Nat.reduceMul, Nat.reduceSub, Nat.reduceEqDiff, Nat.reduceLT, Nat.reduceLeDiff, sC_def, sR_def, sC_1, sC_2, sR_1, sR_2, sC_st, sR_st, sR_no, sR_refuse, and_self, true_and, and_true, false_and, and_false, f_X11_moveOf, f_X11_gameStatus, f_X11_coupleStatus, f_X10_firstMove, c_hasPerson hC, hp, hq, hpq, hk1, hk, e1, e2, e3, e5, Sum.elim_inr]
              try rfl
            · simp (maxSteps := 1000000) (disch := omega) only [ne_eq, i_lt0, i_le0, i_eq0, i_n1, i_ltl, i_lel, i_eql, i_lt, i_le, i_eq, i_in, i_tn, i_add, i_addl, i_addr, i_mul, i_mulr, i_mull, if_true, if_false, eq_self, decide_eq_true_eq, decide_true, decide_false, Option.bind_some, Option.bind_none, ↓fu_ltd, ↓reduceIte, ↓ob_ite, ↓ob_asc, Bool.false_eq_true, Bool.true_eq_false, not_true_eq_false, not_false_eq_true, Nat.not_lt_zero, Nat.le_zero_eq, Nat.reduceAdd, Nat.reduceMul, Nat.reduceSub, Nat.reduceEqDiff, Nat.reduceLT, Nat.reduceLeDiff, sC_def, sR_def, sC_1, sC_2, sR_1, sR_2, sC_st, sR_st, sR_no, sR_refuse, and_self, true_and, and_true, false_and, and_false, f_X12_moveOf, f_X12_whyNoGame, ep, hp, hq, hpq, e0, e4, y1, y2, hC6, f_X12_refuse]
              try rfl
          · rw [if_neg hC5] at e5
            have hC6 : ¬ C - 1 = D 0 5 := by omega
            refine ⟨Int32.ofNat (C - 1), fu_pi (sC s1 0) 0 15 0, fu_pi (sR s2 0) 117 29 (Int32.ofNat (C - 1)), ?_, ?_, dI_eq hI (eqC_tr eqC_sC eqC_st) (hr1 _) ?_⟩
            · simp (maxSteps := 1000000) (disch := omega) only [ne_eq, i_lt0, i_le0, i_eq0, i_n1, i_ltl, i_lel, i_eql, i_lt, i_le, i_eq, i_in, i_tn, i_add, i_addl, i_addr, i_mul, i_mulr, i_mull, if_true, if_false, eq_self, decide_eq_true_eq, decide_true, decide_false, Option.bind_some, Option.bind_none, ↓fu_ltd, ↓reduceIte, ↓ob_ite, ↓ob_asc, Bool.false_eq_true, Bool.true_eq_false, not_true_eq_false, not_false_eq_true, Nat.not_lt_zero, Nat.le_zero_eq, Nat.reduceAdd, Nat.reduceMul, Nat.reduceSub, Nat.reduceEqDiff, Nat.reduceLT, Nat.reduceLeDiff, sC_def, sR_def, sC_1, sC_2, sR_1, sR_2, sC_st, sR_st, sR_no, sR_refuse, and_self, true_and, and_true, false_and, and_false, f_X11_moveOf, f_X11_gameStatus, f_X11_coupleStatus, f_X10_firstMove, c_hasPerson hC, hp, hq, hpq, hk1, hk, e1, e2, e3, e5, Sum.elim_inl]
              try rfl
            · simp (maxSteps := 1000000) (disch := omega) only [ne_eq, i_lt0, i_le0, i_eq0, i_n1, i_ltl, i_lel, i_eql, i_lt, i_le, i_eq, i_in, i_tn, i_add, i_addl, i_addr, i_mul, i_mulr, i_mull, if_true, if_false, eq_self, decide_eq_true_eq, decide_true, decide_false, Option.bind_some, Option.bind_none, ↓fu_ltd, ↓reduceIte, ↓ob_ite, ↓ob_asc, Bool.false_eq_true, Bool.true_eq_false, not_true_eq_false, not_false_eq_true, Nat.not_lt_zero, Nat.le_zero_eq, Nat.reduceAdd, Nat.reduceMul, Nat.reduceSub, Nat.reduceEqDiff, Nat.reduceLT, Nat.reduceLeDiff, sC_def, sR_def, sC_1, sC_2, sR_1, sR_2, sC_st, sR_st, sR_no, sR_refuse, and_self, true_and, and_true, false_and, and_false, f_X12_moveOf, f_X12_whyNoGame, ep, hp, hq, hpq, e0, e4, y1, y2, hC6]
              try rfl
            · rw [p1, p1q (by omega), sR_st]
        · have e0 := r_isInG (x := a3) (l := 1)
          rw [decide_eq_false h3] at e0
          refine ⟨-1, sC s1 5, sR s2 5, ?_, ?_, dI_s hI⟩
          · by_cases h5 : a3 < 1
            · simp (maxSteps := 1000000) (disch := omega) only [ne_eq, i_lt0, i_le0, i_eq0, i_n1, i_ltl, i_lel, i_eql, i_lt, i_le, i_eq, i_in, i_tn, i_add, i_addl, i_addr, i_mul, i_mulr, i_mull, if_true, if_false, eq_self, decide_eq_true_eq, decide_true, decide_false, Option.bind_some, Option.bind_none, ↓fu_ltd, ↓reduceIte, ↓ob_ite, ↓ob_asc, Bool.false_eq_true, Bool.true_eq_false, not_true_eq_false, not_false_eq_true, Nat.not_lt_zero, Nat.le_zero_eq, Nat.reduceAdd, Nat.reduceMul, Nat.reduceSub, Nat.reduceEqDiff, Nat.reduceLT, Nat.reduceLeDiff, sC_def, sR_def, sC_1, sC_2, sR_1, sR_2, sC_st, sR_st, sR_no, sR_refuse, and_self, true_and, and_true, false_and, and_false, f_X11_moveOf, f_X11_gameStatus, f_X11_coupleStatus, c_hasPerson hC, hp, hq, hpq, h5]
              try rfl
            · have h6 : ¬ a3 ≤ 4 := fun z => h3 ⟨h5, z⟩
              simp (maxSteps := 1000000) (disch := omega) only [ne_eq, i_lt0, i_le0, i_eq0, i_n1, i_ltl, i_lel, i_eql, i_lt, i_le, i_eq, i_in, i_tn, i_add, i_addl, i_addr, i_mul, i_mulr, i_mull, if_true, if_false, eq_self, decide_eq_true_eq, decide_true, decide_false, Option.bind_some, Option.bind_none, ↓fu_ltd, ↓reduceIte, ↓ob_ite, ↓ob_asc, Bool.false_eq_true, Bool.true_eq_false, not_true_eq_false, not_false_eq_true, Nat.not_lt_zero, Nat.le_zero_eq, Nat.reduceAdd, Nat.reduceMul, Nat.reduceSub, Nat.reduceEqDiff, Nat.reduceLT, Nat.reduceLeDiff, sC_def, sR_def, sC_1, sC_2, sR_1, sR_2, sC_st, sR_st, sR_no, sR_refuse, and_self, true_and, and_true, false_and, and_false, f_X11_moveOf, f_X11_gameStatus, f_X11_coupleStatus, c_hasPerson hC, hp, hq, hpq, h5, h6]
              try rfl
          · simp (maxSteps := 1000000) (disch := omega) only [ne_eq, i_lt0, i_le0, i_eq0, i_n1, i_ltl, i_lel, i_eql, i_lt, i_le, i_eq, i_in, i_tn, i_add, i_addl, i_addr, i_mul, i_mulr, i_mull, if_true, if_false, eq_self, decide_eq_true_eq, decide_true, decide_false, Option.bind_some, Option.bind_none, ↓fu_ltd, ↓reduceIte, ↓ob_ite, ↓ob_asc, Bool.false_eq_true, Bool.true_eq_false, not_true_eq_false, not_false_eq_true, Nat.not_lt_zero, Nat.le_zero_eq, Nat.reduceAdd, Nat.reduceMul, Nat.reduceSub, Nat.reduceEqDiff, Nat.reduceLT, Nat.reduceLeDiff, sC_def, sR_def, sC_1, sC_2, sR_1, sR_2, sC_st, sR_st, sR_no, sR_refuse, and_self, true_and, and_true, false_and, and_false, f_X12_moveOf, f_X12_whyNoGame, ep, hp, hq, hpq, e0]
            try rfl
    · refine ⟨-1, sC s1 2, sR s2 2, ?_, ?_, dI_s hI⟩
      · simp (maxSteps := 1000000) (disch := omega) only [ne_eq, i_lt0, i_le0, i_eq0, i_n1, i_ltl, i_lel, i_eql, i_lt, i_le, i_eq, i_in, i_tn, i_add, i_addl, i_addr, i_mul, i_mulr, i_mull, if_true, if_false, eq_self, decide_eq_true_eq, decide_true, decide_false, Option.bind_some, Option.bind_none, ↓fu_ltd, ↓reduceIte, ↓ob_ite, ↓ob_asc, Bool.false_eq_true, Bool.true_eq_false, not_true_eq_false, not_false_eq_true, Nat.not_lt_zero, Nat.le_zero_eq, Nat.reduceAdd, Nat.reduceMul, Nat.reduceSub, Nat.reduceEqDiff, Nat.reduceLT, Nat.reduceLeDiff, sC_def, sR_def, sC_1, sC_2, sR_1, sR_2, sC_st, sR_st, sR_no, sR_refuse, and_self, true_and, and_true, false_and, and_false, f_X11_moveOf, f_X11_gameStatus, f_X11_coupleStatus, c_hasPerson hC, hp, h2]
        try rfl
      · simp (maxSteps := 1000000) (disch := omega) only [ne_eq, i_lt0, i_le0, i_eq0, i_n1, i_ltl, i_lel, i_eql, i_lt, i_le, i_eq, i_in, i_tn, i_add, i_addl, i_addr, i_mul, i_mulr, i_mull, if_true, if_false, eq_self, decide_eq_true_eq, decide_true, decide_false, Option.bind_some, Option.bind_none, ↓fu_ltd, ↓reduceIte, ↓ob_ite, ↓ob_asc, Bool.false_eq_true, Bool.true_eq_false, not_true_eq_false, not_false_eq_true, Nat.not_lt_zero, Nat.le_zero_eq, Nat.reduceAdd, Nat.reduceMul, Nat.reduceSub, Nat.reduceEqDiff, Nat.reduceLT, Nat.reduceLeDiff, sC_def, sR_def, sC_1, sC_2, sR_1, sR_2, sC_st, sR_st, sR_no, sR_refuse, and_self, true_and, and_true, false_and, and_false, f_X12_moveOf, f_X12_whyNoGame, ep, hp, h2]
        try rfl
  · refine ⟨-1, sC s1 2, sR s2 2, ?_, ?_, dI_s hI⟩
    · simp (maxSteps := 1000000) (disch := omega) only [ne_eq, i_lt0, i_le0, i_eq0, i_n1, i_ltl, i_lel, i_eql, i_lt, i_le, i_eq, i_in, i_tn, i_add, i_addl, i_addr, i_mul, i_mulr, i_mull, if_true, if_false, eq_self, decide_eq_true_eq, decide_true, decide_false, Option.bind_some, Option.bind_none, ↓fu_ltd, ↓reduceIte, ↓ob_ite, ↓ob_asc, Bool.false_eq_true, Bool.true_eq_false, not_true_eq_false, not_false_eq_true, Nat.not_lt_zero, Nat.le_zero_eq, Nat.reduceAdd, Nat.reduceMul, Nat.reduceSub, Nat.reduceEqDiff, Nat.reduceLT, Nat.reduceLeDiff, sC_def, sR_def, sC_1, sC_2, sR_1, sR_2, sC_st, sR_st, sR_no, sR_refuse, and_self, true_and, and_true, false_and, and_false, f_X11_moveOf, f_X11_gameStatus, f_X11_coupleStatus, c_hasPerson hC, h1]
      try rfl
    · simp (maxSteps := 1000000) (disch := omega) only [ne_eq, i_lt0, i_le0, i_eq0, i_n1, i_ltl, i_lel, i_eql, i_lt, i_le, i_eq, i_in, i_tn, i_add, i_addl, i_addr, i_mul, i_mulr, i_mull, if_true, if_false, eq_self, decide_eq_true_eq, decide_true, decide_false, Option.bind_some, Option.bind_none, ↓fu_ltd, ↓reduceIte, ↓ob_ite, ↓ob_asc, Bool.false_eq_true, Bool.true_eq_false, not_true_eq_false, not_false_eq_true, Nat.not_lt_zero, Nat.le_zero_eq, Nat.reduceAdd, Nat.reduceMul, Nat.reduceSub, Nat.reduceEqDiff, Nat.reduceLT, Nat.reduceLeDiff, sC_def, sR_def, sC_1, sC_2, sR_1, sR_2, sC_st, sR_st, sR_no, sR_refuse, and_self, true_and, and_true, false_and, and_false, f_X12_moveOf, f_X12_whyNoGame, ep, h1]
      try rfl
