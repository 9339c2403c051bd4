/-! ending, endingSet: the loops -/
theorem ex_w {s u : fu_S} {P : Nat} {f : Nat → Int32} (h : u = s ∨ ∃ g, u = wri s P 7 g) : wri u P 7 f = wri s P 7 f := by
  rcases h with rfl | ⟨g, rfl⟩
  · rfl
  · exact wri_w
theorem d_in_scr {D : dD} {k : Nat} (hv : dV D) (hk : k < 2 ^ D 0 5) : k &&& d_set (fun t => decide (D 11 t ≠ 0)) (D 0 5) = 0 ↔ d_nb k (d_open D) = 0 := by
  have hp4 := hv.1
  have h8 : 2 ^ D 0 5 ≤ 2 ^ 8 := Nat.pow_le_pow_right (by omega) (by omega)
  rw [d_nb_0 (by omega)]
  constructor
  · intro h i hi
    have h1 : (k &&& d_set (fun t => decide (D 11 t ≠ 0)) (D 0 5)).testBit i = false := by rw [h, Nat.zero_testBit]
    rw [Nat.testBit_and, hi, Bool.true_and, d_set_bit] at h1
    have hn : i < D 0 5 := by
      rcases Nat.lt_or_ge i (D 0 5) with z | z
      · exact z
      · rw [bit_hi hk z] at hi; exact Bool.noConfusion hi
    unfold d_open
    rw [d_set_bit, decide_eq_true hn]
    rw [decide_eq_true hn] at h1
    by_cases h0 : D 11 i = 0
    · simp [h0]
    · simp [h0] at h1
  · intro h
    apply Nat.eq_of_testBit_eq
    intro i
    rw [Nat.zero_testBit, Nat.testBit_and]
    cases hi : k.testBit i
    · rfl
    · have := h i hi
      unfold d_open at this
      rw [d_set_bit, Bool.and_eq_true, decide_eq_true_eq, decide_eq_true_eq] at this
      rw [d_set_bit]
      simp [this.2]
def e_b (b : Nat) : Int32 := if b = 0 then -1 else Int32.ofNat (b - 1)
theorem e_b_neg {b : Nat} (hb : b < 2147483648) : (e_b b < 0) ↔ b = 0 := by
  unfold e_b
  by_cases h : b = 0
  · rw [if_pos h]; exact ⟨fun _ => h, fun _ => by decide⟩
  · rw [if_neg h]; exact ⟨fun z => absurd z (i_neg (by omega)), fun z => absurd z h⟩
section EN2
variable {s : fu_S} {P : Nat} {D : dD}
theorem c_least (h : dC s P D) (hv : dV D) (hP : P + 13 ≤ 115) : ∃ u, f_X0_leastEnding s P = some (Int32.ofNat (d_lst D (d_open D + 1)), u) ∧ (u = s ∨ ∃ g, u = wri s 115 7 g) := by
  have hp4 := hv.1
  have ho := d_open_bd hv
  have e0 := c_scrSet h hv
  have hop : ((Int32.ofNat (d_set (fun t => decide (D 11 t ≠ 0)) (D 0 5)) ^^^ -1) &&& ((1 : Int32) <<< (Int32.ofNat (D 0 5) &&& 31) - 1)) = Int32.ofNat (d_open D) := by
    have h1 : (1 : Int32) <<< (Int32.ofNat (D 0 5) &&& 31) - 1 = Int32.ofNat (2 ^ D 0 5 - 1) := by
      rw [i_shl (by omega)]
      exact i_sub (b := 1) (Nat.two_pow_pos _)
    rw [h1, i_nand', d_open_eq hv]
  obtain ⟨r, hr, hQ⟩ := lp_inv (l := fun f (σ : Int32 × fu_S) k => l_X0_leastEnding_21 f σ.2 P (Int32.ofNat (d_open D)) σ.1 (Int32.ofNat k)) (N := d_open D + 1) (fun k σ => σ.1 = Int32.ofNat (d_lst D k) ∧ (σ.2 = s ∨ ∃ g, σ.2 = wri s 115 7 g)) (fun r => r.1 = Int32.ofNat (d_lst D (d_open D + 1)) ∧ (r.2 = s ∨ ∃ g, r.2 = wri s 115 7 g)) (fun n k x hk hR => by
      obtain ⟨x1, x2⟩ := x
      obtain ⟨hx, hu⟩ := hR
      dsimp only at hx hu
      subst hx
      have hC : dC x2 P D := by
        rcases hu with rfl | ⟨g, rfl⟩
        · exact h
        · exact dC_w hP h
      have hl := d_lst_bd (k := k) hv (by omega)
      have hs := d_lst_s (k := k) hv (by omega)
      have e1 := c_drawN (W := k) hC hv hP (by omega)
      rw [ex_w hu] at e1
      have e2 := c_short (s := wri s 115 7 (fun r => Int32.ofNat (d_need D k r))) (T := d_need D k) (fun q _ => d_need_lt hv) (fun r hr => wri_r hr)
      rw [d_short_7 hv] at e2
      have hsl := d_short_le (D := D) (W := k)
      have e3 : Int32.ofNat k &&& (Int32.ofNat (d_open D) ^^^ -1) = Int32.ofNat (d_nb k (d_open D)) := i_nand
      have hnb : d_nb k (d_open D) ≤ k := d_nb_le
      have e4 := c_bits (a := k) (by omega)
      have e5 := c_bits (a := d_lst D k) (by omega)
      have hp1 := d_pop_le (a := k)
      have hp2 := d_pop_le (a := d_lst D k)
      have hko : k ≤ d_open D := by omega
      have hkk : k < 2147483648 := by omega
      have hz : (e_n (d_short D k) = -1) ↔ d_short D k = 0 := e_n1 (by omega)
      simp only [d_in, decide_eq_true_eq] at hs
      generalize hL : d_lst D k = L at *
      generalize d_nb k (d_open D) = B at *
      generalize hS : d_short D k = S at *
      show ∃ y : Int32 × fu_S, l_X0_leastEnding_21 (n + 1) x2 P (Int32.ofNat (d_open D)) (Int32.ofNat L) (Int32.ofNat k) = l_X0_leastEnding_21 n y.2 P (Int32.ofNat (d_open D)) y.1 (Int32.ofNat (k + 1)) ∧ y.1 = Int32.ofNat (d_lst D (k + 1)) ∧ (y.2 = s ∨ ∃ g, y.2 = wri s 115 7 g)
      by_cases hB : B = 0
      · by_cases hj : k = 0 ∨ d_pop k < d_pop L
        · by_cases h0 : S = 0
          · rw [if_pos ⟨hB, hj, h0⟩] at hs
            have hzt := hz.mpr h0
            refine ⟨(Int32.ofNat k, wri s 115 7 (fun r => Int32.ofNat (d_need D k r))), ?_, by rw [hs], .inr ⟨_, rfl⟩⟩
            by_cases hk0 : k = 0
            · subst hk0
              simp (maxSteps := 1000000) (disch := omega) only [ne_eq, i_lt0, i_le0, i_eq0, i_n1, i_ltl, i_lel, i_eql, i_lt, i_le, i_eq, i_in, i_tn, i_add, i_addl, i_addr, i_mul, i_mulr, i_mull, if_true, if_false, eq_self, decide_eq_true_eq, decide_true, decide_false, Option.bind_some, Option.bind_none, ↓fu_ltd, ↓reduceIte, ↓ob_ite, ↓ob_asc, Bool.false_eq_true, Bool.true_eq_false, not_true_eq_false, not_false_eq_true, Nat.not_lt_zero, Nat.le_zero_eq, Nat.reduceAdd, Nat.reduceMul, Nat.reduceSub, Nat.reduceEqDiff, Nat.reduceLT, Nat.reduceLeDiff, sC_def, sR_def, sC_1, sC_2, sR_1, sR_2, sC_st, sR_st, sR_no, sR_refuse, and_self, true_and, and_true, false_and, and_false, l_X0_leastEnding_21, hko, e3, hB, e1, e2, hzt, i_add1]
            · have hj' := hj.resolve_left hk0
              simp (maxSteps := 1000000) (disch := omega) only [ne_eq, i_lt0, i_le0, i_eq0, i_n1, i_ltl, i_lel, i_eql, i_lt, i_le, i_eq, i_in, i_tn, i_add, i_addl, i_addr, i_mul, i_mulr, i_mull, if_true, if_false, eq_self, decide_eq_true_eq, decide_true, decide_false, Option.bind_some, Option.bind_none, ↓fu_ltd, ↓reduceIte, ↓ob_ite, ↓ob_asc, Bool.false_eq_true, Bool.true_eq_false, not_true_eq_false, not_false_eq_true, Nat.not_lt_zero, Nat.le_zero_eq, Nat.reduceAdd, Nat.reduceMul, Nat.reduceSub, Nat.reduceEqDiff, Nat.reduceLT, Nat.reduceLeDiff, sC_def, sR_def, sC_1, sC_2, sR_1, sR_2, sC_st, sR_st, sR_no, sR_refuse, and_self, true_and, and_true, false_and, and_false, l_X0_leastEnding_21, hko, e3, hB, hk0, e4, e5, hj', e1, e2, hzt, i_add1]
          · rw [if_neg (fun z => h0 z.2.2)] at hs
            have hzt : ¬ _ := fun w => h0 (hz.mp w)
            refine ⟨(Int32.ofNat L, wri s 115 7 (fun r => Int32.ofNat (d_need D k r))), ?_, by rw [hs], .inr ⟨_, rfl⟩⟩
            by_cases hk0 : k = 0
            · subst hk0
              simp (maxSteps := 1000000) (disch := omega) only [ne_eq, i_lt0, i_le0, i_eq0, i_n1, i_ltl, i_lel, i_eql, i_lt, i_le, i_eq, i_in, i_tn, i_add, i_addl, i_addr, i_mul, i_mulr, i_mull, if_true, if_false, eq_self, decide_eq_true_eq, decide_true, decide_false, Option.bind_some, Option.bind_none, ↓fu_ltd, ↓reduceIte, ↓ob_ite, ↓ob_asc, Bool.false_eq_true, Bool.true_eq_false, not_true_eq_false, not_false_eq_true, Nat.not_lt_zero, Nat.le_zero_eq, Nat.reduceAdd, Nat.reduceMul, Nat.reduceSub, Nat.reduceEqDiff, Nat.reduceLT, Nat.reduceLeDiff, sC_def, sR_def, sC_1, sC_2, sR_1, sR_2, sC_st, sR_st, sR_no, sR_refuse, and_self, true_and, and_true, false_and, and_false, l_X0_leastEnding_21, hko, e3, hB, e1, e2, hzt, i_add1]
            · have hj' := hj.resolve_left hk0
              simp (maxSteps := 1000000) (disch := omega) only [ne_eq, i_lt0, i_le0, i_eq0, i_n1, i_ltl, i_lel, i_eql, i_lt, i_le, i_eq, i_in, i_tn, i_add, i_addl, i_addr, i_mul, i_mulr, i_mull, if_true, if_false, eq_self, decide_eq_true_eq, decide_true, decide_false, Option.bind_some, Option.bind_none, ↓fu_ltd, ↓reduceIte, ↓ob_ite, ↓ob_asc, Bool.false_eq_true, Bool.true_eq_false, not_true_eq_false, not_false_eq_true, Nat.not_lt_zero, Nat.le_zero_eq, Nat.reduceAdd, Nat.reduceMul, Nat.reduceSub, Nat.reduceEqDiff, Nat.reduceLT, Nat.reduceLeDiff, sC_def, sR_def, sC_1, sC_2, sR_1, sR_2, sC_st, sR_st, sR_no, sR_refuse, and_self, true_and, and_true, false_and, and_false, l_X0_leastEnding_21, hko, e3, hB, hk0, e4, e5, hj', e1, e2, hzt, i_add1]
        · rw [if_neg (fun z => hj z.2.1)] at hs
          have hk0 : ¬ k = 0 := fun z => hj (.inl z)
          have hj' : ¬ d_pop k < d_pop L := fun z => hj (.inr z)
          refine ⟨(Int32.ofNat L, x2), ?_, by rw [hs], hu⟩
          simp (maxSteps := 1000000) (disch := omega) only [ne_eq, i_lt0, i_le0, i_eq0, i_n1, i_ltl, i_lel, i_eql, i_lt, i_le, i_eq, i_in, i_tn, i_add, i_addl, i_addr, i_mul, i_mulr, i_mull, if_true, if_false, eq_self, decide_eq_true_eq, decide_true, decide_false, Option.bind_some, Option.bind_none, ↓fu_ltd, ↓reduceIte, ↓ob_ite, ↓ob_asc, Bool.false_eq_true, Bool.true_eq_false, not_true_eq_false, not_false_eq_true, Nat.not_lt_zero, Nat.le_zero_eq, Nat.reduceAdd, Nat.reduceMul, Nat.reduceSub, Nat.reduceEqDiff, Nat.reduceLT, Nat.reduceLeDiff, sC_def, sR_def, sC_1, sC_2, sR_1, sR_2, sC_st, sR_st, sR_no, sR_refuse, and_self, true_and, and_true, false_and, and_false, l_X0_leastEnding_21, hko, e3, hB, hk0, e4, e5, hj', i_add1]
      · rw [if_neg (fun z => hB z.1)] at hs
        refine ⟨(Int32.ofNat L, x2), ?_, by rw [hs], hu⟩
        have hk0 : ¬ k = 0 := by omega
        by_cases hj' : d_pop k < d_pop L
        · simp (maxSteps := 1000000) (disch := omega) only [ne_eq, i_lt0, i_le0, i_eq0, i_n1, i_ltl, i_lel, i_eql, i_lt, i_le, i_eq, i_in, i_tn, i_add, i_addl, i_addr, i_mul, i_mulr, i_mull, if_true, if_false, eq_self, decide_eq_true_eq, decide_true, decide_false, Option.bind_some, Option.bind_none, ↓fu_ltd, ↓reduceIte, ↓ob_ite, ↓ob_asc, Bool.false_eq_true, Bool.true_eq_false, not_true_eq_false, not_false_eq_true, Nat.not_lt_zero, Nat.le_zero_eq, Nat.reduceAdd, Nat.reduceMul, Nat.reduceSub, Nat.reduceEqDiff, Nat.reduceLT, Nat.reduceLeDiff, sC_def, sR_def, sC_1, sC_2, sR_1, sR_2, sC_st, sR_st, sR_no, sR_refuse, and_self, true_and, and_true, false_and, and_false, l_X0_leastEnding_21, hko, e3, hB, hk0, e4, e5, hj', i_add1]
        · simp (maxSteps := 1000000) (disch := omega) only [ne_eq, i_lt0, i_le0, i_eq0, i_n1, i_ltl, i_lel, i_eql, i_lt, i_le, i_eq, i_in, i_tn, i_add, i_addl, i_addr, i_mul, i_mulr, i_mull, if_true, if_false, eq_self, decide_eq_true_eq, decide_true, decide_false, Option.bind_some, Option.bind_none, ↓fu_ltd, ↓reduceIte, ↓ob_ite, ↓ob_asc, Bool.false_eq_true, Bool.true_eq_false, not_true_eq_false, not_false_eq_true, Nat.not_lt_zero, Nat.le_zero_eq, Nat.reduceAdd, Nat.reduceMul, Nat.reduceSub, Nat.reduceEqDiff, Nat.reduceLT, Nat.reduceLeDiff, sC_def, sR_def, sC_1, sC_2, sR_1, sR_2, sC_st, sR_st, sR_no, sR_refuse, and_self, true_and, and_true, false_and, and_false, l_X0_leastEnding_21, hko, e3, hB, hk0, e4, e5, hj', i_add1]) (fun n x hR => by
      obtain ⟨x1, x2⟩ := x
      refine ⟨(x1, x2), ?_, hR⟩
      have hko : ¬ d_open D + 1 ≤ d_open D := by omega
      show l_X0_leastEnding_21 (n + 1) x2 P (Int32.ofNat (d_open D)) x1 (Int32.ofNat (d_open D + 1)) = _
      simp (maxSteps := 1000000) (disch := omega) only [ne_eq, i_lt0, i_le0, i_eq0, i_n1, i_ltl, i_lel, i_eql, i_lt, i_le, i_eq, i_in, i_tn, i_add, i_addl, i_addr, i_mul, i_mulr, i_mull, if_true, if_false, eq_self, decide_eq_true_eq, decide_true, decide_false, Option.bind_some, Option.bind_none, ↓fu_ltd, ↓reduceIte, ↓ob_ite, ↓ob_asc, Bool.false_eq_true, Bool.true_eq_false, not_true_eq_false, not_false_eq_true, Nat.not_lt_zero, Nat.le_zero_eq, Nat.reduceAdd, Nat.reduceMul, Nat.reduceSub, Nat.reduceEqDiff, Nat.reduceLT, Nat.reduceLeDiff, sC_def, sR_def, sC_1, sC_2, sR_1, sR_2, sC_st, sR_st, sR_no, sR_refuse, and_self, true_and, and_true, false_and, and_false, l_X0_leastEnding_21, hko]) (f := fu_N) (k := 0) (x := (Int32.ofNat (d_open D), s)) (by omega) (fu_N_gt (by omega)) ⟨rfl, .inl rfl⟩
  obtain ⟨r1, r2⟩ := r
  obtain ⟨q1, q2⟩ := hQ
  dsimp only at q1 q2
  subst q1
  refine ⟨r2, ?_, q2⟩
  have hr' : l_X0_leastEnding_21 fu_N s P (Int32.ofNat (d_open D)) (Int32.ofNat (d_open D)) 0 = _ := hr
  have c5 := h.1.2.2.2.2.2
  unfold f_X0_leastEnding
  rw [e0]
  show Option.bind (l_X0_leastEnding_21 fu_N s P ((Int32.ofNat (d_set (fun t => decide (D 11 t ≠ 0)) (D 0 5)) ^^^ -1) &&& ((1 : Int32) <<< (f_X4_things s P &&& 31) - 1)) ((Int32.ofNat (d_set (fun t => decide (D 11 t ≠ 0)) (D 0 5)) ^^^ -1) &&& ((1 : Int32) <<< (f_X4_things s P &&& 31) - 1)) 0) _ = _
  rw [show f_X4_things s P = Int32.ofNat (D 0 5) from c5, hop, hr']
  rfl
theorem r_least (h : dR s 0 D) (hv : dV D) : ∃ u, f_X12_endings s = some (Int32.ofNat (d_lst D (d_open D + 1)), u) ∧ (u = s ∨ ∃ g, u = wri s 125 7 g) := by
  have hp4 := hv.1
  have ho := d_open_bd hv
  have hol := d_open_lt (D := D)
  have h8 : 2 ^ D 0 5 ≤ 2 ^ 8 := Nat.pow_le_pow_right (by omega) (by omega)
  have hfin := d_bst_fin hv (j := 2 ^ D 0 5 - (d_open D + 1)) (by omega)
  rw [show d_open D + 1 + (2 ^ D 0 5 - (d_open D + 1)) = 2 ^ D 0 5 by omega] at hfin
  obtain ⟨r, hr, hQ⟩ := lp_inv (l := fun f (σ : Int32 × fu_S) k => l_X12_endings_4 f σ.2 σ.1 (Int32.ofNat k)) (N := 2 ^ D 0 5) (fun k σ => σ.1 = e_b (d_bst D k) ∧ (σ.2 = s ∨ ∃ g, σ.2 = wri s 125 7 g)) (fun r => r.1 = e_b (d_bst D (2 ^ D 0 5)) ∧ (r.2 = s ∨ ∃ g, r.2 = wri s 125 7 g)) (fun n k x hk hR => by
      obtain ⟨x1, x2⟩ := x
      obtain ⟨hx, hu⟩ := hR
      dsimp only at hx hu
      subst hx
      have hC : dR x2 0 D := by
        rcases hu with rfl | ⟨g, rfl⟩
        · exact h
        · exact dR_w (by omega) hv h
      have c5 := (dR_0 hC).1.2.2.1
      have e0 := r_things1 hC hv
      have hin := d_in_scr hv hk
      have e1 := r_drawN (W := k) hC hv (by omega)
      rw [ex_w hu] at e1
      have e2 := r_short (s := wri s 125 7 (fun r => Int32.ofNat (d_need D k r))) (T := d_need D k) (m := D 0 4) (by omega) (by rw [wri_n (by omega)]; exact (dR_0 h).1.2.1) (fun q _ => d_need_lt hv) (fun r hr => wri_r hr)
      rw [show d_sh (d_rg (d_need D k)) (D 0 4) = d_short D k from rfl] at e2
      have hsl := d_short_le (D := D) (W := k)
      have hz : (e_n (d_short D k) < 0) ↔ d_short D k = 0 := e_neg (by omega)
      have hble := d_bst_le (D := D) (k := k)
      have e4 := r_sizeOf (a := k) (by omega)
      have e5 := r_sizeOf (a := d_bst D k - 1) (by omega)
      have hp1 := d_pop_le (a := k)
      have hp2 := d_pop_le (a := d_bst D k - 1)
      have hb0 : (e_b (d_bst D k) < 0) ↔ d_bst D k = 0 := e_b_neg (by omega)
      have hs : d_bst D (k + 1) = if d_in D k = true ∧ (d_bst D k = 0 ∨ d_pop k < d_pop (d_bst D k - 1)) ∧ d_short D k = 0 then k + 1 else d_bst D k := rfl
      have hbe : d_bst D k ≠ 0 → e_b (d_bst D k) = Int32.ofNat (d_bst D k - 1) := fun z => if_neg z
      simp only [d_in, decide_eq_true_eq] at hs
      have hal : k &&& d_set (fun t => decide (D 11 t ≠ 0)) (D 0 5) ≤ k := Nat.and_le_left
      have hkk : k < 2147483648 := by omega
      generalize hL : d_bst D k = L at *
      generalize hBB : d_nb k (d_open D) = B at *
      generalize hS : d_short D k = S at *
      show ∃ y : Int32 × fu_S, l_X12_endings_4 (n + 1) x2 (e_b L) (Int32.ofNat k) = l_X12_endings_4 n y.2 y.1 (Int32.ofNat (k + 1)) ∧ y.1 = e_b (d_bst D (k + 1)) ∧ (y.2 = s ∨ ∃ g, y.2 = wri s 125 7 g)
      generalize hA : d_set (fun t => decide (D 11 t ≠ 0)) (D 0 5) = A at *
      have h5 : D 0 5 < 31 := by omega
      have hN : 2 ^ D 0 5 < 2147483648 := by omega
      by_cases hB : B = 0
      · have ha : k &&& A = 0 := hin.mpr hB
        by_cases hL0 : L = 0
        · have hbt := hb0.mpr hL0
          by_cases h0 : S = 0
          · rw [if_pos ⟨hB, .inl hL0, h0⟩] at hs
            have hzt := hz.mpr h0
            refine ⟨(Int32.ofNat k, wri s 125 7 (fun r => Int32.ofNat (d_need D k r))), ?_, by rw [hs]; rfl, .inr ⟨_, rfl⟩⟩
            simp (maxSteps := 1000000) (disch := omega) only [ne_eq, i_lt0, i_le0, i_eq0, i_n1, i_ltl, i_lel, i_eql, i_lt, i_le, i_eq, i_in, i_tn, i_add, i_addl, i_addr, i_mul, i_mulr, i_mull, if_true, if_false, eq_self, decide_eq_true_eq, decide_true, decide_false, Option.bind_some, Option.bind_none, ↓fu_ltd, ↓reduceIte, ↓ob_ite, ↓ob_asc, Bool.false_eq_true, Bool.true_eq_false, not_true_eq_false, not_false_eq_true, Nat.not_lt_zero, Nat.le_zero_eq, Nat.reduceAdd, Nat.reduceMul, Nat.reduceSub, Nat.reduceEqDiff, Nat.reduceLT, Nat.reduceLeDiff, sC_def, sR_def, sC_1, sC_2, sR_1, sR_2, sC_st, sR_st, sR_no, sR_refuse, and_self, true_and, and_true, false_and, and_false, l_X12_endings_4, c5, i_shl, hk, e0, i_and, ha, hbt, e1, e2, hzt, i_add1]
          · rw [if_neg (fun z => h0 z.2.2)] at hs
            have hzt : ¬ _ := fun w => h0 (hz.mp w)
            refine ⟨(e_b L, wri s 125 7 (fun r => Int32.ofNat (d_need D k r))), ?_, by rw [hs], .inr ⟨_, rfl⟩⟩
            simp (maxSteps := 1000000) (disch := omega) only [ne_eq, i_lt0, i_le0, i_eq0, i_n1, i_ltl, i_lel, i_eql, i_lt, i_le, i_eq, i_in, i_tn, i_add, i_addl, i_addr, i_mul, i_mulr, i_mull, if_true, if_false, eq_self, decide_eq_true_eq, decide_true, decide_false, Option.bind_some, Option.bind_none, ↓fu_ltd, ↓reduceIte, ↓ob_ite, ↓ob_asc, Bool.false_eq_true, Bool.true_eq_false, not_true_eq_false, not_false_eq_true, Nat.not_lt_zero, Nat.le_zero_eq, Nat.reduceAdd, Nat.reduceMul, Nat.reduceSub, Nat.reduceEqDiff, Nat.reduceLT, Nat.reduceLeDiff, sC_def, sR_def, sC_1, sC_2, sR_1, sR_2, sC_st, sR_st, sR_no, sR_refuse, and_self, true_and, and_true, false_and, and_false, l_X12_endings_4, c5, i_shl, hk, e0, i_and, ha, hbt, e1, e2, hzt, i_add1]
        · have hbe' := hbe hL0
          by_cases hp : d_pop k < d_pop (L - 1)
          · by_cases h0 : S = 0
            · rw [if_pos ⟨hB, .inr hp, h0⟩] at hs
              have hzt := hz.mpr h0
              refine ⟨(Int32.ofNat k, wri s 125 7 (fun r => Int32.ofNat (d_need D k r))), ?_, by rw [hs]; rfl, .inr ⟨_, rfl⟩⟩
              rw [hbe'] at hb0 ⊢
              simp (maxSteps := 1000000) (disch := omega) only [ne_eq, i_lt0, i_le0, i_eq0, i_n1, i_ltl, i_lel, i_eql, i_lt, i_le, i_eq, i_in, i_tn, i_add, i_addl, i_addr, i_mul, i_mulr, i_mull, if_true, if_false, eq_self, decide_eq_true_eq, decide_true, decide_false, Option.bind_some, Option.bind_none, ↓fu_ltd, ↓reduceIte, ↓ob_ite, ↓ob_asc, Bool.false_eq_true, Bool.true_eq_false, not_true_eq_false, not_false_eq_true, Nat.not_lt_zero, Nat.le_zero_eq, Nat.reduceAdd, Nat.reduceMul, Nat.reduceSub, Nat.reduceEqDiff, Nat.reduceLT, Nat.reduceLeDiff, sC_def, sR_def, sC_1, sC_2, sR_1, sR_2, sC_st, sR_st, sR_no, sR_refuse, and_self, true_and, and_true, false_and, and_false, l_X12_endings_4, c5, i_shl, hk, e0, i_and, ha, e4, e5, hp, e1, e2, hzt, i_add1]
            · rw [if_neg (fun z => h0 z.2.2)] at hs
              have hzt : ¬ _ := fun w => h0 (hz.mp w)
              refine ⟨(e_b L, wri s 125 7 (fun r => Int32.ofNat (d_need D k r))), ?_, by rw [hs], .inr ⟨_, rfl⟩⟩
              rw [hbe'] at hb0 ⊢
              simp (maxSteps := 1000000) (disch := omega) only [ne_eq, i_lt0, i_le0, i_eq0, i_n1, i_ltl, i_lel, i_eql, i_lt, i_le, i_eq, i_in, i_tn, i_add, i_addl, i_addr, i_mul, i_mulr, i_mull, if_true, if_false, eq_self, decide_eq_true_eq, decide_true, decide_false, Option.bind_some, Option.bind_none, ↓fu_ltd, ↓reduceIte, ↓ob_ite, ↓ob_asc, Bool.false_eq_true, Bool.true_eq_false, not_true_eq_false, not_false_eq_true, Nat.not_lt_zero, Nat.le_zero_eq, Nat.reduceAdd, Nat.reduceMul, Nat.reduceSub, Nat.reduceEqDiff, Nat.reduceLT, Nat.reduceLeDiff, sC_def, sR_def, sC_1, sC_2, sR_1, sR_2, sC_st, sR_st, sR_no, sR_refuse, and_self, true_and, and_true, false_and, and_false, l_X12_endings_4, c5, i_shl, hk, e0, i_and, ha, e4, e5, hp, e1, e2, hzt, i_add1]
          · rw [if_neg (fun z => z.2.1.elim hL0 hp)] at hs
            refine ⟨(e_b L, x2), ?_, by rw [hs], hu⟩
            rw [hbe'] at hb0 ⊢
            simp (maxSteps := 1000000) (disch := omega) only [ne_eq, i_lt0, i_le0, i_eq0, i_n1, i_ltl, i_lel, i_eql, i_lt, i_le, i_eq, i_in, i_tn, i_add, i_addl, i_addr, i_mul, i_mulr, i_mull, if_true, if_false, eq_self, decide_eq_true_eq, decide_true, decide_false, Option.bind_some, Option.bind_none, ↓fu_ltd, ↓reduceIte, ↓ob_ite, ↓ob_asc, Bool.false_eq_true, Bool.true_eq_false, not_true_eq_false, not_false_eq_true, Nat.not_lt_zero, Nat.le_zero_eq, Nat.reduceAdd, Nat.reduceMul, Nat.reduceSub, Nat.reduceEqDiff, Nat.reduceLT, Nat.reduceLeDiff, sC_def, sR_def, sC_1, sC_2, sR_1, sR_2, sC_st, sR_st, sR_no, sR_refuse, and_self, true_and, and_true, false_and, and_false, l_X12_endings_4, c5, i_shl, hk, e0, i_and, ha, e4, e5, hp, i_add1]
      · have ha : ¬ k &&& A = 0 := fun z => hB (hin.mp z)
        rw [if_neg (fun z => hB z.1)] at hs
        refine ⟨(e_b L, x2), ?_, by rw [hs], hu⟩
        simp (maxSteps := 1000000) (disch := omega) only [ne_eq, i_lt0, i_le0, i_eq0, i_n1, i_ltl, i_lel, i_eql, i_lt, i_le, i_eq, i_in, i_tn, i_add, i_addl, i_addr, i_mul, i_mulr, i_mull, if_true, if_false, eq_self, decide_eq_true_eq, decide_true, decide_false, Option.bind_some, Option.bind_none, ↓fu_ltd, ↓reduceIte, ↓ob_ite, ↓ob_asc, Bool.false_eq_true, Bool.true_eq_false, not_true_eq_false, not_false_eq_true, Nat.not_lt_zero, Nat.le_zero_eq, Nat.reduceAdd, Nat.reduceMul, Nat.reduceSub, Nat.reduceEqDiff, Nat.reduceLT, Nat.reduceLeDiff, sC_def, sR_def, sC_1, sC_2, sR_1, sR_2, sC_st, sR_st, sR_no, sR_refuse, and_self, true_and, and_true, false_and, and_false, l_X12_endings_4, c5, i_shl, hk, e0, i_and, ha, i_add1]) (fun n x hR => by
      obtain ⟨x1, x2⟩ := x
      refine ⟨(x1, x2), ?_, hR⟩
      obtain ⟨hx, hu⟩ := hR
      dsimp only at hx hu
      have hC : dR x2 0 D := by
        rcases hu with rfl | ⟨g, rfl⟩
        · exact h
        · exact dR_w (by omega) hv h
      have c5 := (dR_0 hC).1.2.2.1
      have hN : 2 ^ D 0 5 < 2147483648 := by omega
      show l_X12_endings_4 (n + 1) x2 x1 (Int32.ofNat (2 ^ D 0 5)) = _
      simp (maxSteps := 1000000) (disch := omega) only [ne_eq, i_lt0, i_le0, i_eq0, i_n1, i_ltl, i_lel, i_eql, i_lt, i_le, i_eq, i_in, i_tn, i_add, i_addl, i_addr, i_mul, i_mulr, i_mull, if_true, if_false, eq_self, decide_eq_true_eq, decide_true, decide_false, Option.bind_some, Option.bind_none, ↓fu_ltd, ↓reduceIte, ↓ob_ite, ↓ob_asc, Bool.false_eq_true, Bool.true_eq_false, not_true_eq_false, not_false_eq_true, Nat.not_lt_zero, Nat.le_zero_eq, Nat.reduceAdd, Nat.reduceMul, Nat.reduceSub, Nat.reduceEqDiff, Nat.reduceLT, Nat.reduceLeDiff, sC_def, sR_def, sC_1, sC_2, sR_1, sR_2, sC_st, sR_st, sR_no, sR_refuse, and_self, true_and, and_true, false_and, and_false, l_X12_endings_4, c5, i_shl, Nat.lt_irrefl]) (f := fu_N) (k := 0) (x := (-1, s)) (by omega) (fu_N_gt (by omega)) ⟨rfl, .inl rfl⟩
  obtain ⟨r1, r2⟩ := r
  obtain ⟨q1, q2⟩ := hQ
  dsimp only at q1 q2
  rw [hfin] at q1
  have q1' : r1 = Int32.ofNat (d_lst D (d_open D + 1)) := q1
  subst q1'
  refine ⟨r2, ?_, q2⟩
  have hr' : l_X12_endings_4 fu_N s (-1) 0 = _ := hr
  simp (maxSteps := 1000000) (disch := omega) only [ne_eq, i_lt0, i_le0, i_eq0, i_n1, i_ltl, i_lel, i_eql, i_lt, i_le, i_eq, i_in, i_tn, i_add, i_addl, i_addr, i_mul, i_mulr, i_mull, if_true, if_false, eq_self, decide_eq_true_eq, decide_true, decide_false, Option.bind_some, Option.bind_none, ↓fu_ltd, ↓reduceIte, ↓ob_ite, ↓ob_asc, Bool.false_eq_true, Bool.true_eq_false, not_true_eq_false, not_false_eq_true, Nat.not_lt_zero, Nat.le_zero_eq, Nat.reduceAdd, Nat.reduceMul, Nat.reduceSub, Nat.reduceEqDiff, Nat.reduceLT, Nat.reduceLeDiff, sC_def, sR_def, sC_1, sC_2, sR_1, sR_2, sC_st, sR_st, sR_no, sR_refuse, and_self, true_and, and_true, false_and, and_false, f_X12_endings, hr']
end EN2
theorem eqC_ex {s u : fu_S} (h : u = s ∨ ∃ g, u = wri s 115 7 g) : eqC s u := by
  rcases h with rfl | ⟨g, rfl⟩
  · exact eqC_rf
  · exact eqC_w (by omega)
theorem eqR_ex {s u : fu_S} (h : u = s ∨ ∃ g, u = wri s 125 7 g) : eqR s u := by
  rcases h with rfl | ⟨g, rfl⟩
  · exact eqR_rf
  · exact eqR_w (by omega)
theorem ex_st {s u : fu_S} {P a q : Nat} (hP : a ≠ P) (h : u = s ∨ ∃ g, u = wri s P 7 g) : u.1 a q = s.1 a q := by
  rcases h with rfl | ⟨g, rfl⟩
  · rfl
  · rw [wri_n hP]
theorem hd_30 : lw_E_30 dI := by
  intro s1 s2 hI
  obtain ⟨D, hv, hC, hR, -⟩ := dI_D hI
  obtain ⟨u, e1, e2⟩ := c_least (dC_s (x := 0) (by omega : (11 : Nat) ≠ 0) hC) hv (by omega)
  obtain ⟨w, e3, e4⟩ := r_least (dR_s (x := 0) hv hR) hv
  have hl := d_lst_bd (D := D) (k := d_open D + 1) hv (by have := d_open_bd hv; omega)
  have e5 := c_bits (a := d_lst D (d_open D + 1)) (by omega)
  have e6 := r_sizeOf (a := d_lst D (d_open D + 1)) (by omega)
  refine ⟨Int32.ofNat (d_pop (d_lst D (d_open D + 1))), u, w, ?_, ?_, dI_eq hI (eqC_tr eqC_sC (eqC_ex e2)) (eqR_tr eqR_sR (eqR_ex e4)) ?_⟩
  · simp (maxSteps := 1000000) (disch := omega) only [ne_eq, i_lt0, i_le0, i_eq0, i_n1, i_ltl, i_lel, i_eql, i_lt, i_le, i_eq, i_in, i_tn, i_add, i_addl, i_addr, i_mul, i_mulr, i_mull, if_true, if_false, eq_self, decide_eq_true_eq, decide_true, decide_false, Option.bind_some, Option.bind_none, ↓fu_ltd, ↓reduceIte, ↓ob_ite, ↓ob_asc, Bool.false_eq_true, Bool.true_eq_false, not_true_eq_false, not_false_eq_true, Nat.not_lt_zero, Nat.le_zero_eq, Nat.reduceAdd, Nat.reduceMul, Nat.reduceSub, Nat.reduceEqDiff, Nat.reduceLT, Nat.reduceLeDiff, sC_def, sR_def, sC_1, sC_2, sR_1, sR_2, sC_st, sR_st, sR_no, sR_refuse, and_self, true_and, and_true, false_and, and_false, f_X11_ending, e1, e5]
  · simp (maxSteps := 1000000) (disch := omega) only [ne_eq, i_lt0, i_le0, i_eq0, i_n1, i_ltl, i_lel, i_eql, i_lt, i_le, i_eq, i_in, i_tn, i_add, i_addl, i_addr, i_mul, i_mulr, i_mull, if_true, if_false, eq_self, decide_eq_true_eq, decide_true, decide_false, Option.bind_some, Option.bind_none, ↓fu_ltd, ↓reduceIte, ↓ob_ite, ↓ob_asc, Bool.false_eq_true, Bool.true_eq_false, not_true_eq_false, not_false_eq_true, Nat.not_lt_zero, Nat.le_zero_eq, Nat.reduceAdd, Nat.reduceMul, Nat.reduceSub, Nat.reduceEqDiff, Nat.reduceLT, Nat.reduceLeDiff, sC_def, sR_def, sC_1, sC_2, sR_1, sR_2, sC_st, sR_st, sR_no, sR_refuse, and_self, true_and, and_true, false_and, and_false, f_X12_ending, e3, e6]
  · rw [ex_st (by omega) e2, ex_st (by omega) e4, sC_st, sR_st]
theorem hd_31 : lw_E_31 dI := by
  intro s1 s2 hI
  obtain ⟨D, hv, hC, hR, -⟩ := dI_D hI
  obtain ⟨u, e1, e2⟩ := c_least (dC_s (x := 0) (by omega : (11 : Nat) ≠ 0) hC) hv (by omega)
  obtain ⟨w, e3, e4⟩ := r_least (dR_s (x := 0) hv hR) hv
  refine ⟨Int32.ofNat (d_lst D (d_open D + 1)), u, w, ?_, ?_, dI_eq hI (eqC_tr eqC_sC (eqC_ex e2)) (eqR_tr eqR_sR (eqR_ex e4)) ?_⟩
  · simp (maxSteps := 1000000) (disch := omega) only [ne_eq, i_lt0, i_le0, i_eq0, i_n1, i_ltl, i_lel, i_eql, i_lt, i_le, i_eq, i_in, i_tn, i_add, i_addl, i_addr, i_mul, i_mulr, i_mull, if_true, if_false, eq_self, decide_eq_true_eq, decide_true, decide_false, Option.bind_some, Option.bind_none, ↓fu_ltd, ↓reduceIte, ↓ob_ite, ↓ob_asc, Bool.false_eq_true, Bool.true_eq_false, not_true_eq_false, not_false_eq_true, Nat.not_lt_zero, Nat.le_zero_eq, Nat.reduceAdd, Nat.reduceMul, Nat.reduceSub, Nat.reduceEqDiff, Nat.reduceLT, Nat.reduceLeDiff, sC_def, sR_def, sC_1, sC_2, sR_1, sR_2, sC_st, sR_st, sR_no, sR_refuse, and_self, true_and, and_true, false_and, and_false, f_X11_endingSet, e1]
  · simp (maxSteps := 1000000) (disch := omega) only [ne_eq, i_lt0, i_le0, i_eq0, i_n1, i_ltl, i_lel, i_eql, i_lt, i_le, i_eq, i_in, i_tn, i_add, i_addl, i_addr, i_mul, i_mulr, i_mull, if_true, if_false, eq_self, decide_eq_true_eq, decide_true, decide_false, Option.bind_some, Option.bind_none, ↓fu_ltd, ↓reduceIte, ↓ob_ite, ↓ob_asc, Bool.false_eq_true, Bool.true_eq_false, not_true_eq_false, not_false_eq_true, Nat.not_lt_zero, Nat.le_zero_eq, Nat.reduceAdd, Nat.reduceMul, Nat.reduceSub, Nat.reduceEqDiff, Nat.reduceLT, Nat.reduceLeDiff, sC_def, sR_def, sC_1, sC_2, sR_1, sR_2, sC_st, sR_st, sR_no, sR_refuse, and_self, true_and, and_true, false_and, and_false, f_X12_endingSet, e3]
  · rw [ex_st (by omega) e2, ex_st (by omega) e4, sC_st, sR_st]
