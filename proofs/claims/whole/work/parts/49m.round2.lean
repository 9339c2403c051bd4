/-! rounds: the class -/
def wrm (av : Nat → Nat) (s : fu_S) (m j : Nat) : fu_S := (fun a r => if a = 113 ∧ r < 1024 ∧ (m * 128 ≤ r ∨ (m * 128 ≤ r + 128 ∧ r + 128 < m * 128 + j)) then Int32.ofNat (d_v av (8 - r / 128) (r % 128)) else s.1 a r, s.2)
section WRM
variable {s : fu_S} {av : Nat → Nat} {t u m j k B P p w : Nat}
theorem wrm_n {a : Nat} (h : a ≠ 113) : (wrm av s m j).1 a = s.1 a := by
  funext r
  exact if_neg (fun z => h z.1)
theorem wrm_t (h : 1024 ≤ k) : (wrm av s m j).1 113 k = s.1 113 k := if_neg (fun z => by omega)
theorem wrm_r (hm : ∀ i, 1024 ≤ i → i < 1152 → s.1 113 i = 0) (ht : m ≤ u + 1) (hu : u < 8) (hB : B < 128) : (wrm av s m j).1 113 ((u + 1) * 128 + B) = Int32.ofNat (d_v av (7 - u) B) := by
  by_cases h : u = 7
  · subst h
    rw [wrm_t (by omega), hm _ (by omega) (by omega)]
    rfl
  · unfold wrm
    dsimp only
    rw [if_pos ⟨rfl, by omega, .inl (by omega)⟩, show 8 - ((u + 1) * 128 + B) / 128 = 7 - u by omega, show ((u + 1) * 128 + B) % 128 = B by omega]
theorem wrm_s (ht : t < 8) (hk : k < 128) : fu_pi (wrm av s (t + 1) k) 113 (t * 128 + k) (Int32.ofNat (d_v av (8 - t) k)) = wrm av s (t + 1) (k + 1) := by
  refine Prod.ext ?_ rfl
  funext a r
  show (if a = 113 ∧ r = t * 128 + k then Int32.ofNat (d_v av (8 - t) k) else (if a = 113 ∧ r < 1024 ∧ ((t + 1) * 128 ≤ r ∨ ((t + 1) * 128 ≤ r + 128 ∧ r + 128 < (t + 1) * 128 + k)) then Int32.ofNat (d_v av (8 - r / 128) (r % 128)) else s.1 a r)) = (if a = 113 ∧ r < 1024 ∧ ((t + 1) * 128 ≤ r ∨ ((t + 1) * 128 ≤ r + 128 ∧ r + 128 < (t + 1) * 128 + (k + 1))) then Int32.ofNat (d_v av (8 - r / 128) (r % 128)) else s.1 a r)
  by_cases h1 : a = 113 ∧ r = t * 128 + k
  · rw [if_pos h1, if_pos ⟨h1.1, by omega, by omega⟩, show 8 - r / 128 = 8 - t by omega, show r % 128 = k by omega]
  · rw [if_neg h1]
    by_cases h2 : a = 113 ∧ r < 1024 ∧ ((t + 1) * 128 ≤ r ∨ ((t + 1) * 128 ≤ r + 128 ∧ r + 128 < (t + 1) * 128 + k))
    · rw [if_pos h2, if_pos ⟨h2.1, h2.2.1, by omega⟩]
    · rw [if_neg h2, if_neg (fun z => by omega)]
theorem wrm_e : wrm av s (t + 1) 128 = wrm av s t 0 := by
  refine Prod.ext ?_ rfl
  funext a r
  unfold wrm
  dsimp only
  by_cases h2 : a = 113 ∧ r < 1024 ∧ ((t + 1) * 128 ≤ r ∨ ((t + 1) * 128 ≤ r + 128 ∧ r + 128 < (t + 1) * 128 + 128))
  · rw [if_pos h2, if_pos ⟨h2.1, h2.2.1, by omega⟩]
  · rw [if_neg h2, if_neg (fun z => by omega)]
theorem wrm_0 : wrm av s 8 0 = s := by
  refine Prod.ext ?_ rfl
  funext a r
  exact if_neg (fun z => by omega)
/-- what the class's tables hold -/
def tbM (av : Nat → Nat) (s : fu_S) (m : Nat) : Prop := (∀ t, t < 8 → s.1 111 t = Int32.ofNat (av t)) ∧ ∀ u B, m ≤ u + 1 → u < 8 → B < 128 → s.1 113 ((u + 1) * 128 + B) = Int32.ofNat (d_v av (7 - u) B)
theorem c_mostB (h : tbM av s m) (hm : m ≤ u + 1) (hu : u < 8) (hB : B < 128) : f_X10_mostBehind s (Int32.ofNat u) (Int32.ofNat B) = some (Int32.ofNat (d_v av (7 - u) B)) := by
  have e := h.2 u B hm hu hB
  have m1 : (u + 1) * 128 + B < 1152 := by omega
  simp (maxSteps := 1000000) (disch := omega) only [ne_eq, i_lt0, i_le0, i_eq0, i_n1, i_ltl, i_lel, i_eql, i_lt, i_le, i_eq, i_in, i_tn, i_add, i_addl, i_addr, i_mul, i_mulr, i_mull, if_true, if_false, eq_self, decide_eq_true_eq, decide_true, decide_false, Option.bind_some, Option.bind_none, ↓fu_ltd, ↓reduceIte, ↓ob_ite, ↓ob_asc, Bool.false_eq_true, Bool.true_eq_false, not_true_eq_false, not_false_eq_true, Nat.not_lt_zero, Nat.le_zero_eq, Nat.reduceAdd, Nat.reduceMul, Nat.reduceSub, Nat.reduceEqDiff, Nat.reduceLT, Nat.reduceLeDiff, sC_def, sR_def, sC_1, sC_2, sR_1, sR_2, sC_st, sR_st, sR_no, sR_refuse, and_self, true_and, and_true, false_and, and_false, f_X10_mostBehind, hu, hB, m1, i_add1, e]
theorem c_mostF (h : tbM av s m) (hav : ∀ t, av t < 128) (hN : ∀ t, 8 ≤ t → av t = 0) (hm : m ≤ u + 1) (hu : u < 8) (hB : B < 128) : f_X10_mostFrom s (Int32.ofNat u) (Int32.ofNat B) = some (Int32.ofNat (d_v av (8 - u) B)) := by
  have e1 := c_mostB h hm hu hB
  have e2 := h.1 u hu
  have hA := hav u
  have e3 : Int32.ofNat (av u) &&& (Int32.ofNat B ^^^ -1) = Int32.ofNat (d_nb (av u) B) := i_nand
  have hle : d_nb (av u) B ≤ av u := d_nb_le
  have hcd : ∀ p, p < 7 → (d_nb (av u) B).testBit p = d_cd av u B p := fun p hp => d_nb_bit (by omega)
  have hvl : ∀ j B, j ≤ 8 → d_v av j B ≤ 8 - (8 - j) := fun j B hj => d_v_le hN (by omega) hj
  have hL : l_X10_mostFrom_22 fu_N s (Int32.ofNat u) (Int32.ofNat B) (Int32.ofNat (d_v av (7 - u) B)) (Int32.ofNat (d_nb (av u) B)) 0 = some (Int32.ofNat (d_v av (8 - u) B)) := by
    rw [d_v_s hu]
    by_cases h0 : d_nb (av u) B = 0
    · have z : d_mf (d_vp av u B) (d_v av (7 - u) B) 7 = d_v av (7 - u) B := by
        have hz : ∀ k, k < 7 → d_vp av u B k = 0 := fun k hk => by
          unfold d_vp
          rw [← hcd k hk, h0, Nat.zero_testBit]
          rfl
        exact Nat.le_antisymm (d_mf_le (fun k hk => by rw [hz k hk]; exact Nat.zero_le _) (Nat.le_refl _)) d_mf_b
      rw [z, h0, show fu_N = 4095 + 1 from rfl]
      simp (maxSteps := 1000000) (disch := omega) only [ne_eq, i_lt0, i_le0, i_eq0, i_n1, i_ltl, i_lel, i_eql, i_lt, i_le, i_eq, i_in, i_tn, i_add, i_addl, i_addr, i_mul, i_mulr, i_mull, if_true, if_false, eq_self, decide_eq_true_eq, decide_true, decide_false, Option.bind_some, Option.bind_none, ↓fu_ltd, ↓reduceIte, ↓ob_ite, ↓ob_asc, Bool.false_eq_true, Bool.true_eq_false, not_true_eq_false, not_false_eq_true, Nat.not_lt_zero, Nat.le_zero_eq, Nat.reduceAdd, Nat.reduceMul, Nat.reduceSub, Nat.reduceEqDiff, Nat.reduceLT, Nat.reduceLeDiff, sC_def, sR_def, sC_1, sC_2, sR_1, sR_2, sC_st, sR_st, sR_no, sR_refuse, and_self, true_and, and_true, false_and, and_false, l_X10_mostFrom_22]
      exact if_pos (by decide)
    · exact lp_up (l := fun f σ k => l_X10_mostFrom_22 f s (Int32.ofNat u) (Int32.ofNat B) σ (Int32.ofNat (d_nb (av u) B)) (Int32.ofNat k)) (N := 7) (S := fun k => Int32.ofNat (d_mf (d_vp av u B) (d_v av (7 - u) B) k)) (r := Int32.ofNat (d_mf (d_vp av u B) (d_v av (7 - u) B) 7)) (fun n k hk => by
        have hk31 : k < 31 := by omega
        have b1 := hcd k hk
        have hor : B ||| 2 ^ k < 128 := Nat.or_lt_two_pow (n := 7) hB (Nat.pow_lt_pow_right (by omega) hk)
        have e5 := c_mostB h hm hu hor
        have q1 := hvl (7 - u) (B ||| 2 ^ k) (by omega)
        have q2 : d_mf (d_vp av u B) (d_v av (7 - u) B) k ≤ 9 := d_mf_le (fun p _ => by
          unfold d_vp
          have := hvl (7 - u) (B ||| 2 ^ p) (by omega)
          split <;> omega) (by have := hvl (7 - u) B (by omega); omega)
        have q3 : d_mf (d_vp av u B) (d_v av (7 - u) B) (k + 1) = max (d_mf (d_vp av u B) (d_v av (7 - u) B) k) (d_vp av u B k) := rfl
        show l_X10_mostFrom_22 (n + 1) s (Int32.ofNat u) (Int32.ofNat B) (Int32.ofNat (d_mf (d_vp av u B) (d_v av (7 - u) B) k)) (Int32.ofNat (d_nb (av u) B)) (Int32.ofNat k) = l_X10_mostFrom_22 n s (Int32.ofNat u) (Int32.ofNat B) (Int32.ofNat (d_mf (d_vp av u B) (d_v av (7 - u) B) (k + 1))) (Int32.ofNat (d_nb (av u) B)) (Int32.ofNat (k + 1))
        rw [q3]
        unfold d_vp at q2 ⊢
        generalize d_mf _ _ k = M at *
        generalize d_nb (av u) B = A at *
        cases hc : d_cd av u B k
        · rw [hc] at b1
          simp (maxSteps := 1000000) (disch := omega) only [ne_eq, i_lt0, i_le0, i_eq0, i_n1, i_ltl, i_lel, i_eql, i_lt, i_le, i_eq, i_in, i_tn, i_add, i_addl, i_addr, i_mul, i_mulr, i_mull, if_true, if_false, eq_self, decide_eq_true_eq, decide_true, decide_false, Option.bind_some, Option.bind_none, ↓fu_ltd, ↓reduceIte, ↓ob_ite, ↓ob_asc, Bool.false_eq_true, Bool.true_eq_false, not_true_eq_false, not_false_eq_true, Nat.not_lt_zero, Nat.le_zero_eq, Nat.reduceAdd, Nat.reduceMul, Nat.reduceSub, Nat.reduceEqDiff, Nat.reduceLT, Nat.reduceLeDiff, sC_def, sR_def, sC_1, sC_2, sR_1, sR_2, sC_st, sR_st, sR_no, sR_refuse, and_self, true_and, and_true, false_and, and_false, l_X10_mostFrom_22, hk, h0, i_bit0, b1, i_add1, Nat.max_zero]
        · rw [hc] at b1
          have e6 := i_mx (a := M) (b := 1 + d_v av (7 - u) (B ||| 2 ^ k)) (by omega) (by omega)
          generalize d_v av (7 - u) (B ||| 2 ^ k) = V at *
          simp (maxSteps := 1000000) (disch := omega) only [ne_eq, i_lt0, i_le0, i_eq0, i_n1, i_ltl, i_lel, i_eql, i_lt, i_le, i_eq, i_in, i_tn, i_add, i_addl, i_addr, i_mul, i_mulr, i_mull, if_true, if_false, eq_self, decide_eq_true_eq, decide_true, decide_false, Option.bind_some, Option.bind_none, ↓fu_ltd, ↓reduceIte, ↓ob_ite, ↓ob_asc, Bool.false_eq_true, Bool.true_eq_false, not_true_eq_false, not_false_eq_true, Nat.not_lt_zero, Nat.le_zero_eq, Nat.reduceAdd, Nat.reduceMul, Nat.reduceSub, Nat.reduceEqDiff, Nat.reduceLT, Nat.reduceLeDiff, sC_def, sR_def, sC_1, sC_2, sR_1, sR_2, sC_st, sR_st, sR_no, sR_refuse, and_self, true_and, and_true, false_and, and_false, l_X10_mostFrom_22, hk, h0, i_bit0, b1, i_shl, i_or, e5, i_add1, e6]) (fun n => by
        generalize d_mf _ _ 7 = M at *
        show l_X10_mostFrom_22 (n + 1) s (Int32.ofNat u) (Int32.ofNat B) (Int32.ofNat M) (Int32.ofNat (d_nb (av u) B)) (Int32.ofNat 7) = _
        simp (maxSteps := 1000000) (disch := omega) only [ne_eq, i_lt0, i_le0, i_eq0, i_n1, i_ltl, i_lel, i_eql, i_lt, i_le, i_eq, i_in, i_tn, i_add, i_addl, i_addr, i_mul, i_mulr, i_mull, if_true, if_false, eq_self, decide_eq_true_eq, decide_true, decide_false, Option.bind_some, Option.bind_none, ↓fu_ltd, ↓reduceIte, ↓ob_ite, ↓ob_asc, Bool.false_eq_true, Bool.true_eq_false, not_true_eq_false, not_false_eq_true, Nat.not_lt_zero, Nat.le_zero_eq, Nat.reduceAdd, Nat.reduceMul, Nat.reduceSub, Nat.reduceEqDiff, Nat.reduceLT, Nat.reduceLeDiff, sC_def, sR_def, sC_1, sC_2, sR_1, sR_2, sC_st, sR_st, sR_no, sR_refuse, and_self, true_and, and_true, false_and, and_false, l_X10_mostFrom_22, Nat.lt_irrefl]) (f := fu_N) (k := 0) (by omega) (fu_N_gt (by omega))
  generalize d_v av (7 - u) B = V at *
  simp (maxSteps := 1000000) (disch := omega) only [ne_eq, i_lt0, i_le0, i_eq0, i_n1, i_ltl, i_lel, i_eql, i_lt, i_le, i_eq, i_in, i_tn, i_add, i_addl, i_addr, i_mul, i_mulr, i_mull, if_true, if_false, eq_self, decide_eq_true_eq, decide_true, decide_false, Option.bind_some, Option.bind_none, ↓fu_ltd, ↓reduceIte, ↓ob_ite, ↓ob_asc, Bool.false_eq_true, Bool.true_eq_false, not_true_eq_false, not_false_eq_true, Nat.not_lt_zero, Nat.le_zero_eq, Nat.reduceAdd, Nat.reduceMul, Nat.reduceSub, Nat.reduceEqDiff, Nat.reduceLT, Nat.reduceLeDiff, sC_def, sR_def, sC_1, sC_2, sR_1, sR_2, sC_st, sR_st, sR_no, sR_refuse, and_self, true_and, and_true, false_and, and_false, f_X10_mostFrom, e1, hu, e2, e3, hL]
theorem c_bestW (h : tbM av s m) (hav : ∀ t, av t < 128) (hN : ∀ t, 8 ≤ t → av t = 0) (hm : m ≤ u + 1) (hu : u < 8) (hB : B < 128) : f_X10_bestWorker s (Int32.ofNat u) (Int32.ofNat B) = some (e_b (d_lo (d_wok av u B) 7)) := by
  have e1 := c_mostF h hav hN hm hu hB
  have e2 := h.1 u hu
  have hA := hav u
  have hvl : ∀ j B, j ≤ 8 → d_v av j B ≤ 8 - (8 - j) := fun j B hj => d_v_le hN (by omega) hj
  have q0 := hvl (8 - u) B (by omega)
  have step : ∀ n k, k < 7 → d_wok av u B k = false → l_X10_bestWorker_10 (n + 1) s (Int32.ofNat u) (Int32.ofNat B) (Int32.ofNat (d_v av (8 - u) B)) (Int32.ofNat k) = l_X10_bestWorker_10 n s (Int32.ofNat u) (Int32.ofNat B) (Int32.ofNat (d_v av (8 - u) B)) (Int32.ofNat (k + 1)) := fun n k hk hz => by
    have hk31 : k < 31 := by omega
    have hor : B ||| 2 ^ k < 128 := Nat.or_lt_two_pow (n := 7) hB (Nat.pow_lt_pow_right (by omega) hk)
    have e5 := c_mostB h hm hu hor
    have q1 := hvl (7 - u) (B ||| 2 ^ k) (by omega)
    unfold d_wok d_cd at hz
    generalize d_v av (7 - u) (B ||| 2 ^ k) = V at *
    generalize d_v av (8 - u) B = W at *
    cases b1 : (av u).testBit k
    · simp (maxSteps := 1000000) (disch := omega) only [ne_eq, i_lt0, i_le0, i_eq0, i_n1, i_ltl, i_lel, i_eql, i_lt, i_le, i_eq, i_in, i_tn, i_add, i_addl, i_addr, i_mul, i_mulr, i_mull, if_true, if_false, eq_self, decide_eq_true_eq, decide_true, decide_false, Option.bind_some, Option.bind_none, ↓fu_ltd, ↓reduceIte, ↓ob_ite, ↓ob_asc, Bool.false_eq_true, Bool.true_eq_false, not_true_eq_false, not_false_eq_true, Nat.not_lt_zero, Nat.le_zero_eq, Nat.reduceAdd, Nat.reduceMul, Nat.reduceSub, Nat.reduceEqDiff, Nat.reduceLT, Nat.reduceLeDiff, sC_def, sR_def, sC_1, sC_2, sR_1, sR_2, sC_st, sR_st, sR_no, sR_refuse, and_self, true_and, and_true, false_and, and_false, l_X10_bestWorker_10, hk, hu, e2, i_bit0, b1, i_add1]
    · cases b2 : B.testBit k
      · rw [b1, b2] at hz
        have hz' : ¬ 1 + V = W := by simpa using hz
        simp (maxSteps := 1000000) (disch := omega) only [ne_eq, i_lt0, i_le0, i_eq0, i_n1, i_ltl, i_lel, i_eql, i_lt, i_le, i_eq, i_in, i_tn, i_add, i_addl, i_addr, i_mul, i_mulr, i_mull, if_true, if_false, eq_self, decide_eq_true_eq, decide_true, decide_false, Option.bind_some, Option.bind_none, ↓fu_ltd, ↓reduceIte, ↓ob_ite, ↓ob_asc, Bool.false_eq_true, Bool.true_eq_false, not_true_eq_false, not_false_eq_true, Nat.not_lt_zero, Nat.le_zero_eq, Nat.reduceAdd, Nat.reduceMul, Nat.reduceSub, Nat.reduceEqDiff, Nat.reduceLT, Nat.reduceLeDiff, sC_def, sR_def, sC_1, sC_2, sR_1, sR_2, sC_st, sR_st, sR_no, sR_refuse, and_self, true_and, and_true, false_and, and_false, l_X10_bestWorker_10, hk, hu, e2, i_bit0, b1, b2, i_shl, i_or, e5, hz', i_add1]
      · simp (maxSteps := 1000000) (disch := omega) only [ne_eq, i_lt0, i_le0, i_eq0, i_n1, i_ltl, i_lel, i_eql, i_lt, i_le, i_eq, i_in, i_tn, i_add, i_addl, i_addr, i_mul, i_mulr, i_mull, if_true, if_false, eq_self, decide_eq_true_eq, decide_true, decide_false, Option.bind_some, Option.bind_none, ↓fu_ltd, ↓reduceIte, ↓ob_ite, ↓ob_asc, Bool.false_eq_true, Bool.true_eq_false, not_true_eq_false, not_false_eq_true, Nat.not_lt_zero, Nat.le_zero_eq, Nat.reduceAdd, Nat.reduceMul, Nat.reduceSub, Nat.reduceEqDiff, Nat.reduceLT, Nat.reduceLeDiff, sC_def, sR_def, sC_1, sC_2, sR_1, sR_2, sC_st, sR_st, sR_no, sR_refuse, and_self, true_and, and_true, false_and, and_false, l_X10_bestWorker_10, hk, hu, e2, i_bit0, b1, b2, i_add1]
  rcases d_lo_ok (c := d_wok av u B) (n := 7) with ⟨h1, h2⟩ | ⟨p, h1, h2, h3, h4⟩
  · have hL : l_X10_bestWorker_10 fu_N s (Int32.ofNat u) (Int32.ofNat B) (Int32.ofNat (d_v av (8 - u) B)) 0 = some (.inr ()) := lp_fr (l := fun f (_ : Unit) k => l_X10_bestWorker_10 f s (Int32.ofNat u) (Int32.ofNat B) (Int32.ofNat (d_v av (8 - u) B)) (Int32.ofNat k)) (a := 0) (b := 7) (S := fun _ => ()) (r := .inr ()) (fun n k _ hk => step n k hk (h2 k hk)) (fun n => by
      generalize d_v av (8 - u) B = W at *
      simp (maxSteps := 1000000) (disch := omega) only [ne_eq, i_lt0, i_le0, i_eq0, i_n1, i_ltl, i_lel, i_eql, i_lt, i_le, i_eq, i_in, i_tn, i_add, i_addl, i_addr, i_mul, i_mulr, i_mull, if_true, if_false, eq_self, decide_eq_true_eq, decide_true, decide_false, Option.bind_some, Option.bind_none, ↓fu_ltd, ↓reduceIte, ↓ob_ite, ↓ob_asc, Bool.false_eq_true, Bool.true_eq_false, not_true_eq_false, not_false_eq_true, Nat.not_lt_zero, Nat.le_zero_eq, Nat.reduceAdd, Nat.reduceMul, Nat.reduceSub, Nat.reduceEqDiff, Nat.reduceLT, Nat.reduceLeDiff, sC_def, sR_def, sC_1, sC_2, sR_1, sR_2, sC_st, sR_st, sR_no, sR_refuse, and_self, true_and, and_true, false_and, and_false, l_X10_bestWorker_10, Nat.lt_irrefl]) (f := fu_N) (k := 0) (by omega) (by omega) (fu_N_gt (by omega))
    rw [h1]
    generalize d_v av (8 - u) B = W at *
    simp (maxSteps := 1000000) (disch := omega) only [ne_eq, i_lt0, i_le0, i_eq0, i_n1, i_ltl, i_lel, i_eql, i_lt, i_le, i_eq, i_in, i_tn, i_add, i_addl, i_addr, i_mul, i_mulr, i_mull, if_true, if_false, eq_self, decide_eq_true_eq, decide_true, decide_false, Option.bind_some, Option.bind_none, ↓fu_ltd, ↓reduceIte, ↓ob_ite, ↓ob_asc, Bool.false_eq_true, Bool.true_eq_false, not_true_eq_false, not_false_eq_true, Nat.not_lt_zero, Nat.le_zero_eq, Nat.reduceAdd, Nat.reduceMul, Nat.reduceSub, Nat.reduceEqDiff, Nat.reduceLT, Nat.reduceLeDiff, sC_def, sR_def, sC_1, sC_2, sR_1, sR_2, sC_st, sR_st, sR_no, sR_refuse, and_self, true_and, and_true, false_and, and_false, f_X10_bestWorker, e1, hL, Sum.elim_inr]
    rfl
  · have hL : l_X10_bestWorker_10 fu_N s (Int32.ofNat u) (Int32.ofNat B) (Int32.ofNat (d_v av (8 - u) B)) 0 = some (.inl (Int32.ofNat p)) := lp_fr (l := fun f (_ : Unit) k => l_X10_bestWorker_10 f s (Int32.ofNat u) (Int32.ofNat B) (Int32.ofNat (d_v av (8 - u) B)) (Int32.ofNat k)) (a := 0) (b := p) (S := fun _ => ()) (r := .inl (Int32.ofNat p)) (fun n k _ hk => step n k (by omega) (h4 k hk)) (fun n => by
      have hk31 : p < 31 := by omega
      have hor : B ||| 2 ^ p < 128 := Nat.or_lt_two_pow (n := 7) hB (Nat.pow_lt_pow_right (by omega) h2)
      have e5 := c_mostB h hm hu hor
      have q1 := hvl (7 - u) (B ||| 2 ^ p) (by omega)
      unfold d_wok d_cd at h3
      generalize d_v av (7 - u) (B ||| 2 ^ p) = V at *
      generalize d_v av (8 - u) B = W at *
      rw [Bool.and_eq_true, Bool.and_eq_true, Bool.not_eq_true', decide_eq_true_eq] at h3
      obtain ⟨⟨b1, b2⟩, hz'⟩ := h3
      simp (maxSteps := 1000000) (disch := omega) only [ne_eq, i_lt0, i_le0, i_eq0, i_n1, i_ltl, i_lel, i_eql, i_lt, i_le, i_eq, i_in, i_tn, i_add, i_addl, i_addr, i_mul, i_mulr, i_mull, if_true, if_false, eq_self, decide_eq_true_eq, decide_true, decide_false, Option.bind_some, Option.bind_none, ↓fu_ltd, ↓reduceIte, ↓ob_ite, ↓ob_asc, Bool.false_eq_true, Bool.true_eq_false, not_true_eq_false, not_false_eq_true, Nat.not_lt_zero, Nat.le_zero_eq, Nat.reduceAdd, Nat.reduceMul, Nat.reduceSub, Nat.reduceEqDiff, Nat.reduceLT, Nat.reduceLeDiff, sC_def, sR_def, sC_1, sC_2, sR_1, sR_2, sC_st, sR_st, sR_no, sR_refuse, and_self, true_and, and_true, false_and, and_false, l_X10_bestWorker_10, h2, hu, e2, i_bit0, b1, b2, i_shl, i_or, e5, hz']) (f := fu_N) (k := 0) (by omega) (by omega) (fu_N_gt (by omega))
    rw [h1]
    generalize d_v av (8 - u) B = W at *
    simp (maxSteps := 1000000) (disch := omega) only [ne_eq, i_lt0, i_le0, i_eq0, i_n1, i_ltl, i_lel, i_eql, i_lt, i_le, i_eq, i_in, i_tn, i_add, i_addl, i_addr, i_mul, i_mulr, i_mull, if_true, if_false, eq_self, decide_eq_true_eq, decide_true, decide_false, Option.bind_some, Option.bind_none, ↓fu_ltd, ↓reduceIte, ↓ob_ite, ↓ob_asc, Bool.false_eq_true, Bool.true_eq_false, not_true_eq_false, not_false_eq_true, Nat.not_lt_zero, Nat.le_zero_eq, Nat.reduceAdd, Nat.reduceMul, Nat.reduceSub, Nat.reduceEqDiff, Nat.reduceLT, Nat.reduceLeDiff, sC_def, sR_def, sC_1, sC_2, sR_1, sR_2, sC_st, sR_st, sR_no, sR_refuse, and_self, true_and, and_true, false_and, and_false, f_X10_bestWorker, e1, hL, Sum.elim_inl]
    rfl
end WRM
section ASG
variable {s : fu_S} {D : dD} {t u m j k B P p w : Nat}
theorem c_isUpF (h : dC s P D) (hv : dV D) (ht : D 0 5 ≤ t) (ht8 : t < 2147483648) : f_X4_isUp s P (Int32.ofNat t) = some false := by
  have hp4 := hv.1
  have h1 : ¬ t < D 0 5 := by omega
  simp (maxSteps := 1000000) (disch := omega) only [ne_eq, i_lt0, i_le0, i_eq0, i_n1, i_ltl, i_lel, i_eql, i_lt, i_le, i_eq, i_in, i_tn, i_add, i_addl, i_addr, i_mul, i_mulr, i_mull, if_true, if_false, eq_self, decide_eq_true_eq, decide_true, decide_false, Option.bind_some, Option.bind_none, ↓fu_ltd, ↓reduceIte, ↓ob_ite, ↓ob_asc, Bool.false_eq_true, Bool.true_eq_false, not_true_eq_false, not_false_eq_true, Nat.not_lt_zero, Nat.le_zero_eq, Nat.reduceAdd, Nat.reduceMul, Nat.reduceSub, Nat.reduceEqDiff, Nat.reduceLT, Nat.reduceLeDiff, sC_def, sR_def, sC_1, sC_2, sR_1, sR_2, sC_st, sR_st, sR_no, sR_refuse, and_self, true_and, and_true, false_and, and_false, f_X4_isUp, c_hasThing h, h1]
theorem c_asg1 (h : dC s P D) (hv : dV D) (hP : P + 13 ≤ 111) : l_X10_assign_2 fu_N s P 0 = some (wri s 111 8 (fun t => Int32.ofNat (d_av D t))) := by
  have hp4 := hv.1
  have := lp_up (l := fun f σ k => l_X10_assign_2 f σ P (Int32.ofNat k)) (N := 8) (S := fun k => wri s 111 k (fun t => Int32.ofNat (d_av D t))) (r := wri s 111 8 (fun t => Int32.ofNat (d_av D t))) (fun n k hk => by
    have hC := dC_w (f := fun t => Int32.ofNat (d_av D t)) (a := 111) (j := k) hP h
    have e3 : fu_pi (wri s 111 k (fun t => Int32.ofNat (d_av D t))) 111 k (Int32.ofNat (d_av D k)) = wri s 111 (k + 1) (fun t => Int32.ofNat (d_av D t)) := wri_s (f := fun t => Int32.ofNat (d_av D t))
    show l_X10_assign_2 (n + 1) (wri s 111 k (fun t => Int32.ofNat (d_av D t))) P (Int32.ofNat k) = l_X10_assign_2 n (wri s 111 (k + 1) (fun t => Int32.ofNat (d_av D t))) P (Int32.ofNat (k + 1))
    by_cases hk5 : k < D 0 5
    · have e1 := c_isUp hC hv hk5
      have e2 := c_ableSet hC hv hk5
      cases hu : d_isUp D k
      · rw [show d_av D k = 0 from if_neg (fun z => by rw [hu] at z; exact Bool.noConfusion z.2)] at e3
        rw [hu] at e1
        generalize wri s 111 k (fun t => Int32.ofNat (d_av D t)) = U at *
        generalize wri s 111 (k + 1) (fun t => Int32.ofNat (d_av D t)) = V at *
        have e3' : fu_pi U 111 k 0 = V := e3
        simp (maxSteps := 1000000) (disch := omega) only [ne_eq, i_lt0, i_le0, i_eq0, i_n1, i_ltl, i_lel, i_eql, i_lt, i_le, i_eq, i_in, i_tn, i_add, i_addl, i_addr, i_mul, i_mulr, i_mull, if_true, if_false, eq_self, decide_eq_true_eq, decide_true, decide_false, Option.bind_some, Option.bind_none, ↓fu_ltd, ↓reduceIte, ↓ob_ite, ↓ob_asc, Bool.false_eq_true, Bool.true_eq_false, not_true_eq_false, not_false_eq_true, Nat.not_lt_zero, Nat.le_zero_eq, Nat.reduceAdd, Nat.reduceMul, Nat.reduceSub, Nat.reduceEqDiff, Nat.reduceLT, Nat.reduceLeDiff, sC_def, sR_def, sC_1, sC_2, sR_1, sR_2, sC_st, sR_st, sR_no, sR_refuse, and_self, true_and, and_true, false_and, and_false, l_X10_assign_2, hk, e1, e3', i_add1]
      · rw [show d_av D k = d_set (fun p => d_able D p k) (D 0 4) from if_pos ⟨hk5, hu⟩] at e3
        rw [hu] at e1
        generalize wri s 111 k (fun t => Int32.ofNat (d_av D t)) = U at *
        generalize wri s 111 (k + 1) (fun t => Int32.ofNat (d_av D t)) = V at *
        generalize d_set (fun p => d_able D p k) (D 0 4) = A at *
        simp (maxSteps := 1000000) (disch := omega) only [ne_eq, i_lt0, i_le0, i_eq0, i_n1, i_ltl, i_lel, i_eql, i_lt, i_le, i_eq, i_in, i_tn, i_add, i_addl, i_addr, i_mul, i_mulr, i_mull, if_true, if_false, eq_self, decide_eq_true_eq, decide_true, decide_false, Option.bind_some, Option.bind_none, ↓fu_ltd, ↓reduceIte, ↓ob_ite, ↓ob_asc, Bool.false_eq_true, Bool.true_eq_false, not_true_eq_false, not_false_eq_true, Nat.not_lt_zero, Nat.le_zero_eq, Nat.reduceAdd, Nat.reduceMul, Nat.reduceSub, Nat.reduceEqDiff, Nat.reduceLT, Nat.reduceLeDiff, sC_def, sR_def, sC_1, sC_2, sR_1, sR_2, sC_st, sR_st, sR_no, sR_refuse, and_self, true_and, and_true, false_and, and_false, l_X10_assign_2, hk, e1, e2, e3, i_add1]
    · have e1 := c_isUpF (t := k) hC hv (by omega) (by omega)
      rw [show d_av D k = 0 from d_av_t (by omega)] at e3
      generalize wri s 111 k (fun t => Int32.ofNat (d_av D t)) = U at *
      generalize wri s 111 (k + 1) (fun t => Int32.ofNat (d_av D t)) = V at *
      have e3' : fu_pi U 111 k 0 = V := e3
      simp (maxSteps := 1000000) (disch := omega) only [ne_eq, i_lt0, i_le0, i_eq0, i_n1, i_ltl, i_lel, i_eql, i_lt, i_le, i_eq, i_in, i_tn, i_add, i_addl, i_addr, i_mul, i_mulr, i_mull, if_true, if_false, eq_self, decide_eq_true_eq, decide_true, decide_false, Option.bind_some, Option.bind_none, ↓fu_ltd, ↓reduceIte, ↓ob_ite, ↓ob_asc, Bool.false_eq_true, Bool.true_eq_false, not_true_eq_false, not_false_eq_true, Nat.not_lt_zero, Nat.le_zero_eq, Nat.reduceAdd, Nat.reduceMul, Nat.reduceSub, Nat.reduceEqDiff, Nat.reduceLT, Nat.reduceLeDiff, sC_def, sR_def, sC_1, sC_2, sR_1, sR_2, sC_st, sR_st, sR_no, sR_refuse, and_self, true_and, and_true, false_and, and_false, l_X10_assign_2, hk, e1, e3', i_add1]) (fun n => by
    show l_X10_assign_2 (n + 1) (wri s 111 8 (fun t => Int32.ofNat (d_av D t))) P (Int32.ofNat 8) = _
    generalize wri s 111 8 (fun t => Int32.ofNat (d_av D t)) = U at *
    simp (maxSteps := 1000000) (disch := omega) only [ne_eq, i_lt0, i_le0, i_eq0, i_n1, i_ltl, i_lel, i_eql, i_lt, i_le, i_eq, i_in, i_tn, i_add, i_addl, i_addr, i_mul, i_mulr, i_mull, if_true, if_false, eq_self, decide_eq_true_eq, decide_true, decide_false, Option.bind_some, Option.bind_none, ↓fu_ltd, ↓reduceIte, ↓ob_ite, ↓ob_asc, Bool.false_eq_true, Bool.true_eq_false, not_true_eq_false, not_false_eq_true, Nat.not_lt_zero, Nat.le_zero_eq, Nat.reduceAdd, Nat.reduceMul, Nat.reduceSub, Nat.reduceEqDiff, Nat.reduceLT, Nat.reduceLeDiff, sC_def, sR_def, sC_1, sC_2, sR_1, sR_2, sC_st, sR_st, sR_no, sR_refuse, and_self, true_and, and_true, false_and, and_false, l_X10_assign_2, Nat.lt_irrefl]) (f := fu_N) (k := 0) (by omega) (fu_N_gt (by omega))
  rw [wri_0] at this
  exact this
theorem c_asg2 (hv : dV D) (hm : ∀ i, 1024 ≤ i → i < 1152 → s.1 113 i = 0) (ha : ∀ t, t < 8 → s.1 111 t = Int32.ofNat (d_av D t)) : l_X10_assign_40 fu_N s P 7 = some (wrm (d_av D) s 0 0) := by
  have hp4 := hv.1
  have hN : ∀ t, 8 ≤ t → d_av D t = 0 := fun t ht => d_av_t (by omega)
  have hav : ∀ t, d_av D t < 128 := fun t => d_av_lt hv
  have tb : ∀ m j, tbM (d_av D) (wrm (d_av D) s m j) m := fun m j => ⟨fun t ht => by rw [wrm_n (by omega)]; exact ha t ht, fun u B h1 h2 h3 => wrm_r hm h1 h2 h3⟩
  have inner : ∀ t, t < 8 → l_X10_assign_46 fu_N (wrm (d_av D) s (t + 1) 0) P (Int32.ofNat t) 0 = some (wrm (d_av D) s t 0) := fun t ht => by
    rw [← wrm_e (t := t)]
    exact lp_up (l := fun f σ k => l_X10_assign_46 f σ P (Int32.ofNat t) (Int32.ofNat k)) (N := 128) (S := fun k => wrm (d_av D) s (t + 1) k) (r := wrm (d_av D) s (t + 1) 128) (fun n k hk => by
      have e1 := c_mostF (tb (t + 1) k) hav hN (Nat.le_refl _) ht hk
      have e2 := wrm_s (s := s) (av := d_av D) ht hk
      have m1 : t * 128 + k < 1152 := by omega
      show l_X10_assign_46 (n + 1) (wrm (d_av D) s (t + 1) k) P (Int32.ofNat t) (Int32.ofNat k) = l_X10_assign_46 n (wrm (d_av D) s (t + 1) (k + 1)) P (Int32.ofNat t) (Int32.ofNat (k + 1))
      generalize wrm (d_av D) s (t + 1) k = U at *
      generalize wrm (d_av D) s (t + 1) (k + 1) = V at *
      generalize d_v (d_av D) (8 - t) k = W at *
      simp (maxSteps := 1000000) (disch := omega) only [ne_eq, i_lt0, i_le0, i_eq0, i_n1, i_ltl, i_lel, i_eql, i_lt, i_le, i_eq, i_in, i_tn, i_add, i_addl, i_addr, i_mul, i_mulr, i_mull, if_true, if_false, eq_self, decide_eq_true_eq, decide_true, decide_false, Option.bind_some, Option.bind_none, ↓fu_ltd, ↓reduceIte, ↓ob_ite, ↓ob_asc, Bool.false_eq_true, Bool.true_eq_false, not_true_eq_false, not_false_eq_true, Nat.not_lt_zero, Nat.le_zero_eq, Nat.reduceAdd, Nat.reduceMul, Nat.reduceSub, Nat.reduceEqDiff, Nat.reduceLT, Nat.reduceLeDiff, sC_def, sR_def, sC_1, sC_2, sR_1, sR_2, sC_st, sR_st, sR_no, sR_refuse, and_self, true_and, and_true, false_and, and_false, l_X10_assign_46, hk, e1, m1, e2, i_add1]) (fun n => by
      show l_X10_assign_46 (n + 1) (wrm (d_av D) s (t + 1) 128) P (Int32.ofNat t) (Int32.ofNat 128) = _
      generalize wrm (d_av D) s (t + 1) 128 = U at *
      simp (maxSteps := 1000000) (disch := omega) only [ne_eq, i_lt0, i_le0, i_eq0, i_n1, i_ltl, i_lel, i_eql, i_lt, i_le, i_eq, i_in, i_tn, i_add, i_addl, i_addr, i_mul, i_mulr, i_mull, if_true, if_false, eq_self, decide_eq_true_eq, decide_true, decide_false, Option.bind_some, Option.bind_none, ↓fu_ltd, ↓reduceIte, ↓ob_ite, ↓ob_asc, Bool.false_eq_true, Bool.true_eq_false, not_true_eq_false, not_false_eq_true, Nat.not_lt_zero, Nat.le_zero_eq, Nat.reduceAdd, Nat.reduceMul, Nat.reduceSub, Nat.reduceEqDiff, Nat.reduceLT, Nat.reduceLeDiff, sC_def, sR_def, sC_1, sC_2, sR_1, sR_2, sC_st, sR_st, sR_no, sR_refuse, and_self, true_and, and_true, false_and, and_false, l_X10_assign_46, Nat.lt_irrefl]) (f := fu_N) (k := 0) (by omega) (fu_N_gt (by omega))
  have := lp_dn (l := fun f σ k => l_X10_assign_40 f σ P (Int32.ofNat k - 1)) (N := 8) (S := fun k => wrm (d_av D) s k 0) (r := wrm (d_av D) s 0 0) (fun n k hk => by
    have e1 := inner k hk
    show l_X10_assign_40 (n + 1) (wrm (d_av D) s (k + 1) 0) P (Int32.ofNat (k + 1) - 1) = l_X10_assign_40 n (wrm (d_av D) s k 0) P (Int32.ofNat k - 1)
    generalize wrm (d_av D) s (k + 1) 0 = U at *
    generalize wrm (d_av D) s k 0 = V at *
    simp (maxSteps := 1000000) (disch := omega) only [ne_eq, i_lt0, i_le0, i_eq0, i_n1, i_ltl, i_lel, i_eql, i_lt, i_le, i_eq, i_in, i_tn, i_add, i_addl, i_addr, i_mul, i_mulr, i_mull, if_true, if_false, eq_self, decide_eq_true_eq, decide_true, decide_false, Option.bind_some, Option.bind_none, ↓fu_ltd, ↓reduceIte, ↓ob_ite, ↓ob_asc, Bool.false_eq_true, Bool.true_eq_false, not_true_eq_false, not_false_eq_true, Nat.not_lt_zero, Nat.le_zero_eq, Nat.reduceAdd, Nat.reduceMul, Nat.reduceSub, Nat.reduceEqDiff, Nat.reduceLT, Nat.reduceLeDiff, sC_def, sR_def, sC_1, sC_2, sR_1, sR_2, sC_st, sR_st, sR_no, sR_refuse, and_self, true_and, and_true, false_and, and_false, l_X10_assign_40, i_add1s, e1, i_addm1]) (fun n => by
    show l_X10_assign_40 (n + 1) (wrm (d_av D) s 0 0) P (-1) = _
    generalize wrm (d_av D) s 0 0 = U at *
    simp (maxSteps := 1000000) (disch := omega) only [ne_eq, i_lt0, i_le0, i_eq0, i_n1, i_ltl, i_lel, i_eql, i_lt, i_le, i_eq, i_in, i_tn, i_add, i_addl, i_addr, i_mul, i_mulr, i_mull, if_true, if_false, eq_self, decide_eq_true_eq, decide_true, decide_false, Option.bind_some, Option.bind_none, ↓fu_ltd, ↓reduceIte, ↓ob_ite, ↓ob_asc, Bool.false_eq_true, Bool.true_eq_false, not_true_eq_false, not_false_eq_true, Nat.not_lt_zero, Nat.le_zero_eq, Nat.reduceAdd, Nat.reduceMul, Nat.reduceSub, Nat.reduceEqDiff, Nat.reduceLT, Nat.reduceLeDiff, sC_def, sR_def, sC_1, sC_2, sR_1, sR_2, sC_st, sR_st, sR_no, sR_refuse, and_self, true_and, and_true, false_and, and_false, l_X10_assign_40, i_n1lt]) (k := 8) (f := fu_N) (by omega) (fu_N_gt (by omega))
  rw [wrm_0] at this
  exact this
theorem c_asg3 (hv : dV D) (h : tbM (d_av D) s 0) : l_X10_assign_87 fu_N s P 0 0 = some (wri s 112 8 (fun t => e_b (d_wk (d_av D) t))) := by
  have hp4 := hv.1
  have hN : ∀ t, 8 ≤ t → d_av D t = 0 := fun t ht => d_av_t (by omega)
  have hav : ∀ t, d_av D t < 128 := fun t => d_av_lt hv
  have tb : ∀ k f, tbM (d_av D) (wri s 112 k f) 0 := fun k f => ⟨fun t ht => by rw [wri_n (by omega)]; exact h.1 t ht, fun u B h1 h2 h3 => by rw [wri_n (by omega)]; exact h.2 u B h1 h2 h3⟩
  have := lp_up (l := fun f (σ : fu_S × Int32) k => l_X10_assign_87 f σ.1 P σ.2 (Int32.ofNat k)) (N := 8) (S := fun k => (wri s 112 k (fun t => e_b (d_wk (d_av D) t)), Int32.ofNat (d_bz (d_av D) k))) (r := wri s 112 8 (fun t => e_b (d_wk (d_av D) t))) (fun n k hk => by
    have e1 := c_bestW (B := d_bz (d_av D) k) (tb k (fun t => e_b (d_wk (d_av D) t))) hav hN (Nat.zero_le _) hk d_bz_lt
    rw [show d_lo (d_wok (d_av D) k (d_bz (d_av D) k)) 7 = d_wk (d_av D) k from rfl] at e1
    have e3 : fu_pi (wri s 112 k (fun t => e_b (d_wk (d_av D) t))) 112 k (e_b (d_wk (d_av D) k)) = wri s 112 (k + 1) (fun t => e_b (d_wk (d_av D) t)) := wri_s (f := fun t => e_b (d_wk (d_av D) t))
    have e4 : (wri s 112 (k + 1) (fun t => e_b (d_wk (d_av D) t))).1 112 k = e_b (d_wk (d_av D) k) := wri_r (by omega)
    have h7 : d_wk (d_av D) k ≤ 7 := d_lo_le
    have hb := d_bz_s (av := d_av D) (t := k)
    show l_X10_assign_87 (n + 1) (wri s 112 k (fun t => e_b (d_wk (d_av D) t))) P (Int32.ofNat (d_bz (d_av D) k)) (Int32.ofNat k) = l_X10_assign_87 n (wri s 112 (k + 1) (fun t => e_b (d_wk (d_av D) t))) P (Int32.ofNat (d_bz (d_av D) (k + 1))) (Int32.ofNat (k + 1))
    rw [hb]
    generalize wri s 112 k (fun t => e_b (d_wk (d_av D) t)) = U at *
    generalize wri s 112 (k + 1) (fun t => e_b (d_wk (d_av D) t)) = V at *
    generalize d_bz (d_av D) k = Z at *
    generalize d_wk (d_av D) k = W at *
    have z1 := e_b_n1 (a := W) (by omega)
    by_cases hW : W = 0
    · have z2 := z1.mpr hW
      rw [z2] at e1 e3 e4
      rw [if_pos hW]
      have z3 : Int32.ofNat Z ||| 0 = Int32.ofNat Z := by
        rw [show (0 : Int32) = Int32.ofNat 0 from rfl, i_or, Nat.or_zero]
      simp (maxSteps := 1000000) (disch := omega) only [ne_eq, i_lt0, i_le0, i_eq0, i_n1, i_ltl, i_lel, i_eql, i_lt, i_le, i_eq, i_in, i_tn, i_add, i_addl, i_addr, i_mul, i_mulr, i_mull, if_true, if_false, eq_self, decide_eq_true_eq, decide_true, decide_false, Option.bind_some, Option.bind_none, ↓fu_ltd, ↓reduceIte, ↓ob_ite, ↓ob_asc, Bool.false_eq_true, Bool.true_eq_false, not_true_eq_false, not_false_eq_true, Nat.not_lt_zero, Nat.le_zero_eq, Nat.reduceAdd, Nat.reduceMul, Nat.reduceSub, Nat.reduceEqDiff, Nat.reduceLT, Nat.reduceLeDiff, sC_def, sR_def, sC_1, sC_2, sR_1, sR_2, sC_st, sR_st, sR_no, sR_refuse, and_self, true_and, and_true, false_and, and_false, l_X10_assign_87, hk, e1, e3, e4, z3, i_add1]
    · have z2 : ¬ _ := fun z => hW (z1.mp z)
      rw [if_neg hW]
      have z4 := e_b_of hW
      rw [z4] at e1 e3 e4 z2
      simp (maxSteps := 1000000) (disch := omega) only [ne_eq, i_lt0, i_le0, i_eq0, i_n1, i_ltl, i_lel, i_eql, i_lt, i_le, i_eq, i_in, i_tn, i_add, i_addl, i_addr, i_mul, i_mulr, i_mull, if_true, if_false, eq_self, decide_eq_true_eq, decide_true, decide_false, Option.bind_some, Option.bind_none, ↓fu_ltd, ↓reduceIte, ↓ob_ite, ↓ob_asc, Bool.false_eq_true, Bool.true_eq_false, not_true_eq_false, not_false_eq_true, Nat.not_lt_zero, Nat.le_zero_eq, Nat.reduceAdd, Nat.reduceMul, Nat.reduceSub, Nat.reduceEqDiff, Nat.reduceLT, Nat.reduceLeDiff, sC_def, sR_def, sC_1, sC_2, sR_1, sR_2, sC_st, sR_st, sR_no, sR_refuse, and_self, true_and, and_true, false_and, and_false, l_X10_assign_87, hk, e1, e3, e4, z2, i_shl, i_or, i_add1]) (fun n => by
    show l_X10_assign_87 (n + 1) (wri s 112 8 (fun t => e_b (d_wk (d_av D) t))) P (Int32.ofNat (d_bz (d_av D) 8)) (Int32.ofNat 8) = _
    generalize wri s 112 8 (fun t => e_b (d_wk (d_av D) t)) = U at *
    simp (maxSteps := 1000000) (disch := omega) only [ne_eq, i_lt0, i_le0, i_eq0, i_n1, i_ltl, i_lel, i_eql, i_lt, i_le, i_eq, i_in, i_tn, i_add, i_addl, i_addr, i_mul, i_mulr, i_mull, if_true, if_false, eq_self, decide_eq_true_eq, decide_true, decide_false, Option.bind_some, Option.bind_none, ↓fu_ltd, ↓reduceIte, ↓ob_ite, ↓ob_asc, Bool.false_eq_true, Bool.true_eq_false, not_true_eq_false, not_false_eq_true, Nat.not_lt_zero, Nat.le_zero_eq, Nat.reduceAdd, Nat.reduceMul, Nat.reduceSub, Nat.reduceEqDiff, Nat.reduceLT, Nat.reduceLeDiff, sC_def, sR_def, sC_1, sC_2, sR_1, sR_2, sC_st, sR_st, sR_no, sR_refuse, and_self, true_and, and_true, false_and, and_false, l_X10_assign_87, Nat.lt_irrefl]) (f := fu_N) (k := 0) (by omega) (fu_N_gt (by omega))
  simp only [wri_0] at this
  exact this
theorem c_asg (h : dC s P D) (hv : dV D) (hP : P + 13 ≤ 111) (hm : ∀ i, 1024 ≤ i → i < 1152 → s.1 113 i = 0) : ∃ u, f_X10_assign s P = some (Int32.ofNat (d_v (d_av D) 8 0), u) ∧ (∀ t, t < 8 → u.1 112 t = e_b (d_wk (d_av D) t)) ∧ u.2 = s.2 ∧ (∀ a, a ≠ 111 → a ≠ 112 → a ≠ 113 → u.1 a = s.1 a) ∧ ∀ i, 1024 ≤ i → u.1 113 i = s.1 113 i := by
  have e1 := c_asg1 h hv hP
  have ha : ∀ t, t < 8 → (wri s 111 8 (fun t => Int32.ofNat (d_av D t))).1 111 t = Int32.ofNat (d_av D t) := fun t ht => wri_r ht
  have hm' : ∀ i, 1024 ≤ i → i < 1152 → (wri s 111 8 (fun t => Int32.ofNat (d_av D t))).1 113 i = 0 := fun i h1 h2 => by rw [wri_n (by omega)]; exact hm i h1 h2
  have e2 := c_asg2 (P := P) hv hm' ha
  have tb : tbM (d_av D) (wrm (d_av D) (wri s 111 8 (fun t => Int32.ofNat (d_av D t))) 0 0) 0 := ⟨fun t ht => by rw [wrm_n (by omega)]; exact ha t ht, fun u B h1 h2 h3 => wrm_r hm' h1 h2 h3⟩
  have e3 := c_asg3 (P := P) hv tb
  have e4 : (wri (wrm (d_av D) (wri s 111 8 (fun t => Int32.ofNat (d_av D t))) 0 0) 112 8 (fun t => e_b (d_wk (d_av D) t))).1 113 0 = Int32.ofNat (d_v (d_av D) 8 0) := by
    rw [wri_n (by omega)]
    unfold wrm
    dsimp only
    rw [if_pos ⟨rfl, by omega, .inl (by omega)⟩]
  refine ⟨wri (wrm (d_av D) (wri s 111 8 (fun t => Int32.ofNat (d_av D t))) 0 0) 112 8 (fun t => e_b (d_wk (d_av D) t)), ?_, fun t ht => ?_, ?_, fun a h1 h2 h3 => ?_, fun i hi => ?_⟩
  · generalize wri (wrm (d_av D) (wri s 111 8 (fun t => Int32.ofNat (d_av D t))) 0 0) 112 8 (fun t => e_b (d_wk (d_av D) t)) = V at *
    generalize wrm (d_av D) (wri s 111 8 (fun t => Int32.ofNat (d_av D t))) 0 0 = W at *
    simp (maxSteps := 1000000) (disch := omega) only [ne_eq, i_lt0, i_le0, i_eq0, i_n1, i_ltl, i_lel, i_eql, i_lt, i_le, i_eq, i_in, i_tn, i_add, i_addl, i_addr, i_mul, i_mulr, i_mull, if_true, if_false, eq_self, decide_eq_true_eq, decide_true, decide_false, Option.bind_some, Option.bind_none, ↓fu_ltd, ↓reduceIte, ↓ob_ite, ↓ob_asc, Bool.false_eq_true, Bool.true_eq_false, not_true_eq_false, not_false_eq_true, Nat.not_lt_zero, Nat.le_zero_eq, Nat.reduceAdd, Nat.reduceMul, Nat.reduceSub, Nat.reduceEqDiff, Nat.reduceLT, Nat.reduceLeDiff, sC_def, sR_def, sC_1, sC_2, sR_1, sR_2, sC_st, sR_st, sR_no, sR_refuse, and_self, true_and, and_true, false_and, and_false, f_X10_assign, e1, e2, e3, e4]
  · exact wri_r ht
  · rfl
  · rw [wri_n h2, wrm_n h3, wri_n h1]
  · rw [wri_n (by omega), wrm_t hi, wri_n (by omega)]
end ASG
