/-! rings -/
/-- all that those in a set point at -/
def d_fa (T : Nat → Nat) (S : Nat) : Nat := d_or (fun q => if S.testBit q = true then T q else 0) 7
def d_rw (T : Nat → Nat) (p : Nat) : Nat → Nat
  | 0 => 2 ^ p
  | n + 1 => d_fa T (d_rw T p n)
/-- the first of n, n + 1 .. (f of them) rounds after which p is reached; 0 if none -/
def d_rf (T : Nat → Nat) (p : Nat) : Nat → Nat → Nat
  | 0, _ => 0
  | f + 1, n => if (d_rw T p n).testBit p = true then n else d_rf T p f (n + 1)
def d_rg (T : Nat → Nat) (p : Nat) : Nat := d_rf T p 7 1
def d_sh (R : Nat → Nat) : Nat → Nat
  | 0 => 0
  | k + 1 => if R k = 0 then d_sh R k else if d_sh R k = 0 then R k else if R k < d_sh R k then R k else d_sh R k
/-- a number that may be none -/
def e_n (a : Nat) : Int32 := if a = 0 then -1 else Int32.ofNat a
theorem d_fa_lt {T : Nat → Nat} {S : Nat} (hT : ∀ q, q < 7 → T q < 128) : d_fa T S < 128 := d_or_lt (m := 7) fun q hq => by
  by_cases h : S.testBit q = true
  · rw [if_pos h]; exact hT q hq
  · rw [if_neg h]; omega
theorem d_rw_lt {T : Nat → Nat} {p : Nat} (hp : p < 7) (hT : ∀ q, q < 7 → T q < 128) : ∀ n, d_rw T p n < 128
  | 0 => Nat.pow_lt_pow_right (a := 2) (m := p) (n := 7) (by omega) hp
  | n + 1 => d_fa_lt hT
theorem d_or_one {f : Nat → Nat} {p : Nat} : ∀ {n}, d_or (fun q => if q = p then f q else 0) n = if p < n then f p else 0
  | 0 => by simp [d_or]
  | n + 1 => by
    rw [d_or_s, d_or_one]
    by_cases e : n = p
    · subst e
      simp
    · by_cases h : p < n
      · rw [if_pos h, if_neg e, if_pos (by omega), Nat.or_zero]
      · rw [if_neg h, if_neg e, if_neg (by omega), Nat.or_zero]
theorem d_rw_1 {T : Nat → Nat} {p : Nat} (hp : p < 7) : d_rw T p 1 = T p := by
  show d_fa T (2 ^ p) = T p
  unfold d_fa
  have : (fun q => if (2 ^ p).testBit q = true then T q else 0) = fun q => if q = p then T q else 0 := by
    funext q
    rw [Nat.testBit_two_pow]
    by_cases e : q = p
    · rw [if_pos (decide_eq_true e.symm), if_pos e]
    · rw [if_neg (by rw [decide_eq_true_eq]; exact fun z => e z.symm), if_neg e]
  rw [this, d_or_one, if_pos hp]
theorem d_rf_le {T : Nat → Nat} {p : Nat} : ∀ {f n}, d_rf T p f n < n + f ∨ d_rf T p f n = 0
  | 0, _ => .inr rfl
  | f + 1, n => by
    rw [d_rf]
    by_cases h : (d_rw T p n).testBit p = true
    · rw [if_pos h]; exact .inl (by omega)
    · rw [if_neg h]
      rcases d_rf_le (T := T) (p := p) (f := f) (n := n + 1) with h | h
      · exact .inl (by omega)
      · exact .inr h
theorem d_rg_le {T : Nat → Nat} {p : Nat} : d_rg T p ≤ 7 := by
  rcases d_rf_le (T := T) (p := p) (f := 7) (n := 1) with h | h
  · have : d_rg T p < 1 + 7 := h
    omega
  · have : d_rg T p = 0 := h
    omega
theorem d_sh_le {R : Nat → Nat} (h : ∀ k, R k ≤ 7) : ∀ {n}, d_sh R n ≤ 7
  | 0 => by simp [d_sh]
  | n + 1 => by
    have := d_sh_le h (n := n)
    have := h n
    rw [d_sh]
    split
    · assumption
    · split
      · assumption
      · split <;> assumption
theorem d_sh_ext {R : Nat → Nat} {n : Nat} : ∀ {k}, (∀ j, n ≤ j → j < n + k → R j = 0) → d_sh R (n + k) = d_sh R n
  | 0, _ => rfl
  | k + 1, h => by
    rw [← Nat.add_assoc, d_sh, if_pos (h (n + k) (by omega) (by omega))]
    exact d_sh_ext fun j h1 h2 => h j h1 (by omega)
section RNG
variable {s : fu_S} {T : Nat → Nat} {p n S : Nat}
theorem c_fromAll (hs : ∀ r, r < 7 → s.1 115 r = Int32.ofNat (T r)) (hS : S < 128) : f_X0_fromAll s (Int32.ofNat S) = some (Int32.ofNat (d_fa T S)) := by
  have hL : l_X0_fromAll_4 fu_N s (Int32.ofNat S) 0 0 = some (Int32.ofNat (d_fa T S)) := lp_up (l := fun f σ k => l_X0_fromAll_4 f s (Int32.ofNat S) (Int32.ofNat σ) (Int32.ofNat k)) (N := 7) (S := fun k => d_or (fun q => if S.testBit q = true then T q else 0) k) (r := Int32.ofNat (d_fa T S)) (fun n k hk => by
      have e1 := hs k hk
      show l_X0_fromAll_4 (n + 1) s (Int32.ofNat S) (Int32.ofNat (d_or (fun q => if S.testBit q = true then T q else 0) k)) (Int32.ofNat k) = _
      cases hz : S.testBit k
      · simp (maxSteps := 1000000) (disch := omega) only [ne_eq, i_lt0, i_le0, i_eq0, i_n1, i_ltl, i_lel, i_eql, i_lt, i_le, i_eq, i_in, i_tn, i_add, i_addl, i_addr, i_mul, i_mulr, i_mull, if_true, if_false, eq_self, decide_eq_true_eq, decide_true, decide_false, Option.bind_some, Option.bind_none, ↓fu_ltd, ↓reduceIte, ↓ob_ite, ↓ob_asc, Bool.false_eq_true, Bool.true_eq_false, not_true_eq_false, not_false_eq_true, Nat.not_lt_zero, Nat.le_zero_eq, Nat.reduceAdd, Nat.reduceMul, Nat.reduceSub, Nat.reduceEqDiff, Nat.reduceLT, Nat.reduceLeDiff, sC_def, sR_def, sC_1, sC_2, sR_1, sR_2, sC_st, sR_st, sR_no, sR_refuse, and_self, true_and, and_true, false_and, and_false, l_X0_fromAll_4, hk, i_bit0, hz, i_or0, i_add1, d_or_s, Nat.or_zero]
      · simp (maxSteps := 1000000) (disch := omega) only [ne_eq, i_lt0, i_le0, i_eq0, i_n1, i_ltl, i_lel, i_eql, i_lt, i_le, i_eq, i_in, i_tn, i_add, i_addl, i_addr, i_mul, i_mulr, i_mull, if_true, if_false, eq_self, decide_eq_true_eq, decide_true, decide_false, Option.bind_some, Option.bind_none, ↓fu_ltd, ↓reduceIte, ↓ob_ite, ↓ob_asc, Bool.false_eq_true, Bool.true_eq_false, not_true_eq_false, not_false_eq_true, Nat.not_lt_zero, Nat.le_zero_eq, Nat.reduceAdd, Nat.reduceMul, Nat.reduceSub, Nat.reduceEqDiff, Nat.reduceLT, Nat.reduceLeDiff, sC_def, sR_def, sC_1, sC_2, sR_1, sR_2, sC_st, sR_st, sR_no, sR_refuse, and_self, true_and, and_true, false_and, and_false, l_X0_fromAll_4, hk, i_bit0, hz, e1, i_or, i_add1, d_or_s]) (fun n => by
      show l_X0_fromAll_4 (n + 1) s (Int32.ofNat S) (Int32.ofNat (d_fa T S)) (Int32.ofNat 7) = _
      simp (maxSteps := 1000000) (disch := omega) only [ne_eq, i_lt0, i_le0, i_eq0, i_n1, i_ltl, i_lel, i_eql, i_lt, i_le, i_eq, i_in, i_tn, i_add, i_addl, i_addr, i_mul, i_mulr, i_mull, if_true, if_false, eq_self, decide_eq_true_eq, decide_true, decide_false, Option.bind_some, Option.bind_none, ↓fu_ltd, ↓reduceIte, ↓ob_ite, ↓ob_asc, Bool.false_eq_true, Bool.true_eq_false, not_true_eq_false, not_false_eq_true, Nat.not_lt_zero, Nat.le_zero_eq, Nat.reduceAdd, Nat.reduceMul, Nat.reduceSub, Nat.reduceEqDiff, Nat.reduceLT, Nat.reduceLeDiff, sC_def, sR_def, sC_1, sC_2, sR_1, sR_2, sC_st, sR_st, sR_no, sR_refuse, and_self, true_and, and_true, false_and, and_false, l_X0_fromAll_4, Nat.lt_irrefl]) (f := fu_N) (k := 0) (by omega) (fu_N_gt (by omega))
  simp (maxSteps := 1000000) (disch := omega) only [ne_eq, i_lt0, i_le0, i_eq0, i_n1, i_ltl, i_lel, i_eql, i_lt, i_le, i_eq, i_in, i_tn, i_add, i_addl, i_addr, i_mul, i_mulr, i_mull, if_true, if_false, eq_self, decide_eq_true_eq, decide_true, decide_false, Option.bind_some, Option.bind_none, ↓fu_ltd, ↓reduceIte, ↓ob_ite, ↓ob_asc, Bool.false_eq_true, Bool.true_eq_false, not_true_eq_false, not_false_eq_true, Nat.not_lt_zero, Nat.le_zero_eq, Nat.reduceAdd, Nat.reduceMul, Nat.reduceSub, Nat.reduceEqDiff, Nat.reduceLT, Nat.reduceLeDiff, sC_def, sR_def, sC_1, sC_2, sR_1, sR_2, sC_st, sR_st, sR_no, sR_refuse, and_self, true_and, and_true, false_and, and_false, f_X0_fromAll, hL]
theorem r_fromAll {x1 x3 : Int32} (hs : ∀ r, r < 7 → s.1 125 r = Int32.ofNat (T r)) (hS : S < 128) : l_X12_ringFrom_18 fu_N s x1 (Int32.ofNat S) x3 0 0 = some (Int32.ofNat (d_fa T S)) :=
  lp_up (l := fun f σ k => l_X12_ringFrom_18 f s x1 (Int32.ofNat S) x3 (Int32.ofNat σ) (Int32.ofNat k)) (N := 7) (S := fun k => d_or (fun q => if S.testBit q = true then T q else 0) k) (r := Int32.ofNat (d_fa T S)) (fun n k hk => by
      have e1 := hs k hk
      have e2 := r_hasn (a := S) (b := k) (by omega) (by omega)
      show l_X12_ringFrom_18 (n + 1) s x1 (Int32.ofNat S) x3 (Int32.ofNat (d_or (fun q => if S.testBit q = true then T q else 0) k)) (Int32.ofNat k) = _
      cases hz : S.testBit k
      · simp (maxSteps := 1000000) (disch := omega) only [ne_eq, i_lt0, i_le0, i_eq0, i_n1, i_ltl, i_lel, i_eql, i_lt, i_le, i_eq, i_in, i_tn, i_add, i_addl, i_addr, i_mul, i_mulr, i_mull, if_true, if_false, eq_self, decide_eq_true_eq, decide_true, decide_false, Option.bind_some, Option.bind_none, ↓fu_ltd, ↓reduceIte, ↓ob_ite, ↓ob_asc, Bool.false_eq_true, Bool.true_eq_false, not_true_eq_false, not_false_eq_true, Nat.not_lt_zero, Nat.le_zero_eq, Nat.reduceAdd, Nat.reduceMul, Nat.reduceSub, Nat.reduceEqDiff, Nat.reduceLT, Nat.reduceLeDiff, sC_def, sR_def, sC_1, sC_2, sR_1, sR_2, sC_st, sR_st, sR_no, sR_refuse, and_self, true_and, and_true, false_and, and_false, l_X12_ringFrom_18, hk, e2, hz, i_or0, i_add1, d_or_s, Nat.or_zero]
      · simp (maxSteps := 1000000) (disch := omega) only [ne_eq, i_lt0, i_le0, i_eq0, i_n1, i_ltl, i_lel, i_eql, i_lt, i_le, i_eq, i_in, i_tn, i_add, i_addl, i_addr, i_mul, i_mulr, i_mull, if_true, if_false, eq_self, decide_eq_true_eq, decide_true, decide_false, Option.bind_some, Option.bind_none, ↓fu_ltd, ↓reduceIte, ↓ob_ite, ↓ob_asc, Bool.false_eq_true, Bool.true_eq_false, not_true_eq_false, not_false_eq_true, Nat.not_lt_zero, Nat.le_zero_eq, Nat.reduceAdd, Nat.reduceMul, Nat.reduceSub, Nat.reduceEqDiff, Nat.reduceLT, Nat.reduceLeDiff, sC_def, sR_def, sC_1, sC_2, sR_1, sR_2, sC_st, sR_st, sR_no, sR_refuse, and_self, true_and, and_true, false_and, and_false, l_X12_ringFrom_18, hk, e2, hz, e1, i_or, i_add1, d_or_s]) (fun n => by
      show l_X12_ringFrom_18 (n + 1) s x1 (Int32.ofNat S) x3 (Int32.ofNat (d_fa T S)) (Int32.ofNat 7) = _
      simp (maxSteps := 1000000) (disch := omega) only [ne_eq, i_lt0, i_le0, i_eq0, i_n1, i_ltl, i_lel, i_eql, i_lt, i_le, i_eq, i_in, i_tn, i_add, i_addl, i_addr, i_mul, i_mulr, i_mull, if_true, if_false, eq_self, decide_eq_true_eq, decide_true, decide_false, Option.bind_some, Option.bind_none, ↓fu_ltd, ↓reduceIte, ↓ob_ite, ↓ob_asc, Bool.false_eq_true, Bool.true_eq_false, not_true_eq_false, not_false_eq_true, Nat.not_lt_zero, Nat.le_zero_eq, Nat.reduceAdd, Nat.reduceMul, Nat.reduceSub, Nat.reduceEqDiff, Nat.reduceLT, Nat.reduceLeDiff, sC_def, sR_def, sC_1, sC_2, sR_1, sR_2, sC_st, sR_st, sR_no, sR_refuse, and_self, true_and, and_true, false_and, and_false, l_X12_ringFrom_18, Nat.lt_irrefl]) (f := fu_N) (k := 0) (by omega) (fu_N_gt (by omega))
theorem c_ringL {x1 : Int32} (hp : p < 7) (hT : ∀ q, q < 7 → T q < 128) (hs : ∀ r, r < 7 → s.1 115 r = Int32.ofNat (T r)) : ∀ {f g n : Nat}, 1 ≤ n → n + f = 7 → f < g → ∃ F L, l_X0_shortestRing_20 g s x1 (Int32.ofNat p) (Int32.ofNat (d_rw T p n)) (Int32.ofNat n) = some (Int32.ofNat F, Int32.ofNat L) ∧ F < 128 ∧ L ≤ 7 ∧ ((F.testBit p = true ∧ d_rf T p (f + 1) n = L ∧ L ≠ 0) ∨ (F.testBit p = false ∧ d_rf T p (f + 1) n = 0))
  | 0, g + 1, n, _, hn, _ => by
    obtain rfl : n = 7 := by omega
    refine ⟨d_rw T p 7, 7, ?_, d_rw_lt hp hT 7, by omega, ?_⟩
    · generalize d_rw T p 7 = A
      simp (maxSteps := 1000000) (disch := omega) only [ne_eq, i_lt0, i_le0, i_eq0, i_n1, i_ltl, i_lel, i_eql, i_lt, i_le, i_eq, i_in, i_tn, i_add, i_addl, i_addr, i_mul, i_mulr, i_mull, if_true, if_false, eq_self, decide_eq_true_eq, decide_true, decide_false, Option.bind_some, Option.bind_none, ↓fu_ltd, ↓reduceIte, ↓ob_ite, ↓ob_asc, Bool.false_eq_true, Bool.true_eq_false, not_true_eq_false, not_false_eq_true, Nat.not_lt_zero, Nat.le_zero_eq, Nat.reduceAdd, Nat.reduceMul, Nat.reduceSub, Nat.reduceEqDiff, Nat.reduceLT, Nat.reduceLeDiff, sC_def, sR_def, sC_1, sC_2, sR_1, sR_2, sC_st, sR_st, sR_no, sR_refuse, and_self, true_and, and_true, false_and, and_false, l_X0_shortestRing_20, Nat.lt_irrefl]
    · rw [d_rf]
      cases h : (d_rw T p 7).testBit p
      · exact .inr ⟨rfl, rfl⟩
      · exact .inl ⟨rfl, rfl, by omega⟩
  | f + 1, g + 1, n, h1n, hn, hg => by
    have hn7 : n < 7 := by omega
    have hA := d_rw_lt hp hT n
    rw [d_rf]
    cases h : (d_rw T p n).testBit p
    · obtain ⟨F, L, h1, h2, h3, h4⟩ := c_ringL (x1 := x1) hp hT hs (f := f) (g := g) (n := n + 1) (by omega) (by omega) (by omega)
      refine ⟨F, L, ?_, h2, h3, ?_⟩
      · have e1 := c_fromAll (S := d_rw T p n) hs hA
        rw [show d_fa T (d_rw T p n) = d_rw T p (n + 1) from rfl] at e1
        generalize d_rw T p n = A at *
        generalize d_rw T p (n + 1) = B at *
        simp (maxSteps := 1000000) (disch := omega) only [ne_eq, i_lt0, i_le0, i_eq0, i_n1, i_ltl, i_lel, i_eql, i_lt, i_le, i_eq, i_in, i_tn, i_add, i_addl, i_addr, i_mul, i_mulr, i_mull, if_true, if_false, eq_self, decide_eq_true_eq, decide_true, decide_false, Option.bind_some, Option.bind_none, ↓fu_ltd, ↓reduceIte, ↓ob_ite, ↓ob_asc, Bool.false_eq_true, Bool.true_eq_false, not_true_eq_false, not_false_eq_true, Nat.not_lt_zero, Nat.le_zero_eq, Nat.reduceAdd, Nat.reduceMul, Nat.reduceSub, Nat.reduceEqDiff, Nat.reduceLT, Nat.reduceLeDiff, sC_def, sR_def, sC_1, sC_2, sR_1, sR_2, sC_st, sR_st, sR_no, sR_refuse, and_self, true_and, and_true, false_and, and_false, l_X0_shortestRing_20, hn7, i_bit0, h, e1, i_add1, h1]
      · rw [if_neg (show ¬ false = true by simp)]
        exact h4
    · refine ⟨d_rw T p n, n, ?_, hA, by omega, .inl ⟨h, ?_, by omega⟩⟩
      · generalize d_rw T p n = A at *
        simp (maxSteps := 1000000) (disch := omega) only [ne_eq, i_lt0, i_le0, i_eq0, i_n1, i_ltl, i_lel, i_eql, i_lt, i_le, i_eq, i_in, i_tn, i_add, i_addl, i_addr, i_mul, i_mulr, i_mull, if_true, if_false, eq_self, decide_eq_true_eq, decide_true, decide_false, Option.bind_some, Option.bind_none, ↓fu_ltd, ↓reduceIte, ↓ob_ite, ↓ob_asc, Bool.false_eq_true, Bool.true_eq_false, not_true_eq_false, not_false_eq_true, Nat.not_lt_zero, Nat.le_zero_eq, Nat.reduceAdd, Nat.reduceMul, Nat.reduceSub, Nat.reduceEqDiff, Nat.reduceLT, Nat.reduceLeDiff, sC_def, sR_def, sC_1, sC_2, sR_1, sR_2, sC_st, sR_st, sR_no, sR_refuse, and_self, true_and, and_true, false_and, and_false, l_X0_shortestRing_20, hn7, i_bit0, h]
      · rw [if_pos rfl]
theorem r_ringL (hp : p < 7) (hT : ∀ q, q < 7 → T q < 128) (hs : ∀ r, r < 7 → s.1 125 r = Int32.ofNat (T r)) : ∀ {f g n : Nat}, n + f = 7 → f < g → l_X12_ringFrom_6 g s (Int32.ofNat p) (Int32.ofNat (d_rw T p n)) (Int32.ofNat (n + 1)) = some (if d_rf T p f (n + 1) = 0 then .inr () else .inl (Int32.ofNat (d_rf T p f (n + 1))))
  | 0, g + 1, n, hn, _ => by
    have h8 : ¬ n + 1 ≤ 7 := by omega
    rw [d_rf, if_pos rfl]
    generalize d_rw T p n = A
    simp (maxSteps := 1000000) (disch := omega) only [ne_eq, i_lt0, i_le0, i_eq0, i_n1, i_ltl, i_lel, i_eql, i_lt, i_le, i_eq, i_in, i_tn, i_add, i_addl, i_addr, i_mul, i_mulr, i_mull, if_true, if_false, eq_self, decide_eq_true_eq, decide_true, decide_false, Option.bind_some, Option.bind_none, ↓fu_ltd, ↓reduceIte, ↓ob_ite, ↓ob_asc, Bool.false_eq_true, Bool.true_eq_false, not_true_eq_false, not_false_eq_true, Nat.not_lt_zero, Nat.le_zero_eq, Nat.reduceAdd, Nat.reduceMul, Nat.reduceSub, Nat.reduceEqDiff, Nat.reduceLT, Nat.reduceLeDiff, sC_def, sR_def, sC_1, sC_2, sR_1, sR_2, sC_st, sR_st, sR_no, sR_refuse, and_self, true_and, and_true, false_and, and_false, l_X12_ringFrom_6, h8]
  | f + 1, g + 1, n, hn, hg => by
    have hn7 : n + 1 ≤ 7 := by omega
    have hA := d_rw_lt hp hT n
    have hB := d_rw_lt hp hT (n + 1)
    have e1 := r_fromAll (x1 := Int32.ofNat p) (x3 := Int32.ofNat (n + 1)) (S := d_rw T p n) hs hA
    rw [show d_fa T (d_rw T p n) = d_rw T p (n + 1) from rfl] at e1
    have e2 := r_hasn (a := d_rw T p (n + 1)) (b := p) (by omega) (by omega)
    rw [d_rf]
    cases h : (d_rw T p (n + 1)).testBit p
    · have ih := r_ringL hp hT hs (f := f) (g := g) (n := n + 1) (by omega) (by omega)
      rw [if_neg (show ¬ false = true by simp)]
      generalize d_rw T p n = A at *
      generalize d_rw T p (n + 1) = B at *
      simp (maxSteps := 1000000) (disch := omega) only [ne_eq, i_lt0, i_le0, i_eq0, i_n1, i_ltl, i_lel, i_eql, i_lt, i_le, i_eq, i_in, i_tn, i_add, i_addl, i_addr, i_mul, i_mulr, i_mull, if_true, if_false, eq_self, decide_eq_true_eq, decide_true, decide_false, Option.bind_some, Option.bind_none, ↓fu_ltd, ↓reduceIte, ↓ob_ite, ↓ob_asc, Bool.false_eq_true, Bool.true_eq_false, not_true_eq_false, not_false_eq_true, Nat.not_lt_zero, Nat.le_zero_eq, Nat.reduceAdd, Nat.reduceMul, Nat.reduceSub, Nat.reduceEqDiff, Nat.reduceLT, Nat.reduceLeDiff, sC_def, sR_def, sC_1, sC_2, sR_1, sR_2, sC_st, sR_st, sR_no, sR_refuse, and_self, true_and, and_true, false_and, and_false, l_X12_ringFrom_6, hn7, e1, e2, h, i_add1, ih]
    · rw [if_pos rfl, if_neg (by omega)]
      generalize d_rw T p n = A at *
      generalize d_rw T p (n + 1) = B at *
      simp (maxSteps := 1000000) (disch := omega) only [ne_eq, i_lt0, i_le0, i_eq0, i_n1, i_ltl, i_lel, i_eql, i_lt, i_le, i_eq, i_in, i_tn, i_add, i_addl, i_addr, i_mul, i_mulr, i_mull, if_true, if_false, eq_self, decide_eq_true_eq, decide_true, decide_false, Option.bind_some, Option.bind_none, ↓fu_ltd, ↓reduceIte, ↓ob_ite, ↓ob_asc, Bool.false_eq_true, Bool.true_eq_false, not_true_eq_false, not_false_eq_true, Nat.not_lt_zero, Nat.le_zero_eq, Nat.reduceAdd, Nat.reduceMul, Nat.reduceSub, Nat.reduceEqDiff, Nat.reduceLT, Nat.reduceLeDiff, sC_def, sR_def, sC_1, sC_2, sR_1, sR_2, sC_st, sR_st, sR_no, sR_refuse, and_self, true_and, and_true, false_and, and_false, l_X12_ringFrom_6, hn7, e1, e2, h]
theorem e_lt {a b : Nat} (ha : a < 2147483648) (hb : b < 2147483648) (h : a ≠ 0) : (Int32.ofNat a < e_n b) ↔ (b ≠ 0 ∧ a < b) := by
  unfold e_n
  by_cases h0 : b = 0
  · rw [if_pos h0]
    constructor
    · intro z
      rw [Int32.lt_iff_toInt_lt, i_ti ha, show (-1 : Int32).toInt = -1 from rfl] at z
      omega
    · exact fun z => absurd h0 z.1
  · rw [if_neg h0, i_lt ha hb]
    exact ⟨fun z => ⟨h0, z⟩, fun z => z.2⟩
theorem e_n1 {a : Nat} (ha : a < 2147483648) : (e_n a = -1) ↔ a = 0 := by
  unfold e_n
  by_cases h0 : a = 0
  · rw [if_pos h0]; exact ⟨fun _ => h0, fun _ => rfl⟩
  · rw [if_neg h0, i_n1 ha]; exact ⟨False.elim, fun z => h0 z⟩
theorem e_neg {a : Nat} (ha : a < 2147483648) : (e_n a < 0) ↔ a = 0 := by
  unfold e_n
  by_cases h0 : a = 0
  · rw [if_pos h0]; exact ⟨fun _ => h0, fun _ => by decide⟩
  · rw [if_neg h0]; exact ⟨fun z => absurd z (i_neg ha), fun z => absurd z h0⟩
theorem e_of {a : Nat} (h : a ≠ 0) : e_n a = Int32.ofNat a := if_neg h
theorem c_short (hT : ∀ q, q < 7 → T q < 128) (hs : ∀ r, r < 7 → s.1 115 r = Int32.ofNat (T r)) : f_X0_shortestRing s = some (e_n (d_sh (d_rg T) 7)) := by
  have hb : ∀ n, d_sh (d_rg T) n ≤ 7 := fun n => d_sh_le (fun k => d_rg_le)
  have hL : l_X0_shortestRing_4 fu_N s (-1) 0 = some (e_n (d_sh (d_rg T) 7)) := lp_up (l := fun f σ k => l_X0_shortestRing_4 f s (e_n σ) (Int32.ofNat k)) (N := 7) (S := fun k => d_sh (d_rg T) k) (r := e_n (d_sh (d_rg T) 7)) (fun n k hk => by
      have e1 := hs k hk
      obtain ⟨F, L, h1, h2, h3, h4⟩ := c_ringL (x1 := e_n (d_sh (d_rg T) k)) (f := 6) (g := fu_N) (n := 1) hk hT hs (by omega) (by omega) (fu_N_gt (by omega))
      rw [d_rw_1 hk] at h1
      have h1' : l_X0_shortestRing_20 fu_N s (e_n (d_sh (d_rg T) k)) (Int32.ofNat k) (Int32.ofNat (T k)) 1 = _ := h1
      have hb' := hb k
      show l_X0_shortestRing_4 (n + 1) s (e_n (d_sh (d_rg T) k)) (Int32.ofNat k) = l_X0_shortestRing_4 n s (e_n (d_sh (d_rg T) (k + 1))) (Int32.ofNat (k + 1))
      rw [d_sh]
      rcases h4 with ⟨h4, h5, hL0⟩ | ⟨h4, h5⟩
      · have h5' : d_rg T k = L := h5
        rw [h5', if_neg hL0]
        generalize hA : d_sh (d_rg T) k = A at *
        by_cases h0 : A = 0
        · rw [if_pos h0, e_of hL0]
          have z : e_n A = -1 := (e_n1 (by omega)).mpr h0
          rw [z] at h1'
          simp (maxSteps := 1000000) (disch := omega) only [ne_eq, i_lt0, i_le0, i_eq0, i_n1, i_ltl, i_lel, i_eql, i_lt, i_le, i_eq, i_in, i_tn, i_add, i_addl, i_addr, i_mul, i_mulr, i_mull, if_true, if_false, eq_self, decide_eq_true_eq, decide_true, decide_false, Option.bind_some, Option.bind_none, ↓fu_ltd, ↓reduceIte, ↓ob_ite, ↓ob_asc, Bool.false_eq_true, Bool.true_eq_false, not_true_eq_false, not_false_eq_true, Nat.not_lt_zero, Nat.le_zero_eq, Nat.reduceAdd, Nat.reduceMul, Nat.reduceSub, Nat.reduceEqDiff, Nat.reduceLT, Nat.reduceLeDiff, sC_def, sR_def, sC_1, sC_2, sR_1, sR_2, sC_st, sR_st, sR_no, sR_refuse, and_self, true_and, and_true, false_and, and_false, l_X0_shortestRing_4, hk, e1, h1', i_bit0, h4, z, i_add1]
        · rw [if_neg h0]
          have z : ¬ e_n A = -1 := fun w => h0 ((e_n1 (by omega)).mp w)
          have z' := e_lt (a := L) (b := A) (by omega) (by omega) hL0
          by_cases h6 : L < A
          · rw [if_pos h6, e_of hL0]
            have z2 : Int32.ofNat L < e_n A := z'.mpr ⟨h0, h6⟩
            simp (maxSteps := 1000000) (disch := omega) only [ne_eq, i_lt0, i_le0, i_eq0, i_n1, i_ltl, i_lel, i_eql, i_lt, i_le, i_eq, i_in, i_tn, i_add, i_addl, i_addr, i_mul, i_mulr, i_mull, if_true, if_false, eq_self, decide_eq_true_eq, decide_true, decide_false, Option.bind_some, Option.bind_none, ↓fu_ltd, ↓reduceIte, ↓ob_ite, ↓ob_asc, Bool.false_eq_true, Bool.true_eq_false, not_true_eq_false, not_false_eq_true, Nat.not_lt_zero, Nat.le_zero_eq, Nat.reduceAdd, Nat.reduceMul, Nat.reduceSub, Nat.reduceEqDiff, Nat.reduceLT, Nat.reduceLeDiff, sC_def, sR_def, sC_1, sC_2, sR_1, sR_2, sC_st, sR_st, sR_no, sR_refuse, and_self, true_and, and_true, false_and, and_false, l_X0_shortestRing_4, hk, e1, h1', i_bit0, h4, z, z2, i_add1]
          · rw [if_neg h6]
            have z2 : ¬ Int32.ofNat L < e_n A := fun w => h6 (z'.mp w).2
            simp (maxSteps := 1000000) (disch := omega) only [ne_eq, i_lt0, i_le0, i_eq0, i_n1, i_ltl, i_lel, i_eql, i_lt, i_le, i_eq, i_in, i_tn, i_add, i_addl, i_addr, i_mul, i_mulr, i_mull, if_true, if_false, eq_self, decide_eq_true_eq, decide_true, decide_false, Option.bind_some, Option.bind_none, ↓fu_ltd, ↓reduceIte, ↓ob_ite, ↓ob_asc, Bool.false_eq_true, Bool.true_eq_false, not_true_eq_false, not_false_eq_true, Nat.not_lt_zero, Nat.le_zero_eq, Nat.reduceAdd, Nat.reduceMul, Nat.reduceSub, Nat.reduceEqDiff, Nat.reduceLT, Nat.reduceLeDiff, sC_def, sR_def, sC_1, sC_2, sR_1, sR_2, sC_st, sR_st, sR_no, sR_refuse, and_self, true_and, and_true, false_and, and_false, l_X0_shortestRing_4, hk, e1, h1', i_bit0, h4, z, z2, i_add1]
      · have h5' : d_rg T k = 0 := h5
        rw [h5', if_pos rfl]
        simp (maxSteps := 1000000) (disch := omega) only [ne_eq, i_lt0, i_le0, i_eq0, i_n1, i_ltl, i_lel, i_eql, i_lt, i_le, i_eq, i_in, i_tn, i_add, i_addl, i_addr, i_mul, i_mulr, i_mull, if_true, if_false, eq_self, decide_eq_true_eq, decide_true, decide_false, Option.bind_some, Option.bind_none, ↓fu_ltd, ↓reduceIte, ↓ob_ite, ↓ob_asc, Bool.false_eq_true, Bool.true_eq_false, not_true_eq_false, not_false_eq_true, Nat.not_lt_zero, Nat.le_zero_eq, Nat.reduceAdd, Nat.reduceMul, Nat.reduceSub, Nat.reduceEqDiff, Nat.reduceLT, Nat.reduceLeDiff, sC_def, sR_def, sC_1, sC_2, sR_1, sR_2, sC_st, sR_st, sR_no, sR_refuse, and_self, true_and, and_true, false_and, and_false, l_X0_shortestRing_4, hk, e1, h1', i_bit0, h4, i_add1]) (fun n => by
      show l_X0_shortestRing_4 (n + 1) s (e_n (d_sh (d_rg T) 7)) (Int32.ofNat 7) = _
      simp (maxSteps := 1000000) (disch := omega) only [ne_eq, i_lt0, i_le0, i_eq0, i_n1, i_ltl, i_lel, i_eql, i_lt, i_le, i_eq, i_in, i_tn, i_add, i_addl, i_addr, i_mul, i_mulr, i_mull, if_true, if_false, eq_self, decide_eq_true_eq, decide_true, decide_false, Option.bind_some, Option.bind_none, ↓fu_ltd, ↓reduceIte, ↓ob_ite, ↓ob_asc, Bool.false_eq_true, Bool.true_eq_false, not_true_eq_false, not_false_eq_true, Nat.not_lt_zero, Nat.le_zero_eq, Nat.reduceAdd, Nat.reduceMul, Nat.reduceSub, Nat.reduceEqDiff, Nat.reduceLT, Nat.reduceLeDiff, sC_def, sR_def, sC_1, sC_2, sR_1, sR_2, sC_st, sR_st, sR_no, sR_refuse, and_self, true_and, and_true, false_and, and_false, l_X0_shortestRing_4, Nat.lt_irrefl]) (f := fu_N) (k := 0) (by omega) (fu_N_gt (by omega))
  simp (maxSteps := 1000000) (disch := omega) only [ne_eq, i_lt0, i_le0, i_eq0, i_n1, i_ltl, i_lel, i_eql, i_lt, i_le, i_eq, i_in, i_tn, i_add, i_addl, i_addr, i_mul, i_mulr, i_mull, if_true, if_false, eq_self, decide_eq_true_eq, decide_true, decide_false, Option.bind_some, Option.bind_none, ↓fu_ltd, ↓reduceIte, ↓ob_ite, ↓ob_asc, Bool.false_eq_true, Bool.true_eq_false, not_true_eq_false, not_false_eq_true, Nat.not_lt_zero, Nat.le_zero_eq, Nat.reduceAdd, Nat.reduceMul, Nat.reduceSub, Nat.reduceEqDiff, Nat.reduceLT, Nat.reduceLeDiff, sC_def, sR_def, sC_1, sC_2, sR_1, sR_2, sC_st, sR_st, sR_no, sR_refuse, and_self, true_and, and_true, false_and, and_false, f_X0_shortestRing, hL]
theorem r_short {m : Nat} (hm : m ≤ 7) (h1 : s.1 122 1 = Int32.ofNat m) (hT : ∀ q, q < 7 → T q < 128) (hs : ∀ r, r < 7 → s.1 125 r = Int32.ofNat (T r)) : f_X12_shortestRing s = some (e_n (d_sh (d_rg T) m)) := by
  have hb : ∀ n, d_sh (d_rg T) n ≤ 7 := fun n => d_sh_le (fun k => d_rg_le)
  have hL : l_X12_shortestRing_4 fu_N s (-1) 0 = some (e_n (d_sh (d_rg T) m)) := lp_up (l := fun f σ k => l_X12_shortestRing_4 f s (e_n σ) (Int32.ofNat k)) (N := m) (S := fun k => d_sh (d_rg T) k) (r := e_n (d_sh (d_rg T) m)) (fun n k hk => by
      have hk7 : k < 7 := by omega
      have e1 := r_ringL (f := 7) (g := fu_N) (n := 0) hk7 hT hs (by omega) (fu_N_gt (by omega))
      rw [show d_rf T k 7 (0 + 1) = d_rg T k from rfl, show d_rw T k 0 = 2 ^ k from rfl] at e1
      have e1' : l_X12_ringFrom_6 fu_N s (Int32.ofNat k) (Int32.ofNat (2 ^ k)) 1 = _ := e1
      have hb' := hb k
      have hR : d_rg T k ≤ 7 := d_rg_le
      have e2 : f_X12_ringFrom s (Int32.ofNat k) = some (e_n (d_rg T k)) := by
        by_cases h0 : d_rg T k = 0
        · rw [if_pos h0] at e1'
          simp (maxSteps := 1000000) (disch := omega) only [ne_eq, i_lt0, i_le0, i_eq0, i_n1, i_ltl, i_lel, i_eql, i_lt, i_le, i_eq, i_in, i_tn, i_add, i_addl, i_addr, i_mul, i_mulr, i_mull, if_true, if_false, eq_self, decide_eq_true_eq, decide_true, decide_false, Option.bind_some, Option.bind_none, ↓fu_ltd, ↓reduceIte, ↓ob_ite, ↓ob_asc, Bool.false_eq_true, Bool.true_eq_false, not_true_eq_false, not_false_eq_true, Nat.not_lt_zero, Nat.le_zero_eq, Nat.reduceAdd, Nat.reduceMul, Nat.reduceSub, Nat.reduceEqDiff, Nat.reduceLT, Nat.reduceLeDiff, sC_def, sR_def, sC_1, sC_2, sR_1, sR_2, sC_st, sR_st, sR_no, sR_refuse, and_self, true_and, and_true, false_and, and_false, f_X12_ringFrom, i_shl, e1', Sum.elim_inr]
          rw [h0]
          rfl
        · rw [if_neg h0] at e1'
          simp (maxSteps := 1000000) (disch := omega) only [ne_eq, i_lt0, i_le0, i_eq0, i_n1, i_ltl, i_lel, i_eql, i_lt, i_le, i_eq, i_in, i_tn, i_add, i_addl, i_addr, i_mul, i_mulr, i_mull, if_true, if_false, eq_self, decide_eq_true_eq, decide_true, decide_false, Option.bind_some, Option.bind_none, ↓fu_ltd, ↓reduceIte, ↓ob_ite, ↓ob_asc, Bool.false_eq_true, Bool.true_eq_false, not_true_eq_false, not_false_eq_true, Nat.not_lt_zero, Nat.le_zero_eq, Nat.reduceAdd, Nat.reduceMul, Nat.reduceSub, Nat.reduceEqDiff, Nat.reduceLT, Nat.reduceLeDiff, sC_def, sR_def, sC_1, sC_2, sR_1, sR_2, sC_st, sR_st, sR_no, sR_refuse, and_self, true_and, and_true, false_and, and_false, f_X12_ringFrom, i_shl, e1', Sum.elim_inl, e_of, h0]
      show l_X12_shortestRing_4 (n + 1) s (e_n (d_sh (d_rg T) k)) (Int32.ofNat k) = l_X12_shortestRing_4 n s (e_n (d_sh (d_rg T) (k + 1))) (Int32.ofNat (k + 1))
      rw [d_sh]
      generalize d_rg T k = L at *
      generalize d_sh (d_rg T) k = A at *
      by_cases hL0 : L = 0
      · rw [if_pos hL0]
        have z : e_n L < 0 := (e_neg (by omega)).mpr hL0
        simp (maxSteps := 1000000) (disch := omega) only [ne_eq, i_lt0, i_le0, i_eq0, i_n1, i_ltl, i_lel, i_eql, i_lt, i_le, i_eq, i_in, i_tn, i_add, i_addl, i_addr, i_mul, i_mulr, i_mull, if_true, if_false, eq_self, decide_eq_true_eq, decide_true, decide_false, Option.bind_some, Option.bind_none, ↓fu_ltd, ↓reduceIte, ↓ob_ite, ↓ob_asc, Bool.false_eq_true, Bool.true_eq_false, not_true_eq_false, not_false_eq_true, Nat.not_lt_zero, Nat.le_zero_eq, Nat.reduceAdd, Nat.reduceMul, Nat.reduceSub, Nat.reduceEqDiff, Nat.reduceLT, Nat.reduceLeDiff, sC_def, sR_def, sC_1, sC_2, sR_1, sR_2, sC_st, sR_st, sR_no, sR_refuse, and_self, true_and, and_true, false_and, and_false, l_X12_shortestRing_4, h1, hk, e2, z, i_add1]
      · rw [if_neg hL0]
        have z : ¬ e_n L < 0 := fun w => hL0 ((e_neg (by omega)).mp w)
        by_cases h0 : A = 0
        · rw [if_pos h0]
          have z1 : e_n A < 0 := (e_neg (by omega)).mpr h0
          simp (maxSteps := 1000000) (disch := omega) only [ne_eq, i_lt0, i_le0, i_eq0, i_n1, i_ltl, i_lel, i_eql, i_lt, i_le, i_eq, i_in, i_tn, i_add, i_addl, i_addr, i_mul, i_mulr, i_mull, if_true, if_false, eq_self, decide_eq_true_eq, decide_true, decide_false, Option.bind_some, Option.bind_none, ↓fu_ltd, ↓reduceIte, ↓ob_ite, ↓ob_asc, Bool.false_eq_true, Bool.true_eq_false, not_true_eq_false, not_false_eq_true, Nat.not_lt_zero, Nat.le_zero_eq, Nat.reduceAdd, Nat.reduceMul, Nat.reduceSub, Nat.reduceEqDiff, Nat.reduceLT, Nat.reduceLeDiff, sC_def, sR_def, sC_1, sC_2, sR_1, sR_2, sC_st, sR_st, sR_no, sR_refuse, and_self, true_and, and_true, false_and, and_false, l_X12_shortestRing_4, h1, hk, e2, z, z1, i_add1]
        · rw [if_neg h0]
          have z1 : ¬ e_n A < 0 := fun w => h0 ((e_neg (by omega)).mp w)
          have z' := e_lt (a := L) (b := A) (by omega) (by omega) hL0
          rw [← e_of hL0] at z'
          by_cases h6 : L < A
          · rw [if_pos h6]
            have z2 : e_n L < e_n A := z'.mpr ⟨h0, h6⟩
            simp (maxSteps := 1000000) (disch := omega) only [ne_eq, i_lt0, i_le0, i_eq0, i_n1, i_ltl, i_lel, i_eql, i_lt, i_le, i_eq, i_in, i_tn, i_add, i_addl, i_addr, i_mul, i_mulr, i_mull, if_true, if_false, eq_self, decide_eq_true_eq, decide_true, decide_false, Option.bind_some, Option.bind_none, ↓fu_ltd, ↓reduceIte, ↓ob_ite, ↓ob_asc, Bool.false_eq_true, Bool.true_eq_false, not_true_eq_false, not_false_eq_true, Nat.not_lt_zero, Nat.le_zero_eq, Nat.reduceAdd, Nat.reduceMul, Nat.reduceSub, Nat.reduceEqDiff, Nat.reduceLT, Nat.reduceLeDiff, sC_def, sR_def, sC_1, sC_2, sR_1, sR_2, sC_st, sR_st, sR_no, sR_refuse, and_self, true_and, and_true, false_and, and_false, l_X12_shortestRing_4, h1, hk, e2, z, z1, z2, i_add1]
          · rw [if_neg h6]
            have z2 : ¬ e_n L < e_n A := fun w => h6 (z'.mp w).2
            simp (maxSteps := 1000000) (disch := omega) only [ne_eq, i_lt0, i_le0, i_eq0, i_n1, i_ltl, i_lel, i_eql, i_lt, i_le, i_eq, i_in, i_tn, i_add, i_addl, i_addr, i_mul, i_mulr, i_mull, if_true, if_false, eq_self, decide_eq_true_eq, decide_true, decide_false, Option.bind_some, Option.bind_none, ↓fu_ltd, ↓reduceIte, ↓ob_ite, ↓ob_asc, Bool.false_eq_true, Bool.true_eq_false, not_true_eq_false, not_false_eq_true, Nat.not_lt_zero, Nat.le_zero_eq, Nat.reduceAdd, Nat.reduceMul, Nat.reduceSub, Nat.reduceEqDiff, Nat.reduceLT, Nat.reduceLeDiff, sC_def, sR_def, sC_1, sC_2, sR_1, sR_2, sC_st, sR_st, sR_no, sR_refuse, and_self, true_and, and_true, false_and, and_false, l_X12_shortestRing_4, h1, hk, e2, z, z1, z2, i_add1]) (fun n => by
      show l_X12_shortestRing_4 (n + 1) s (e_n (d_sh (d_rg T) m)) (Int32.ofNat m) = _
      simp (maxSteps := 1000000) (disch := omega) only [ne_eq, i_lt0, i_le0, i_eq0, i_n1, i_ltl, i_lel, i_eql, i_lt, i_le, i_eq, i_in, i_tn, i_add, i_addl, i_addr, i_mul, i_mulr, i_mull, if_true, if_false, eq_self, decide_eq_true_eq, decide_true, decide_false, Option.bind_some, Option.bind_none, ↓fu_ltd, ↓reduceIte, ↓ob_ite, ↓ob_asc, Bool.false_eq_true, Bool.true_eq_false, not_true_eq_false, not_false_eq_true, Nat.not_lt_zero, Nat.le_zero_eq, Nat.reduceAdd, Nat.reduceMul, Nat.reduceSub, Nat.reduceEqDiff, Nat.reduceLT, Nat.reduceLeDiff, sC_def, sR_def, sC_1, sC_2, sR_1, sR_2, sC_st, sR_st, sR_no, sR_refuse, and_self, true_and, and_true, false_and, and_false, l_X12_shortestRing_4, h1, Nat.lt_irrefl]) (f := fu_N) (k := 0) (by omega) (fu_N_gt (by omega))
  simp (maxSteps := 1000000) (disch := omega) only [ne_eq, i_lt0, i_le0, i_eq0, i_n1, i_ltl, i_lel, i_eql, i_lt, i_le, i_eq, i_in, i_tn, i_add, i_addl, i_addr, i_mul, i_mulr, i_mull, if_true, if_false, eq_self, decide_eq_true_eq, decide_true, decide_false, Option.bind_some, Option.bind_none, ↓fu_ltd, ↓reduceIte, ↓ob_ite, ↓ob_asc, Bool.false_eq_true, Bool.true_eq_false, not_true_eq_false, not_false_eq_true, Nat.not_lt_zero, Nat.le_zero_eq, Nat.reduceAdd, Nat.reduceMul, Nat.reduceSub, Nat.reduceEqDiff, Nat.reduceLT, Nat.reduceLeDiff, sC_def, sR_def, sC_1, sC_2, sR_1, sR_2, sC_st, sR_st, sR_no, sR_refuse, and_self, true_and, and_true, false_and, and_false, f_X12_shortestRing, hL]
end RNG
theorem d_fa_0 {T : Nat → Nat} {p n : Nat} (h : ∀ q, q < 7 → (T q).testBit p = false) : (d_rw T p (n + 1)).testBit p = false := by
  have : ∀ (m S : Nat), m ≤ 7 → (d_or (fun q => if S.testBit q = true then T q else 0) m).testBit p = false := by
    intro m S
    induction m with
    | zero => intro _; simp [d_or]
    | succ m ih =>
      intro hm
      rw [d_or_s, Nat.testBit_or, ih (by omega), Bool.false_or]
      split
      · exact h m (by omega)
      · simp
  exact this 7 _ (by omega)
theorem d_rg_0 {T : Nat → Nat} {p : Nat} (h : ∀ q, q < 7 → (T q).testBit p = false) : d_rg T p = 0 := by
  have : ∀ f n, d_rf T p f (n + 1) = 0 := by
    intro f
    induction f with
    | zero => intro n; rfl
    | succ f ih =>
      intro n
      rw [d_rf, d_fa_0 h, if_neg (by simp)]
      exact ih (n + 1)
  exact this 7 0
theorem d_need_bit {D : dD} {W r p : Nat} (hv : dV D) (hp : D 0 4 ≤ p) : (d_need D W r).testBit p = false := by
  have : ∀ m, m ≤ D 0 5 → (d_or (d_nt D W r) m).testBit p = false := by
    intro m
    induction m with
    | zero => intro _; simp [d_or]
    | succ m ih =>
      intro hm
      rw [d_or_s, Nat.testBit_or, ih (by omega), Bool.false_or]
      unfold d_nt
      split
      · have := d_b_lt hv (show m < D 0 5 by omega)
        rw [Nat.testBit_two_pow, decide_eq_false (by omega)]
      · simp
  exact this _ (Nat.le_refl _)
def d_short (D : dD) (W : Nat) : Nat := d_sh (d_rg (d_need D W)) (D 0 4)
theorem d_short_7 {D : dD} {W : Nat} (hv : dV D) : d_sh (d_rg (d_need D W)) 7 = d_short D W := by
  have hp4 := hv.1
  have := d_sh_ext (R := d_rg (d_need D W)) (n := D 0 4) (k := 7 - D 0 4) fun j h1 h2 => d_rg_0 fun q _ => d_need_bit hv h1
  rw [show D 0 4 + (7 - D 0 4) = 7 by omega] at this
  exact this
theorem d_short_le {D : dD} {W : Nat} : d_short D W ≤ 7 := d_sh_le fun k => d_rg_le
theorem hd_29 : lw_E_29 dI := by
  intro s1 s2 hI
  obtain ⟨D, hv, hC, hR, -⟩ := dI_D hI
  have hp4 := hv.1
  have hr := fun x => dR_s (x := x) hv hR
  have e1 : f_X0_drawNeeds s1 11 0 = _ := c_drawN (W := 0) hC hv (by omega) (by omega)
  have e2 : f_X12_laysNeeds (sR s2 0) 0 = _ := r_drawN (W := 0) (hr 0) hv (by omega)
  have e3 := c_short (s := wri s1 115 7 (fun r => Int32.ofNat (d_need D 0 r))) (T := d_need D 0) (fun q _ => d_need_lt hv) (fun r hr => wri_r hr)
  have e4 := r_short (s := wri (sR s2 0) 125 7 (fun r => Int32.ofNat (d_need D 0 r))) (T := d_need D 0) (m := D 0 4) (by omega) (by rw [wri_n (by omega), sR_1 (by omega)]; exact (dR_0 hR).1.2.1) (fun q _ => d_need_lt hv) (fun r hr => wri_r hr)
  rw [d_short_7 hv] at e3
  rw [show d_sh (d_rg (d_need D 0)) (D 0 4) = d_short D 0 from rfl] at e4
  have hle := d_short_le (D := D) (W := 0)
  generalize d_short D 0 = L at *
  by_cases h0 : L = 0
  · have z1 := (e_n1 (a := L) (by omega)).mpr h0
    have z2 := (e_neg (a := L) (by omega)).mpr h0
    refine ⟨-1, sC (wri s1 115 7 (fun r => Int32.ofNat (d_need D 0 r))) 8, fu_pi (wri (sR s2 0) 125 7 (fun r => Int32.ofNat (d_need D 0 r))) 117 0 8, ?_, ?_, dI_eq hI (eqC_tr (eqC_w (by omega)) eqC_sC) (eqR_tr (eqR_tr eqR_sR (eqR_w (by omega))) (eqR_st (by omega) (by omega) (by omega) (by omega) (by omega))) ?_⟩
    · simp (maxSteps := 1000000) (disch := omega) only [ne_eq, i_lt0, i_le0, i_eq0, i_n1, i_ltl, i_lel, i_eql, i_lt, i_le, i_eq, i_in, i_tn, i_add, i_addl, i_addr, i_mul, i_mulr, i_mull, if_true, if_false, eq_self, decide_eq_true_eq, decide_true, decide_false, Option.bind_some, Option.bind_none, ↓fu_ltd, ↓reduceIte, ↓ob_ite, ↓ob_asc, Bool.false_eq_true, Bool.true_eq_false, not_true_eq_false, not_false_eq_true, Nat.not_lt_zero, Nat.le_zero_eq, Nat.reduceAdd, Nat.reduceMul, Nat.reduceSub, Nat.reduceEqDiff, Nat.reduceLT, Nat.reduceLeDiff, sC_def, sR_def, sC_1, sC_2, sR_1, sR_2, sC_st, sR_st, sR_no, sR_refuse, and_self, true_and, and_true, false_and, and_false, f_X11_ring, e1, e3, z1]
    · simp (maxSteps := 1000000) (disch := omega) only [ne_eq, i_lt0, i_le0, i_eq0, i_n1, i_ltl, i_lel, i_eql, i_lt, i_le, i_eq, i_in, i_tn, i_add, i_addl, i_addr, i_mul, i_mulr, i_mull, if_true, if_false, eq_self, decide_eq_true_eq, decide_true, decide_false, Option.bind_some, Option.bind_none, ↓fu_ltd, ↓reduceIte, ↓ob_ite, ↓ob_asc, Bool.false_eq_true, Bool.true_eq_false, not_true_eq_false, not_false_eq_true, Nat.not_lt_zero, Nat.le_zero_eq, Nat.reduceAdd, Nat.reduceMul, Nat.reduceSub, Nat.reduceEqDiff, Nat.reduceLT, Nat.reduceLeDiff, sC_def, sR_def, sC_1, sC_2, sR_1, sR_2, sC_st, sR_st, sR_no, sR_refuse, and_self, true_and, and_true, false_and, and_false, f_X12_ring, e2, e4, z2, f_X12_refuse]
    · rw [sC_st, p1]
  · have z1 : ¬ e_n L = -1 := fun w => h0 ((e_n1 (by omega)).mp w)
    have z2 : ¬ e_n L < 0 := fun w => h0 ((e_neg (by omega)).mp w)
    refine ⟨e_n L, sC (wri s1 115 7 (fun r => Int32.ofNat (d_need D 0 r))) 0, wri (sR s2 0) 125 7 (fun r => Int32.ofNat (d_need D 0 r)), ?_, ?_, dI_eq hI (eqC_tr (eqC_w (by omega)) eqC_sC) (eqR_tr eqR_sR (eqR_w (by omega))) ?_⟩
    · simp (maxSteps := 1000000) (disch := omega) only [ne_eq, i_lt0, i_le0, i_eq0, i_n1, i_ltl, i_lel, i_eql, i_lt, i_le, i_eq, i_in, i_tn, i_add, i_addl, i_addr, i_mul, i_mulr, i_mull, if_true, if_false, eq_self, decide_eq_true_eq, decide_true, decide_false, Option.bind_some, Option.bind_none, ↓fu_ltd, ↓reduceIte, ↓ob_ite, ↓ob_asc, Bool.false_eq_true, Bool.true_eq_false, not_true_eq_false, not_false_eq_true, Nat.not_lt_zero, Nat.le_zero_eq, Nat.reduceAdd, Nat.reduceMul, Nat.reduceSub, Nat.reduceEqDiff, Nat.reduceLT, Nat.reduceLeDiff, sC_def, sR_def, sC_1, sC_2, sR_1, sR_2, sC_st, sR_st, sR_no, sR_refuse, and_self, true_and, and_true, false_and, and_false, f_X11_ring, e1, e3, z1]
    · simp (maxSteps := 1000000) (disch := omega) only [ne_eq, i_lt0, i_le0, i_eq0, i_n1, i_ltl, i_lel, i_eql, i_lt, i_le, i_eq, i_in, i_tn, i_add, i_addl, i_addr, i_mul, i_mulr, i_mull, if_true, if_false, eq_self, decide_eq_true_eq, decide_true, decide_false, Option.bind_some, Option.bind_none, ↓fu_ltd, ↓reduceIte, ↓ob_ite, ↓ob_asc, Bool.false_eq_true, Bool.true_eq_false, not_true_eq_false, not_false_eq_true, Nat.not_lt_zero, Nat.le_zero_eq, Nat.reduceAdd, Nat.reduceMul, Nat.reduceSub, Nat.reduceEqDiff, Nat.reduceLT, Nat.reduceLeDiff, sC_def, sR_def, sC_1, sC_2, sR_1, sR_2, sC_st, sR_st, sR_no, sR_refuse, and_self, true_and, and_true, false_and, and_false, f_X12_ring, e2, e4, z2]
    · rw [sC_st, wri_n (by omega), sR_st]
