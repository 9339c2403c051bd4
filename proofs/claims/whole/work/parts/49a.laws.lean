/-! laws, lawOf -/
def d_allb (c : Nat → Bool) : Nat → Bool
  | 0 => true
  | n + 1 => d_allb c n && c n
theorem d_allb_iff {c : Nat → Bool} : ∀ {n}, d_allb c n = true ↔ ∀ k, k < n → c k = true
  | 0 => by simp [d_allb]
  | n + 1 => by
    rw [d_allb, Bool.and_eq_true, d_allb_iff]
    constructor
    · rintro ⟨h1, h2⟩ k hk
      by_cases e : k = n
      · rw [e]; exact h2
      · exact h1 k (by omega)
    · intro h
      exact ⟨fun k hk => h k (by omega), h n (by omega)⟩
/-- a loop that looks whether all are so -/
theorem lp_all {α : Type} {l : Nat → Nat → Option (α ⊕ Unit)} {N : Nat} (c : Nat → Prop) {a : α} (ht : ∀ n k, k < N → c k → l (n + 1) k = l n (k + 1)) (hf : ∀ n k, k < N → ¬ c k → l (n + 1) k = some (.inl a)) (he : ∀ n, l (n + 1) N = some (.inr ())) : ∀ {f k : Nat}, k ≤ N → N - k < f → ((∀ j, k ≤ j → j < N → c j) ∧ l f k = some (.inr ())) ∨ (¬ (∀ j, k ≤ j → j < N → c j) ∧ l f k = some (.inl a))
  | 0, _, _, h => absurd h (by omega)
  | f + 1, k, hk, hf' => by
    by_cases h : k = N
    · subst h
      exact .inl ⟨fun j h1 h2 => absurd h1 (by omega), he f⟩
    · by_cases h2 : c k
      · rw [ht f k (by omega) h2]
        rcases lp_all c ht hf he (f := f) (k := k + 1) (by omega) (by omega) with ⟨h3, h4⟩ | ⟨h3, h4⟩
        · refine .inl ⟨fun j h5 h6 => ?_, h4⟩
          by_cases e : j = k
          · rw [e]; exact h2
          · exact h3 j (by omega) h6
        · exact .inr ⟨fun z => h3 fun j h5 h6 => z j (by omega) h6, h4⟩
      · rw [hf f k (by omega) h2]
        exact .inr ⟨fun z => h2 (z k (by omega) (by omega)), rfl⟩
/-- a loop from a to b -/
theorem lp_fr {σ ρ : Type} {l : Nat → σ → Nat → Option ρ} {a b : Nat} (S : Nat → σ) {r : ρ} (hs : ∀ n k, a ≤ k → k < b → l (n + 1) (S k) k = l n (S (k + 1)) (k + 1)) (he : ∀ n, l (n + 1) (S b) b = some r) : ∀ {f k : Nat}, a ≤ k → k ≤ b → b - k < f → l f (S k) k = some r
  | 0, _, _, _, h => absurd h (by omega)
  | f + 1, k, ha, hk, hf => by
    by_cases h : k = b
    · subst h; exact he f
    · rw [hs f k ha (by omega)]
      exact lp_fr S hs he (by omega) (by omega) (by omega)
theorem d_fst (c : Nat → Bool) : ∀ n, (∀ k, k < n → c k = false) ∨ ∃ k, k < n ∧ c k = true ∧ ∀ j, j < k → c j = false
  | 0 => .inl fun k hk => absurd hk (by omega)
  | n + 1 => by
    rcases d_fst c n with h | ⟨k, h1, h2, h3⟩
    · cases hc : c n
      · refine .inl fun k hk => ?_
        by_cases e : k = n
        · rw [e]; exact hc
        · exact h k (by omega)
      · exact .inr ⟨n, by omega, hc, h⟩
    · exact .inr ⟨k, by omega, h2, h3⟩
def wv (v : Int64) : Nat := v.toInt.toNat
theorem j_w {v : Int64} {X : Nat} (hX : X < 9223372036854775808) (h0 : ¬ v < 0) (h1 : v < Int64.ofNat X) : v = Int64.ofNat (wv v) ∧ wv v < X := by
  rw [Int64.lt_iff_toInt_lt, show (0 : Int64).toInt = 0 from rfl] at h0
  rw [Int64.lt_iff_toInt_lt, j_ti hX] at h1
  have h2 : wv v < X := by unfold wv; omega
  refine ⟨?_, h2⟩
  apply Int64.toInt_inj.mp
  rw [j_ti (by omega)]
  unfold wv
  omega
theorem j_32 {a : Nat} (h : a < 2147483648) : Int64.toInt32 (Int64.ofNat a) = Int32.ofNat a := by
  apply Int32.toInt_inj.mp
  rw [Int64.toInt_toInt32, j_ti (by omega), i_ti h, Int.bmod_eq_of_le] <;> omega
theorem j_lepred {v : Int64} {n : Nat} (hn : n < 2147483648) : v ≤ Int32.toInt64 (Int32.ofNat n - 1) ↔ v < Int64.ofNat n := by
  have h1 : (Int32.ofNat n - 1).toInt = (n : Int) - 1 := by
    rw [Int32.toInt_sub, i_ti hn, show (1 : Int32).toInt = 1 from rfl, Int.bmod_eq_of_le] <;> omega
  rw [Int64.le_iff_toInt_le, Int64.lt_iff_toInt_lt, Int32.toInt_toInt64, h1, j_ti (by omega)]
  omega
theorem j_le9 {v : Int64} : v ≤ 9 ↔ v < Int64.ofNat 10 := by
  rw [Int64.le_iff_toInt_le, Int64.lt_iff_toInt_lt, show (9 : Int64).toInt = 9 from rfl, show (Int64.ofNat 10).toInt = 10 from rfl]
  omega
section LAW
variable {s : fu_S} {P : Nat} {D : dD} {t n m o k : Nat}
theorem r_isPersonL (h : dR s 0 D) (hv : dV D) {v : Int64} : f_X12_isPersonAt s v = decide (¬ v < 0 ∧ v < Int64.ofNat (D 0 4)) := by
  unfold f_X12_isPersonAt
  have := h.1.2.1
  rw [show s.1 122 1 = Int32.ofNat (D 0 4) from this, r_isIn]
  simp only [j_lepred (show D 0 4 < 2147483648 by have := hv.1; omega)]
theorem r_isIn9 {v : Int64} : f_X12_isIn v (0 : Int64) (9 : Int64) = decide (¬ v < 0 ∧ v < Int64.ofNat 10) := by
  rw [r_isIn]
  simp only [j_le9]
theorem c_numAt {p : Nat} (ht : t < 4) (hn : n ≤ 60) (h : s.1 4 t = Int32.ofNat n) (hp : p < n) : f_X7_numberAt s (Int32.ofNat t) (Int32.ofNat p) = some (s.2 2 (60 * t + p)) := by
  have m1 : 60 * t + p < 240 := by omega
  have m3 : t * 60 + p = 60 * t + p := by omega
  simp (maxSteps := 1000000) (disch := omega) only [ne_eq, i_lt0, i_le0, i_eq0, i_n1, i_ltl, i_lel, i_eql, i_lt, i_le, i_eq, i_in, i_tn, i_add, i_addl, i_addr, i_mul, i_mulr, i_mull, if_true, if_false, eq_self, decide_eq_true_eq, decide_true, decide_false, Option.bind_some, Option.bind_none, ↓fu_ltd, ↓reduceIte, ↓ob_ite, ↓ob_asc, Bool.false_eq_true, Bool.true_eq_false, not_true_eq_false, not_false_eq_true, Nat.not_lt_zero, Nat.le_zero_eq, Nat.reduceAdd, Nat.reduceMul, Nat.reduceSub, Nat.reduceEqDiff, Nat.reduceLT, Nat.reduceLeDiff, sC_def, sR_def, sC_1, sC_2, sR_1, sR_2, sC_st, sR_st, sR_no, sR_refuse, and_self, true_and, and_true, false_and, and_false, f_X7_numberAt, c_hasPl1 ht hn h, hp, m3, m1]
theorem r_numOf {p : Nat} (ht : t < 4) (hp : p < 60) : f_X12_numberOf s (Int32.ofNat t) (Int32.ofNat p) = some (s.2 120 (60 * t + p)) := by
  have m1 : 60 * t + p < 240 := by omega
  simp (maxSteps := 1000000) (disch := omega) only [ne_eq, i_lt0, i_le0, i_eq0, i_n1, i_ltl, i_lel, i_eql, i_lt, i_le, i_eq, i_in, i_tn, i_add, i_addl, i_addr, i_mul, i_mulr, i_mull, if_true, if_false, eq_self, decide_eq_true_eq, decide_true, decide_false, Option.bind_some, Option.bind_none, ↓fu_ltd, ↓reduceIte, ↓ob_ite, ↓ob_asc, Bool.false_eq_true, Bool.true_eq_false, not_true_eq_false, not_false_eq_true, Nat.not_lt_zero, Nat.le_zero_eq, Nat.reduceAdd, Nat.reduceMul, Nat.reduceSub, Nat.reduceEqDiff, Nat.reduceLT, Nat.reduceLeDiff, sC_def, sR_def, sC_1, sC_2, sR_1, sR_2, sC_st, sR_st, sR_no, sR_refuse, and_self, true_and, and_true, false_and, and_false, f_X12_numberOf, m1]
/-- a three that may be -/
def d_ok (D : dD) (v : Nat → Int64) (k : Nat) : Prop := (¬ v (3 * k) < 0 ∧ v (3 * k) < Int64.ofNat (D 0 4)) ∧ (¬ v (3 * k + 1) < 0 ∧ v (3 * k + 1) < Int64.ofNat (D 0 4)) ∧ ¬ v (3 * k + 2) < 0 ∧ v (3 * k + 2) < Int64.ofNat 10
theorem v_bad {v X : Int64} (h : ¬ (¬ v < 0 ∧ v < X)) : v < 0 ∨ (¬ v < 0 ∧ ¬ v < X) := by
  by_cases z : v < 0
  · exact .inl z
  · exact .inr ⟨z, fun w => h ⟨z, w⟩⟩
theorem l_10 : (10 : Int64) = Int64.ofNat 10 := rfl
theorem c_threes (h : dC s P D) (hv : dV D) (ht : t < 4) (hn : n ≤ 60) (h4 : s.1 4 t = Int32.ofNat n) (hm : 3 * m ≤ n) (hm' : m ≤ 15) : ((∀ j, j < m → d_ok D (fun p => s.2 2 (60 * t + p)) j) ∧ f_X1_areThrees s P (Int32.ofNat t) (Int32.ofNat m) = some true) ∨ (¬ (∀ j, j < m → d_ok D (fun p => s.2 2 (60 * t + p)) j) ∧ f_X1_areThrees s P (Int32.ofNat t) (Int32.ofNat m) = some false) := by
  have hp4 := hv.1
  have c4 := h.1.2.2.2.2.1
  have key : ∀ k, k < m → ∃ v0 v1 v2, v0 = s.2 2 (60 * t + 3 * k) ∧ v1 = s.2 2 (60 * t + (3 * k + 1)) ∧ v2 = s.2 2 (60 * t + (3 * k + 2)) ∧ f_X7_numberAt s (Int32.ofNat t) (Int32.ofNat (3 * k)) = some v0 ∧ f_X7_numberAt s (Int32.ofNat t) (Int32.ofNat (3 * k + 1)) = some v1 ∧ f_X7_numberAt s (Int32.ofNat t) (Int32.ofNat (3 * k + 2)) = some v2 := fun k hk =>
    ⟨_, _, _, rfl, rfl, rfl, c_numAt ht hn h4 (by omega), c_numAt ht hn h4 (by omega), c_numAt ht hn h4 (by omega)⟩
  have jp : Int32.toInt64 (Int32.ofNat (D 0 4)) = Int64.ofNat (D 0 4) := j_of (by omega)
  have hL := lp_all (l := fun f k => l_X1_areThrees_3 f s P (Int32.ofNat t) (Int32.ofNat m) (Int32.ofNat k)) (N := m) (c := d_ok D (fun p => s.2 2 (60 * t + p))) (a := false) (fun f k hk hc => by
      obtain ⟨v0, v1, v2, q0, q1, q2, e0, e1, e2⟩ := key k hk
      unfold d_ok at hc
      dsimp only at hc
      rw [← q0, ← q1, ← q2] at hc
      obtain ⟨⟨b1, b2⟩, ⟨b3, b4⟩, b5, b6⟩ := hc
      have hk15 : k < 15 := by omega
      simp (maxSteps := 1000000) (disch := omega) only [ne_eq, i_lt0, i_le0, i_eq0, i_n1, i_ltl, i_lel, i_eql, i_lt, i_le, i_eq, i_in, i_tn, i_add, i_addl, i_addr, i_mul, i_mulr, i_mull, if_true, if_false, eq_self, decide_eq_true_eq, decide_true, decide_false, Option.bind_some, Option.bind_none, ↓fu_ltd, ↓reduceIte, ↓ob_ite, ↓ob_asc, Bool.false_eq_true, Bool.true_eq_false, not_true_eq_false, not_false_eq_true, Nat.not_lt_zero, Nat.le_zero_eq, Nat.reduceAdd, Nat.reduceMul, Nat.reduceSub, Nat.reduceEqDiff, Nat.reduceLT, Nat.reduceLeDiff, sC_def, sR_def, sC_1, sC_2, sR_1, sR_2, sC_st, sR_st, sR_no, sR_refuse, and_self, true_and, and_true, false_and, and_false, l_X1_areThrees_3, hk, hk15, e0, e1, e2, f_X4_people, c4, jp, l_10, b1, b2, b3, b4, b5, b6, i_add1]) (fun f k hk hc => by
      obtain ⟨v0, v1, v2, q0, q1, q2, e0, e1, e2⟩ := key k hk
      unfold d_ok at hc
      dsimp only at hc
      rw [← q0, ← q1, ← q2] at hc
      have hk15 : k < 15 := by omega
      by_cases g0 : ¬ v0 < 0 ∧ v0 < Int64.ofNat (D 0 4)
      · by_cases g1 : ¬ v1 < 0 ∧ v1 < Int64.ofNat (D 0 4)
        · rcases v_bad (fun z => hc ⟨g0, g1, z⟩) with z | z
          · simp (maxSteps := 1000000) (disch := omega) only [ne_eq, i_lt0, i_le0, i_eq0, i_n1, i_ltl, i_lel, i_eql, i_lt, i_le, i_eq, i_in, i_tn, i_add, i_addl, i_addr, i_mul, i_mulr, i_mull, if_true, if_false, eq_self, decide_eq_true_eq, decide_true, decide_false, Option.bind_some, Option.bind_none, ↓fu_ltd, ↓reduceIte, ↓ob_ite, ↓ob_asc, Bool.false_eq_true, Bool.true_eq_false, not_true_eq_false, not_false_eq_true, Nat.not_lt_zero, Nat.le_zero_eq, Nat.reduceAdd, Nat.reduceMul, Nat.reduceSub, Nat.reduceEqDiff, Nat.reduceLT, Nat.reduceLeDiff, sC_def, sR_def, sC_1, sC_2, sR_1, sR_2, sC_st, sR_st, sR_no, sR_refuse, and_self, true_and, and_true, false_and, and_false, l_X1_areThrees_3, hk, hk15, e0, e1, e2, f_X4_people, c4, jp, l_10, g0.1, g0.2, g1.1, g1.2, z]
          · simp (maxSteps := 1000000) (disch := omega) only [ne_eq, i_lt0, i_le0, i_eq0, i_n1, i_ltl, i_lel, i_eql, i_lt, i_le, i_eq, i_in, i_tn, i_add, i_addl, i_addr, i_mul, i_mulr, i_mull, if_true, if_false, eq_self, decide_eq_true_eq, decide_true, decide_false, Option.bind_some, Option.bind_none, ↓fu_ltd, ↓reduceIte, ↓ob_ite, ↓ob_asc, Bool.false_eq_true, Bool.true_eq_false, not_true_eq_false, not_false_eq_true, Nat.not_lt_zero, Nat.le_zero_eq, Nat.reduceAdd, Nat.reduceMul, Nat.reduceSub, Nat.reduceEqDiff, Nat.reduceLT, Nat.reduceLeDiff, sC_def, sR_def, sC_1, sC_2, sR_1, sR_2, sC_st, sR_st, sR_no, sR_refuse, and_self, true_and, and_true, false_and, and_false, l_X1_areThrees_3, hk, hk15, e0, e1, e2, f_X4_people, c4, jp, l_10, g0.1, g0.2, g1.1, g1.2, z.1, z.2]
        · rcases v_bad g1 with z | z
          · simp (maxSteps := 1000000) (disch := omega) only [ne_eq, i_lt0, i_le0, i_eq0, i_n1, i_ltl, i_lel, i_eql, i_lt, i_le, i_eq, i_in, i_tn, i_add, i_addl, i_addr, i_mul, i_mulr, i_mull, if_true, if_false, eq_self, decide_eq_true_eq, decide_true, decide_false, Option.bind_some, Option.bind_none, ↓fu_ltd, ↓reduceIte, ↓ob_ite, ↓ob_asc, Bool.false_eq_true, Bool.true_eq_false, not_true_eq_false, not_false_eq_true, Nat.not_lt_zero, Nat.le_zero_eq, Nat.reduceAdd, Nat.reduceMul, Nat.reduceSub, Nat.reduceEqDiff, Nat.reduceLT, Nat.reduceLeDiff, sC_def, sR_def, sC_1, sC_2, sR_1, sR_2, sC_st, sR_st, sR_no, sR_refuse, and_self, true_and, and_true, false_and, and_false, l_X1_areThrees_3, hk, hk15, e0, e1, e2, f_X4_people, c4, jp, l_10, g0.1, g0.2, z]
          · simp (maxSteps := 1000000) (disch := omega) only [ne_eq, i_lt0, i_le0, i_eq0, i_n1, i_ltl, i_lel, i_eql, i_lt, i_le, i_eq, i_in, i_tn, i_add, i_addl, i_addr, i_mul, i_mulr, i_mull, if_true, if_false, eq_self, decide_eq_true_eq, decide_true, decide_false, Option.bind_some, Option.bind_none, ↓fu_ltd, ↓reduceIte, ↓ob_ite, ↓ob_asc, Bool.false_eq_true, Bool.true_eq_false, not_true_eq_false, not_false_eq_true, Nat.not_lt_zero, Nat.le_zero_eq, Nat.reduceAdd, Nat.reduceMul, Nat.reduceSub, Nat.reduceEqDiff, Nat.reduceLT, Nat.reduceLeDiff, sC_def, sR_def, sC_1, sC_2, sR_1, sR_2, sC_st, sR_st, sR_no, sR_refuse, and_self, true_and, and_true, false_and, and_false, l_X1_areThrees_3, hk, hk15, e0, e1, e2, f_X4_people, c4, jp, l_10, g0.1, g0.2, z.1, z.2]
      · rcases v_bad g0 with z | z
        · simp (maxSteps := 1000000) (disch := omega) only [ne_eq, i_lt0, i_le0, i_eq0, i_n1, i_ltl, i_lel, i_eql, i_lt, i_le, i_eq, i_in, i_tn, i_add, i_addl, i_addr, i_mul, i_mulr, i_mull, if_true, if_false, eq_self, decide_eq_true_eq, decide_true, decide_false, Option.bind_some, Option.bind_none, ↓fu_ltd, ↓reduceIte, ↓ob_ite, ↓ob_asc, Bool.false_eq_true, Bool.true_eq_false, not_true_eq_false, not_false_eq_true, Nat.not_lt_zero, Nat.le_zero_eq, Nat.reduceAdd, Nat.reduceMul, Nat.reduceSub, Nat.reduceEqDiff, Nat.reduceLT, Nat.reduceLeDiff, sC_def, sR_def, sC_1, sC_2, sR_1, sR_2, sC_st, sR_st, sR_no, sR_refuse, and_self, true_and, and_true, false_and, and_false, l_X1_areThrees_3, hk, hk15, e0, e1, e2, f_X4_people, c4, jp, l_10, z]
        · simp (maxSteps := 1000000) (disch := omega) only [ne_eq, i_lt0, i_le0, i_eq0, i_n1, i_ltl, i_lel, i_eql, i_lt, i_le, i_eq, i_in, i_tn, i_add, i_addl, i_addr, i_mul, i_mulr, i_mull, if_true, if_false, eq_self, decide_eq_true_eq, decide_true, decide_false, Option.bind_some, Option.bind_none, ↓fu_ltd, ↓reduceIte, ↓ob_ite, ↓ob_asc, Bool.false_eq_true, Bool.true_eq_false, not_true_eq_false, not_false_eq_true, Nat.not_lt_zero, Nat.le_zero_eq, Nat.reduceAdd, Nat.reduceMul, Nat.reduceSub, Nat.reduceEqDiff, Nat.reduceLT, Nat.reduceLeDiff, sC_def, sR_def, sC_1, sC_2, sR_1, sR_2, sC_st, sR_st, sR_no, sR_refuse, and_self, true_and, and_true, false_and, and_false, l_X1_areThrees_3, hk, hk15, e0, e1, e2, f_X4_people, c4, jp, l_10, z.1, z.2]) (fun f => by
      simp (maxSteps := 1000000) (disch := omega) only [ne_eq, i_lt0, i_le0, i_eq0, i_n1, i_ltl, i_lel, i_eql, i_lt, i_le, i_eq, i_in, i_tn, i_add, i_addl, i_addr, i_mul, i_mulr, i_mull, if_true, if_false, eq_self, decide_eq_true_eq, decide_true, decide_false, Option.bind_some, Option.bind_none, ↓fu_ltd, ↓reduceIte, ↓ob_ite, ↓ob_asc, Bool.false_eq_true, Bool.true_eq_false, not_true_eq_false, not_false_eq_true, Nat.not_lt_zero, Nat.le_zero_eq, Nat.reduceAdd, Nat.reduceMul, Nat.reduceSub, Nat.reduceEqDiff, Nat.reduceLT, Nat.reduceLeDiff, sC_def, sR_def, sC_1, sC_2, sR_1, sR_2, sC_st, sR_st, sR_no, sR_refuse, and_self, true_and, and_true, false_and, and_false, l_X1_areThrees_3, Nat.lt_irrefl]) (f := fu_N) (k := 0) (by omega) (fu_N_gt (by omega))
  unfold f_X1_areThrees
  rcases hL with ⟨h1, h2⟩ | ⟨h1, h2⟩
  · exact .inl ⟨fun j hj => h1 j (by omega) hj, (congrArg (fun z => Option.bind z _) h2).trans rfl⟩
  · exact .inr ⟨fun z => h1 fun j _ hj => z j hj, (congrArg (fun z => Option.bind z _) h2).trans rfl⟩
theorem r_threes (h : dR s 0 D) (hv : dV D) (ht : t < 4) (hm : 3 * m ≤ 60) : ((∀ j, j < m → d_ok D (fun p => s.2 120 (60 * t + p)) j) ∧ l_X12_whyNoLaw_56 fu_N s (Int32.ofNat t) (Int32.ofNat m) 0 = some (.inr ())) ∨ (¬ (∀ j, j < m → d_ok D (fun p => s.2 120 (60 * t + p)) j) ∧ l_X12_whyNoLaw_56 fu_N s (Int32.ofNat t) (Int32.ofNat m) 0 = some (.inl 5)) := by
  have hp4 := hv.1
  have ep := fun v => r_isPersonL (v := v) h hv
  have key : ∀ k, k < m → ∃ v0 v1 v2, v0 = s.2 120 (60 * t + 3 * k) ∧ v1 = s.2 120 (60 * t + (3 * k + 1)) ∧ v2 = s.2 120 (60 * t + (3 * k + 2)) ∧ f_X12_numberOf s (Int32.ofNat t) (Int32.ofNat (3 * k)) = some v0 ∧ f_X12_numberOf s (Int32.ofNat t) (Int32.ofNat (3 * k + 1)) = some v1 ∧ f_X12_numberOf s (Int32.ofNat t) (Int32.ofNat (3 * k + 2)) = some v2 := fun k hk =>
    ⟨_, _, _, rfl, rfl, rfl, r_numOf ht (by omega), r_numOf ht (by omega), r_numOf ht (by omega)⟩
  have hL := lp_all (l := fun f k => l_X12_whyNoLaw_56 f s (Int32.ofNat t) (Int32.ofNat m) (Int32.ofNat k)) (N := m) (c := d_ok D (fun p => s.2 120 (60 * t + p))) (a := (5 : Int32)) (fun f k hk hc => by
      obtain ⟨v0, v1, v2, q0, q1, q2, e0, e1, e2⟩ := key k hk
      unfold d_ok at hc
      dsimp only at hc
      rw [← q0, ← q1, ← q2] at hc
      obtain ⟨b1, b2, b3⟩ := hc
      simp (maxSteps := 1000000) (disch := omega) only [ne_eq, i_lt0, i_le0, i_eq0, i_n1, i_ltl, i_lel, i_eql, i_lt, i_le, i_eq, i_in, i_tn, i_add, i_addl, i_addr, i_mul, i_mulr, i_mull, if_true, if_false, eq_self, decide_eq_true_eq, decide_true, decide_false, Option.bind_some, Option.bind_none, ↓fu_ltd, ↓reduceIte, ↓ob_ite, ↓ob_asc, Bool.false_eq_true, Bool.true_eq_false, not_true_eq_false, not_false_eq_true, Nat.not_lt_zero, Nat.le_zero_eq, Nat.reduceAdd, Nat.reduceMul, Nat.reduceSub, Nat.reduceEqDiff, Nat.reduceLT, Nat.reduceLeDiff, sC_def, sR_def, sC_1, sC_2, sR_1, sR_2, sC_st, sR_st, sR_no, sR_refuse, and_self, true_and, and_true, false_and, and_false, l_X12_whyNoLaw_56, hk, e0, e1, e2, ep, r_isIn9, b1, b2, b3, i_add1]) (fun f k hk hc => by
      obtain ⟨v0, v1, v2, q0, q1, q2, e0, e1, e2⟩ := key k hk
      unfold d_ok at hc
      dsimp only at hc
      rw [← q0, ← q1, ← q2] at hc
      by_cases g0 : ¬ v0 < 0 ∧ v0 < Int64.ofNat (D 0 4)
      · by_cases g1 : ¬ v1 < 0 ∧ v1 < Int64.ofNat (D 0 4)
        · have g2 : ¬ (¬ v2 < 0 ∧ v2 < Int64.ofNat 10) := fun z => hc ⟨g0, g1, z⟩
          simp (maxSteps := 1000000) (disch := omega) only [ne_eq, i_lt0, i_le0, i_eq0, i_n1, i_ltl, i_lel, i_eql, i_lt, i_le, i_eq, i_in, i_tn, i_add, i_addl, i_addr, i_mul, i_mulr, i_mull, if_true, if_false, eq_self, decide_eq_true_eq, decide_true, decide_false, Option.bind_some, Option.bind_none, ↓fu_ltd, ↓reduceIte, ↓ob_ite, ↓ob_asc, Bool.false_eq_true, Bool.true_eq_false, not_true_eq_false, not_false_eq_true, Nat.not_lt_zero, Nat.le_zero_eq, Nat.reduceAdd, Nat.reduceMul, Nat.reduceSub, Nat.reduceEqDiff, Nat.reduceLT, Nat.reduceLeDiff, sC_def, sR_def, sC_1, sC_2, sR_1, sR_2, sC_st, sR_st, sR_no, sR_refuse, and_self, true_and, and_true, false_and, and_false, l_X12_whyNoLaw_56, hk, e0, e1, e2, ep, r_isIn9, g0, g1, g2]
        · simp (maxSteps := 1000000) (disch := omega) only [ne_eq, i_lt0, i_le0, i_eq0, i_n1, i_ltl, i_lel, i_eql, i_lt, i_le, i_eq, i_in, i_tn, i_add, i_addl, i_addr, i_mul, i_mulr, i_mull, if_true, if_false, eq_self, decide_eq_true_eq, decide_true, decide_false, Option.bind_some, Option.bind_none, ↓fu_ltd, ↓reduceIte, ↓ob_ite, ↓ob_asc, Bool.false_eq_true, Bool.true_eq_false, not_true_eq_false, not_false_eq_true, Nat.not_lt_zero, Nat.le_zero_eq, Nat.reduceAdd, Nat.reduceMul, Nat.reduceSub, Nat.reduceEqDiff, Nat.reduceLT, Nat.reduceLeDiff, sC_def, sR_def, sC_1, sC_2, sR_1, sR_2, sC_st, sR_st, sR_no, sR_refuse, and_self, true_and, and_true, false_and, and_false, l_X12_whyNoLaw_56, hk, e0, e1, e2, ep, r_isIn9, g0, g1]
      · simp (maxSteps := 1000000) (disch := omega) only [ne_eq, i_lt0, i_le0, i_eq0, i_n1, i_ltl, i_lel, i_eql, i_lt, i_le, i_eq, i_in, i_tn, i_add, i_addl, i_addr, i_mul, i_mulr, i_mull, if_true, if_false, eq_self, decide_eq_true_eq, decide_true, decide_false, Option.bind_some, Option.bind_none, ↓fu_ltd, ↓reduceIte, ↓ob_ite, ↓ob_asc, Bool.false_eq_true, Bool.true_eq_false, not_true_eq_false, not_false_eq_true, Nat.not_lt_zero, Nat.le_zero_eq, Nat.reduceAdd, Nat.reduceMul, Nat.reduceSub, Nat.reduceEqDiff, Nat.reduceLT, Nat.reduceLeDiff, sC_def, sR_def, sC_1, sC_2, sR_1, sR_2, sC_st, sR_st, sR_no, sR_refuse, and_self, true_and, and_true, false_and, and_false, l_X12_whyNoLaw_56, hk, e0, e1, e2, ep, r_isIn9, g0]) (fun f => by
      simp (maxSteps := 1000000) (disch := omega) only [ne_eq, i_lt0, i_le0, i_eq0, i_n1, i_ltl, i_lel, i_eql, i_lt, i_le, i_eq, i_in, i_tn, i_add, i_addl, i_addr, i_mul, i_mulr, i_mull, if_true, if_false, eq_self, decide_eq_true_eq, decide_true, decide_false, Option.bind_some, Option.bind_none, ↓fu_ltd, ↓reduceIte, ↓ob_ite, ↓ob_asc, Bool.false_eq_true, Bool.true_eq_false, not_true_eq_false, not_false_eq_true, Nat.not_lt_zero, Nat.le_zero_eq, Nat.reduceAdd, Nat.reduceMul, Nat.reduceSub, Nat.reduceEqDiff, Nat.reduceLT, Nat.reduceLeDiff, sC_def, sR_def, sC_1, sC_2, sR_1, sR_2, sC_st, sR_st, sR_no, sR_refuse, and_self, true_and, and_true, false_and, and_false, l_X12_whyNoLaw_56, Nat.lt_irrefl]) (f := fu_N) (k := 0) (by omega) (fu_N_gt (by omega))
  rcases hL with ⟨h1, h2⟩ | ⟨h1, h2⟩
  · exact .inl ⟨fun j hj => h1 j (by omega) hj, h2⟩
  · exact .inr ⟨fun z => h1 fun j _ hj => z j hj, h2⟩
end LAW
