/-! what a tramp walks -/
def d_ml (h : Nat → Nat) (S b : Nat) : Nat → Nat
  | 0 => b
  | n + 1 => if S.testBit n = true then min (d_ml h S b n) (h n) else d_ml h S b n
def d_mh (h : Nat → Nat) (S : Nat) : Nat → Nat
  | 0 => 0
  | n + 1 => if S.testBit n = true then max (d_mh h S n) (h n) else d_mh h S n
def d_mc (h : Nat → Nat) (S : Nat) : Nat → Nat
  | 0 => 0
  | n + 1 => if S.testBit n = true then max (d_mc h S n) (h n + 1) else d_mc h S n
def d_hom (D : dD) (t : Nat) : Nat := D 5 (d_b D t)
def d_wlk (p lo hi : Nat) : Nat := (hi - lo) + min ((p - lo) + (lo - p)) ((p - hi) + (hi - p))
def d_cost (D : dD) (p S : Nat) : Nat := if S = 0 then 0 else d_wlk p (d_ml (d_hom D) S 59 (D 0 5)) (d_mh (d_hom D) S (D 0 5))
section WLK
variable {s : fu_S} {P : Nat} {D : dD} {h : Nat → Nat} {S b n t p k : Nat}
theorem d_ml_ok (hb : ∀ k, k < n → h k ≤ 59) : ((∀ k, k < n → S.testBit k = false) ∧ d_ml h S 60 n = 60 ∧ d_ml h S 59 n = 59 ∧ d_mh h S n = 0 ∧ d_mc h S n = 0) ∨ ((∃ k, k < n ∧ S.testBit k = true) ∧ d_ml h S 60 n = d_ml h S 59 n ∧ d_mc h S n = d_mh h S n + 1 ∧ d_ml h S 59 n ≤ d_mh h S n ∧ d_mh h S n ≤ 59) := by
  induction n with
  | zero => exact .inl ⟨fun k hk => absurd hk (by omega), rfl, rfl, rfl, rfl⟩
  | succ n ih =>
    have hn := hb n (by omega)
    rw [d_ml, d_ml, d_mh, d_mc]
    cases hz : S.testBit n
    · rw [if_neg (by simp), if_neg (by simp), if_neg (by simp), if_neg (by simp)]
      rcases ih (fun k hk => hb k (by omega)) with ⟨h1, h2⟩ | ⟨⟨k, h1, h2⟩, h3⟩
      · refine .inl ⟨fun k hk => ?_, h2⟩
        by_cases e : k = n
        · rw [e]; exact hz
        · exact h1 k (by omega)
      · exact .inr ⟨⟨k, by omega, h2⟩, h3⟩
    · rw [if_pos rfl, if_pos rfl, if_pos rfl, if_pos rfl]
      refine .inr ⟨⟨n, by omega, hz⟩, ?_⟩
      rcases ih (fun k hk => hb k (by omega)) with ⟨h1, h2, h3, h4, h5⟩ | ⟨h1, h2, h3, h4, h5⟩
      · rw [h2, h3, h4, h5]
        omega
      · rw [h2, h3]
        omega
theorem d_ml_sub {S' : Nat} (hs : ∀ k, S.testBit k = true → S'.testBit k = true) : d_ml h S' b n ≤ d_ml h S b n := by
  induction n with
  | zero => exact Nat.le_refl _
  | succ n ih =>
    rw [d_ml, d_ml]
    have := hs n
    cases h1 : S.testBit n
    · rw [if_neg Bool.false_ne_true]
      split <;> omega
    · rw [if_pos rfl, if_pos (this h1)]
      omega
theorem d_mh_sub {S' : Nat} (hs : ∀ k, S.testBit k = true → S'.testBit k = true) : d_mh h S n ≤ d_mh h S' n := by
  induction n with
  | zero => exact Nat.le_refl _
  | succ n ih =>
    rw [d_mh, d_mh]
    have := hs n
    cases h1 : S.testBit n
    · rw [if_neg Bool.false_ne_true]
      split <;> omega
    · rw [if_pos rfl, if_pos (this h1)]
      omega
theorem d_hom_le (hv : dV D) (ht : t < D 0 5) : d_hom D t ≤ 59 := (dV_p hv (d_b_lt hv ht)).2.2.1
theorem bit_some (hS : S < 2 ^ n) (h0 : S ≠ 0) : ¬ ∀ k, k < n → S.testBit k = false := by
  intro z
  apply h0
  apply Nat.eq_of_testBit_eq
  intro i
  rw [Nat.zero_testBit]
  by_cases hi : i < n
  · exact z i hi
  · exact bit_hi hS (by omega)
theorem d_cost_le (hv : dV D) (hp : p ≤ 59) : d_cost D p S ≤ 118 := by
  unfold d_cost
  split
  · omega
  · have := d_ml_ok (h := d_hom D) (S := S) (n := D 0 5) (fun k hk => d_hom_le hv hk)
    have h1 : d_ml (d_hom D) S 59 (D 0 5) ≤ 59 ∧ d_mh (d_hom D) S (D 0 5) ≤ 59 := by
      rcases this with ⟨-, -, x1, x2, -⟩ | ⟨-, -, -, x1, x2⟩ <;> omega
    clear this
    unfold d_wlk
    generalize d_ml (d_hom D) S 59 (D 0 5) = A at *
    generalize d_mh (d_hom D) S (D 0 5) = B at *
    omega
theorem d_cost_mono {S' : Nat} (hv : dV D) (hS : S < 2 ^ D 0 5) (hp : p ≤ 59) (hs : ∀ k, S.testBit k = true → S'.testBit k = true) : d_cost D p S ≤ d_cost D p S' := by
  by_cases h0 : S = 0
  · unfold d_cost
    rw [if_pos h0]
    exact Nat.zero_le _
  · have h1 : S' ≠ 0 := by
      intro z
      refine bit_some hS h0 fun k _ => ?_
      cases hk : S.testBit k
      · rfl
      · have := hs k hk
        rw [z, Nat.zero_testBit] at this
        exact Bool.noConfusion this
    unfold d_cost
    rw [if_neg h0, if_neg h1]
    have a1 := d_ml_ok (h := d_hom D) (S := S) (n := D 0 5) (fun k hk => d_hom_le hv hk)
    have a2 := d_ml_ok (h := d_hom D) (S := S') (n := D 0 5) (fun k hk => d_hom_le hv hk)
    have a3 := d_ml_sub (h := d_hom D) (b := 59) (n := D 0 5) hs
    have a4 := d_mh_sub (h := d_hom D) (n := D 0 5) hs
    have a5 := bit_some hS h0
    unfold d_wlk
    rcases a1 with ⟨z, -⟩ | ⟨-, -, -, a1, a1'⟩
    · exact absurd z a5
    · clear a2 a5 hs
      generalize d_ml (d_hom D) S 59 (D 0 5) = A at *
      generalize d_mh (d_hom D) S (D 0 5) = B at *
      generalize d_ml (d_hom D) S' 59 (D 0 5) = A' at *
      generalize d_mh (d_hom D) S' (D 0 5) = B' at *
      omega
theorem c_cost (hd : dC s P D) (hv : dV D) (hp : p ≤ 59) (hS : S < 2 ^ D 0 5) : f_X9_cost s P (Int32.ofNat p) (Int32.ofNat S) = some (Int32.ofNat (d_cost D p S)) := by
  have hp4 := hv.1
  have h8 : 2 ^ D 0 5 ≤ 2 ^ 8 := Nat.pow_le_pow_right (by omega) (by omega)
  have c5 := hd.1.2.2.2.2.2
  have hb : ∀ n, n ≤ D 0 5 → _ := fun n hn => d_ml_ok (h := d_hom D) (S := S) (n := n) (fun k hk => d_hom_le hv (by omega))
  have hL : l_X9_cost_9 fu_N s P (Int32.ofNat p) (Int32.ofNat S) 59 0 0 = some (Int32.ofNat (d_ml (d_hom D) S 59 (D 0 5)), Int32.ofNat (d_mh (d_hom D) S (D 0 5))) := lp_up (l := fun f (σ : Int32 × Int32) k => l_X9_cost_9 f s P (Int32.ofNat p) (Int32.ofNat S) σ.1 σ.2 (Int32.ofNat k)) (N := D 0 5) (S := fun k => (Int32.ofNat (d_ml (d_hom D) S 59 k), Int32.ofNat (d_mh (d_hom D) S k))) (r := (Int32.ofNat (d_ml (d_hom D) S 59 (D 0 5)), Int32.ofNat (d_mh (d_hom D) S (D 0 5)))) (fun n k hk => by
      have hk31 : k < 31 := by omega
      have q1 := hb k (by omega)
      have q2 := d_hom_le hv hk
      have e1 := c_bearerOf hd hv hk
      have e2 := c_homeOf hd hv (d_b_lt hv hk)
      rw [show D 5 (d_b D k) = d_hom D k from rfl] at e2
      have q3 : d_ml (d_hom D) S 59 k ≤ 59 := by omega
      have q4 : d_mh (d_hom D) S k ≤ 59 := by omega
      have x1 : d_ml (d_hom D) S 59 (k + 1) = if S.testBit k = true then min (d_ml (d_hom D) S 59 k) (d_hom D k) else d_ml (d_hom D) S 59 k := rfl
      have x2 : d_mh (d_hom D) S (k + 1) = if S.testBit k = true then max (d_mh (d_hom D) S k) (d_hom D k) else d_mh (d_hom D) S k := rfl
      show l_X9_cost_9 (n + 1) s P (Int32.ofNat p) (Int32.ofNat S) (Int32.ofNat (d_ml (d_hom D) S 59 k)) (Int32.ofNat (d_mh (d_hom D) S k)) (Int32.ofNat k) = l_X9_cost_9 n s P (Int32.ofNat p) (Int32.ofNat S) (Int32.ofNat (d_ml (d_hom D) S 59 (k + 1))) (Int32.ofNat (d_mh (d_hom D) S (k + 1))) (Int32.ofNat (k + 1))
      rw [x1, x2]
      clear q1 x1 x2
      have x3 := i_mn (a := d_ml (d_hom D) S 59 k) (b := d_hom D k) (by omega) (by omega)
      have x4 := i_mx (a := d_mh (d_hom D) S k) (b := d_hom D k) (by omega) (by omega)
      generalize d_ml (d_hom D) S 59 k = A at *
      generalize d_mh (d_hom D) S k = B at *
      generalize d_hom D k = H at *
      cases hz : S.testBit k
      · simp (maxSteps := 1000000) (disch := omega) only [ne_eq, i_lt0, i_le0, i_eq0, i_n1, i_ltl, i_lel, i_eql, i_lt, i_le, i_eq, i_in, i_tn, i_add, i_addl, i_addr, i_mul, i_mulr, i_mull, if_true, if_false, eq_self, decide_eq_true_eq, decide_true, decide_false, Option.bind_some, Option.bind_none, ↓fu_ltd, ↓reduceIte, ↓ob_ite, ↓ob_asc, Bool.false_eq_true, Bool.true_eq_false, not_true_eq_false, not_false_eq_true, Nat.not_lt_zero, Nat.le_zero_eq, Nat.reduceAdd, Nat.reduceMul, Nat.reduceSub, Nat.reduceEqDiff, Nat.reduceLT, Nat.reduceLeDiff, sC_def, sR_def, sC_1, sC_2, sR_1, sR_2, sC_st, sR_st, sR_no, sR_refuse, and_self, true_and, and_true, false_and, and_false, l_X9_cost_9, f_X4_things, c5, hk, i_bit0, hz, i_add1]
      · simp (maxSteps := 1000000) (disch := omega) only [ne_eq, i_lt0, i_le0, i_eq0, i_n1, i_ltl, i_lel, i_eql, i_lt, i_le, i_eq, i_in, i_tn, i_add, i_addl, i_addr, i_mul, i_mulr, i_mull, if_true, if_false, eq_self, decide_eq_true_eq, decide_true, decide_false, Option.bind_some, Option.bind_none, ↓fu_ltd, ↓reduceIte, ↓ob_ite, ↓ob_asc, Bool.false_eq_true, Bool.true_eq_false, not_true_eq_false, not_false_eq_true, Nat.not_lt_zero, Nat.le_zero_eq, Nat.reduceAdd, Nat.reduceMul, Nat.reduceSub, Nat.reduceEqDiff, Nat.reduceLT, Nat.reduceLeDiff, sC_def, sR_def, sC_1, sC_2, sR_1, sR_2, sC_st, sR_st, sR_no, sR_refuse, and_self, true_and, and_true, false_and, and_false, l_X9_cost_9, f_X4_things, c5, hk, i_bit0, hz, e1, e2, x3, x4, i_add1]) (fun n => by
      show l_X9_cost_9 (n + 1) s P (Int32.ofNat p) (Int32.ofNat S) (Int32.ofNat (d_ml (d_hom D) S 59 (D 0 5))) (Int32.ofNat (d_mh (d_hom D) S (D 0 5))) (Int32.ofNat (D 0 5)) = _
      generalize d_ml (d_hom D) S 59 (D 0 5) = A at *
      generalize d_mh (d_hom D) S (D 0 5) = B at *
      simp (maxSteps := 1000000) (disch := omega) only [ne_eq, i_lt0, i_le0, i_eq0, i_n1, i_ltl, i_lel, i_eql, i_lt, i_le, i_eq, i_in, i_tn, i_add, i_addl, i_addr, i_mul, i_mulr, i_mull, if_true, if_false, eq_self, decide_eq_true_eq, decide_true, decide_false, Option.bind_some, Option.bind_none, ↓fu_ltd, ↓reduceIte, ↓ob_ite, ↓ob_asc, Bool.false_eq_true, Bool.true_eq_false, not_true_eq_false, not_false_eq_true, Nat.not_lt_zero, Nat.le_zero_eq, Nat.reduceAdd, Nat.reduceMul, Nat.reduceSub, Nat.reduceEqDiff, Nat.reduceLT, Nat.reduceLeDiff, sC_def, sR_def, sC_1, sC_2, sR_1, sR_2, sC_st, sR_st, sR_no, sR_refuse, and_self, true_and, and_true, false_and, and_false, l_X9_cost_9, f_X4_things, c5, Nat.lt_irrefl]) (f := fu_N) (k := 0) (by omega) (fu_N_gt (by omega))
  unfold d_cost
  by_cases h0 : S = 0
  · rw [if_pos h0]
    subst h0
    unfold f_X9_cost
    rw [hL]
    rfl
  · rw [if_neg h0]
    have q5 := bit_some hS h0
    have q6 := hb (D 0 5) (Nat.le_refl _)
    have q7 : d_ml (d_hom D) S 59 (D 0 5) ≤ d_mh (d_hom D) S (D 0 5) ∧ d_mh (d_hom D) S (D 0 5) ≤ 59 := by
      rcases q6 with ⟨z, -⟩ | ⟨-, -, -, a1⟩
      · exact absurd z q5
      · exact a1
    clear q6
    generalize d_ml (d_hom D) S 59 (D 0 5) = A at *
    generalize d_mh (d_hom D) S (D 0 5) = B at *
    obtain ⟨q7, q8⟩ := q7
    have x1 := i_fab (a := p) (b := A) (by omega) (by omega)
    have x2 := i_fab (a := p) (b := B) (by omega) (by omega)
    have x3 := i_mn (a := (p - A) + (A - p)) (b := (p - B) + (B - p)) (by omega) (by omega)
    have x4 : Int32.ofNat B - Int32.ofNat A = Int32.ofNat (B - A) := i_sub q7
    unfold d_wlk
    simp (maxSteps := 1000000) (disch := omega) only [ne_eq, i_lt0, i_le0, i_eq0, i_n1, i_ltl, i_lel, i_eql, i_lt, i_le, i_eq, i_in, i_tn, i_add, i_addl, i_addr, i_mul, i_mulr, i_mull, if_true, if_false, eq_self, decide_eq_true_eq, decide_true, decide_false, Option.bind_some, Option.bind_none, ↓fu_ltd, ↓reduceIte, ↓ob_ite, ↓ob_asc, Bool.false_eq_true, Bool.true_eq_false, not_true_eq_false, not_false_eq_true, Nat.not_lt_zero, Nat.le_zero_eq, Nat.reduceAdd, Nat.reduceMul, Nat.reduceSub, Nat.reduceEqDiff, Nat.reduceLT, Nat.reduceLeDiff, sC_def, sR_def, sC_1, sC_2, sR_1, sR_2, sC_st, sR_st, sR_no, sR_refuse, and_self, true_and, and_true, false_and, and_false, f_X9_cost, hL, h0, x1, x2, x3, x4]
theorem i_mxb {a b : Nat} (ha : a < 2147483648) (hb : b + 1 < 2147483648) : fu_mx (e_b a) (Int32.ofNat b) = e_b (max a (b + 1)) := by
  unfold fu_mx
  by_cases h0 : a = 0
  · rw [h0, Nat.max_eq_right (by omega), e_b_of (a := b + 1) (by omega), show e_b 0 = -1 from rfl, if_pos]
    · rfl
    · rw [Int32.lt_iff_toInt_lt, i_ti (by omega), show (-1 : Int32).toInt = -1 from rfl]
      omega
  · rw [e_b_of h0]
    by_cases h : a - 1 < b
    · rw [if_pos ((i_lt (by omega) (by omega)).mpr h), Nat.max_eq_right (by omega), e_b_of (by omega)]
      rfl
    · rw [if_neg (fun z => h ((i_lt (by omega) (by omega)).mp z)), Nat.max_eq_left (by omega), e_b_of h0]
theorem r_cost (hd : dR s 0 D) (hv : dV D) (hp : p ≤ 59) (hS : S < 2 ^ D 0 5) : f_X12_walkBy s (Int32.ofNat p) (Int32.ofNat S) = some (Int32.ofNat (d_cost D p S)) := by
  have hp4 := hv.1
  have h8 : 2 ^ D 0 5 ≤ 2 ^ 8 := Nat.pow_le_pow_right (by omega) (by omega)
  have c5 := (dR_0 hd).1.2.2.1
  have hb : ∀ n, n ≤ D 0 5 → _ := fun n hn => d_ml_ok (h := d_hom D) (S := S) (n := n) (fun k hk => d_hom_le hv (by omega))
  have hL : l_X12_walkBy_9 fu_N s (Int32.ofNat p) (Int32.ofNat S) 60 (-1) 0 = some (Int32.ofNat (d_ml (d_hom D) S 60 (D 0 5)), e_b (d_mc (d_hom D) S (D 0 5))) := lp_up (l := fun f (σ : Int32 × Int32) k => l_X12_walkBy_9 f s (Int32.ofNat p) (Int32.ofNat S) σ.1 σ.2 (Int32.ofNat k)) (N := D 0 5) (S := fun k => (Int32.ofNat (d_ml (d_hom D) S 60 k), e_b (d_mc (d_hom D) S k))) (r := (Int32.ofNat (d_ml (d_hom D) S 60 (D 0 5)), e_b (d_mc (d_hom D) S (D 0 5)))) (fun n k hk => by
      have hk31 : k < 31 := by omega
      have q1 := hb k (by omega)
      have q2 := d_hom_le hv hk
      have e1 := r_bearerOf hd hv hk
      have hbl := d_b_lt hv hk
      have m1 : 21 + d_b D k < 1775 := by omega
      have e2 := ((dR_0 hd).2.2.1 _ hbl).2.1
      rw [show D 5 (d_b D k) = d_hom D k from rfl] at e2
      have q3 : d_ml (d_hom D) S 60 k ≤ 60 := by omega
      have q4 : d_mc (d_hom D) S k ≤ 60 := by omega
      have x1 : d_ml (d_hom D) S 60 (k + 1) = if S.testBit k = true then min (d_ml (d_hom D) S 60 k) (d_hom D k) else d_ml (d_hom D) S 60 k := rfl
      have x2 : d_mc (d_hom D) S (k + 1) = if S.testBit k = true then max (d_mc (d_hom D) S k) (d_hom D k + 1) else d_mc (d_hom D) S k := rfl
      show l_X12_walkBy_9 (n + 1) s (Int32.ofNat p) (Int32.ofNat S) (Int32.ofNat (d_ml (d_hom D) S 60 k)) (e_b (d_mc (d_hom D) S k)) (Int32.ofNat k) = l_X12_walkBy_9 n s (Int32.ofNat p) (Int32.ofNat S) (Int32.ofNat (d_ml (d_hom D) S 60 (k + 1))) (e_b (d_mc (d_hom D) S (k + 1))) (Int32.ofNat (k + 1))
      rw [x1, x2]
      clear q1 x1 x2
      have x3 := i_mn (a := d_ml (d_hom D) S 60 k) (b := d_hom D k) (by omega) (by omega)
      have x4 := i_mxb (a := d_mc (d_hom D) S k) (b := d_hom D k) (by omega) (by omega)
      generalize d_ml (d_hom D) S 60 k = A at *
      generalize d_mc (d_hom D) S k = B at *
      generalize d_hom D k = H at *
      have hh : f_X12_has (Int32.ofNat S) (Int32.ofNat k) = S.testBit k := r_has (by omega) hk31
      cases hz : S.testBit k
      · rw [hz] at hh
        simp (maxSteps := 1000000) (disch := omega) only [ne_eq, i_lt0, i_le0, i_eq0, i_n1, i_ltl, i_lel, i_eql, i_lt, i_le, i_eq, i_in, i_tn, i_add, i_addl, i_addr, i_mul, i_mulr, i_mull, if_true, if_false, eq_self, decide_eq_true_eq, decide_true, decide_false, Option.bind_some, Option.bind_none, ↓fu_ltd, ↓reduceIte, ↓ob_ite, ↓ob_asc, Bool.false_eq_true, Bool.true_eq_false, not_true_eq_false, not_false_eq_true, Nat.not_lt_zero, Nat.le_zero_eq, Nat.reduceAdd, Nat.reduceMul, Nat.reduceSub, Nat.reduceEqDiff, Nat.reduceLT, Nat.reduceLeDiff, sC_def, sR_def, sC_1, sC_2, sR_1, sR_2, sC_st, sR_st, sR_no, sR_refuse, and_self, true_and, and_true, false_and, and_false, l_X12_walkBy_9, c5, hk, hh, i_add1]
      · rw [hz] at hh
        simp (maxSteps := 1000000) (disch := omega) only [ne_eq, i_lt0, i_le0, i_eq0, i_n1, i_ltl, i_lel, i_eql, i_lt, i_le, i_eq, i_in, i_tn, i_add, i_addl, i_addr, i_mul, i_mulr, i_mull, if_true, if_false, eq_self, decide_eq_true_eq, decide_true, decide_false, Option.bind_some, Option.bind_none, ↓fu_ltd, ↓reduceIte, ↓ob_ite, ↓ob_asc, Bool.false_eq_true, Bool.true_eq_false, not_true_eq_false, not_false_eq_true, Nat.not_lt_zero, Nat.le_zero_eq, Nat.reduceAdd, Nat.reduceMul, Nat.reduceSub, Nat.reduceEqDiff, Nat.reduceLT, Nat.reduceLeDiff, sC_def, sR_def, sC_1, sC_2, sR_1, sR_2, sC_st, sR_st, sR_no, sR_refuse, and_self, true_and, and_true, false_and, and_false, l_X12_walkBy_9, c5, hk, hh, e1, e2, m1, x3, x4, i_add1]) (fun n => by
      show l_X12_walkBy_9 (n + 1) s (Int32.ofNat p) (Int32.ofNat S) (Int32.ofNat (d_ml (d_hom D) S 60 (D 0 5))) (e_b (d_mc (d_hom D) S (D 0 5))) (Int32.ofNat (D 0 5)) = _
      generalize d_ml (d_hom D) S 60 (D 0 5) = A at *
      generalize d_mc (d_hom D) S (D 0 5) = B at *
      simp (maxSteps := 1000000) (disch := omega) only [ne_eq, i_lt0, i_le0, i_eq0, i_n1, i_ltl, i_lel, i_eql, i_lt, i_le, i_eq, i_in, i_tn, i_add, i_addl, i_addr, i_mul, i_mulr, i_mull, if_true, if_false, eq_self, decide_eq_true_eq, decide_true, decide_false, Option.bind_some, Option.bind_none, ↓fu_ltd, ↓reduceIte, ↓ob_ite, ↓ob_asc, Bool.false_eq_true, Bool.true_eq_false, not_true_eq_false, not_false_eq_true, Nat.not_lt_zero, Nat.le_zero_eq, Nat.reduceAdd, Nat.reduceMul, Nat.reduceSub, Nat.reduceEqDiff, Nat.reduceLT, Nat.reduceLeDiff, sC_def, sR_def, sC_1, sC_2, sR_1, sR_2, sC_st, sR_st, sR_no, sR_refuse, and_self, true_and, and_true, false_and, and_false, l_X12_walkBy_9, c5, Nat.lt_irrefl]) (f := fu_N) (k := 0) (by omega) (fu_N_gt (by omega))
  unfold d_cost
  have q6 := hb (D 0 5) (Nat.le_refl _)
  by_cases h0 : S = 0
  · rw [if_pos h0]
    have q7 : d_mc (d_hom D) S (D 0 5) = 0 := by
      rcases q6 with ⟨-, -, -, -, z⟩ | ⟨⟨k, -, z⟩, -⟩
      · exact z
      · rw [h0, Nat.zero_testBit] at z; exact Bool.noConfusion z
    rw [q7] at hL
    have q8 : e_b 0 < 0 := by decide
    simp (maxSteps := 1000000) (disch := omega) only [ne_eq, i_lt0, i_le0, i_eq0, i_n1, i_ltl, i_lel, i_eql, i_lt, i_le, i_eq, i_in, i_tn, i_add, i_addl, i_addr, i_mul, i_mulr, i_mull, if_true, if_false, eq_self, decide_eq_true_eq, decide_true, decide_false, Option.bind_some, Option.bind_none, ↓fu_ltd, ↓reduceIte, ↓ob_ite, ↓ob_asc, Bool.false_eq_true, Bool.true_eq_false, not_true_eq_false, not_false_eq_true, Nat.not_lt_zero, Nat.le_zero_eq, Nat.reduceAdd, Nat.reduceMul, Nat.reduceSub, Nat.reduceEqDiff, Nat.reduceLT, Nat.reduceLeDiff, sC_def, sR_def, sC_1, sC_2, sR_1, sR_2, sC_st, sR_st, sR_no, sR_refuse, and_self, true_and, and_true, false_and, and_false, f_X12_walkBy, hL, q8]
    rfl
  · rw [if_neg h0]
    have q5 := bit_some hS h0
    have q7 : d_ml (d_hom D) S 60 (D 0 5) = d_ml (d_hom D) S 59 (D 0 5) ∧ d_mc (d_hom D) S (D 0 5) = d_mh (d_hom D) S (D 0 5) + 1 ∧ d_ml (d_hom D) S 59 (D 0 5) ≤ d_mh (d_hom D) S (D 0 5) ∧ d_mh (d_hom D) S (D 0 5) ≤ 59 := by
      rcases q6 with ⟨z, -⟩ | ⟨-, a1⟩
      · exact absurd z q5
      · exact a1
    clear q6
    obtain ⟨y1, y2, q7, q8⟩ := q7
    rw [y1, y2, show e_b (d_mh (d_hom D) S (D 0 5) + 1) = Int32.ofNat (d_mh (d_hom D) S (D 0 5)) from rfl] at hL
    clear y1 y2
    generalize d_ml (d_hom D) S 59 (D 0 5) = A at *
    generalize d_mh (d_hom D) S (D 0 5) = B at *
    have x1 := i_fab (a := p) (b := A) (by omega) (by omega)
    have x2 := i_fab (a := p) (b := B) (by omega) (by omega)
    have x3 := i_mn (a := (p - A) + (A - p)) (b := (p - B) + (B - p)) (by omega) (by omega)
    have x4 : Int32.ofNat B - Int32.ofNat A = Int32.ofNat (B - A) := i_sub q7
    unfold d_wlk
    simp (maxSteps := 1000000) (disch := omega) only [ne_eq, i_lt0, i_le0, i_eq0, i_n1, i_ltl, i_lel, i_eql, i_lt, i_le, i_eq, i_in, i_tn, i_add, i_addl, i_addr, i_mul, i_mulr, i_mull, if_true, if_false, eq_self, decide_eq_true_eq, decide_true, decide_false, Option.bind_some, Option.bind_none, ↓fu_ltd, ↓reduceIte, ↓ob_ite, ↓ob_asc, Bool.false_eq_true, Bool.true_eq_false, not_true_eq_false, not_false_eq_true, Nat.not_lt_zero, Nat.le_zero_eq, Nat.reduceAdd, Nat.reduceMul, Nat.reduceSub, Nat.reduceEqDiff, Nat.reduceLT, Nat.reduceLeDiff, sC_def, sR_def, sC_1, sC_2, sR_1, sR_2, sC_st, sR_st, sR_no, sR_refuse, and_self, true_and, and_true, false_and, and_false, f_X12_walkBy, hL, x1, x2, x3, x4]
theorem r_isW (hd : dR s 0 D) (hv : dV D) {x y : Int32} : f_X12_isWalk s x y = decide ((¬ x < 0 ∧ x ≤ 59) ∧ (¬ y < 0 ∧ y < Int32.ofNat (2 ^ D 0 5))) := by
  have hp4 := hv.1
  have h8 : 2 ^ D 0 5 ≤ 2 ^ 8 := Nat.pow_le_pow_right (by omega) (by omega)
  unfold f_X12_isWalk fu_lt
  rw [r_isInl59, (dR_0 hd).1.2.2.1, i_shl (by omega), r_isAt (by omega)]
  by_cases h1 : ¬ x < 0 ∧ x ≤ 59
  · rw [decide_eq_true h1, if_pos rfl]
    by_cases h2 : ¬ y < 0 ∧ y < Int32.ofNat (2 ^ D 0 5)
    · rw [decide_eq_true h2, if_pos rfl, decide_eq_true ⟨h1, h2⟩]
    · rw [decide_eq_false h2, if_neg (by simp), decide_eq_false (fun z => h2 z.2)]
  · rw [decide_eq_false h1, if_neg (by simp), decide_eq_false (fun z => h1 z.1)]
theorem c_isTS (hd : dC s P D) (hv : dV D) {y : Int32} : f_X4_isThingSet s P y = decide (¬ y < 0 ∧ y < Int32.ofNat (2 ^ D 0 5)) := by
  have hp4 := hv.1
  unfold f_X4_isThingSet fu_lt
  rw [hd.1.2.2.2.2.2, i_shl (by omega)]
  by_cases h1 : y < 0 <;> by_cases h2 : y < Int32.ofNat (2 ^ D 0 5) <;> simp [h1, h2]
end WLK
theorem hd_39 : lw_E_39 dI := by
  intro s1 s2 hI a1 a2
  obtain ⟨D, hv, hC, hR, -⟩ := dI_D hI
  have hp4 := hv.1
  have h8 : 2 ^ D 0 5 ≤ 2 ^ 8 := Nat.pow_le_pow_right (by omega) (by omega)
  have hr := fun x => dR_s (x := x) hv hR
  have hc := fun x => dC_s (x := x) (by omega : (11 : Nat) ≠ 0) hC
  have ew := r_isW (x := a1) (y := a2) (hr 0) hv
  by_cases h1 : ¬ a1 < 0 ∧ a1 ≤ 59
  · by_cases h2 : ¬ a2 < 0 ∧ a2 < Int32.ofNat (2 ^ D 0 5)
    · rw [decide_eq_true ⟨h1, h2⟩] at ew
      have y1 : f_X4_isHome 11 a1 = true := by rw [c_isHome, decide_eq_true h1]
      have y2 : f_X4_isThingSet s1 11 a2 = true := by rw [c_isTS hC hv, decide_eq_true h2]
      obtain ⟨p, hp, rfl⟩ := i_upto (n := 59) (by omega) h1
      obtain ⟨S, hS, rfl⟩ := i_is (by omega) h2
      have e1 := c_cost (hc 0) hv hp hS
      have e2 := r_cost (hr 0) hv hp hS
      refine ⟨Int32.ofNat (d_cost D p S), sC s1 0, sR s2 0, ?_, ?_, dI_s hI⟩
      · simp (maxSteps := 1000000) (disch := omega) only [ne_eq, i_lt0, i_le0, i_eq0, i_n1, i_ltl, i_lel, i_eql, i_lt, i_le, i_eq, i_in, i_tn, i_add, i_addl, i_addr, i_mul, i_mulr, i_mull, if_true, if_false, eq_self, decide_eq_true_eq, decide_true, decide_false, Option.bind_some, Option.bind_none, ↓fu_ltd, ↓reduceIte, ↓ob_ite, ↓ob_asc, Bool.false_eq_true, Bool.true_eq_false, not_true_eq_false, not_false_eq_true, Nat.not_lt_zero, Nat.le_zero_eq, Nat.reduceAdd, Nat.reduceMul, Nat.reduceSub, Nat.reduceEqDiff, Nat.reduceLT, Nat.reduceLeDiff, sC_def, sR_def, sC_1, sC_2, sR_1, sR_2, sC_st, sR_st, sR_no, sR_refuse, and_self, true_and, and_true, false_and, and_false, f_X11_walk, y1, y2, e1]
      · simp (maxSteps := 1000000) (disch := omega) only [ne_eq, i_lt0, i_le0, i_eq0, i_n1, i_ltl, i_lel, i_eql, i_lt, i_le, i_eq, i_in, i_tn, i_add, i_addl, i_addr, i_mul, i_mulr, i_mull, if_true, if_false, eq_self, decide_eq_true_eq, decide_true, decide_false, Option.bind_some, Option.bind_none, ↓fu_ltd, ↓reduceIte, ↓ob_ite, ↓ob_asc, Bool.false_eq_true, Bool.true_eq_false, not_true_eq_false, not_false_eq_true, Nat.not_lt_zero, Nat.le_zero_eq, Nat.reduceAdd, Nat.reduceMul, Nat.reduceSub, Nat.reduceEqDiff, Nat.reduceLT, Nat.reduceLeDiff, sC_def, sR_def, sC_1, sC_2, sR_1, sR_2, sC_st, sR_st, sR_no, sR_refuse, and_self, true_and, and_true, false_and, and_false, f_X12_walk, ew, e2]
    · rw [decide_eq_false (fun z => h2 z.2)] at ew
      have y1 : f_X4_isHome 11 a1 = true := by rw [c_isHome, decide_eq_true h1]
      have y2 : f_X4_isThingSet s1 11 a2 = false := by rw [c_isTS hC hv, decide_eq_false h2]
      refine ⟨-1, sC s1 5, sR s2 5, ?_, ?_, dI_s hI⟩
      · simp (maxSteps := 1000000) (disch := omega) only [ne_eq, i_lt0, i_le0, i_eq0, i_n1, i_ltl, i_lel, i_eql, i_lt, i_le, i_eq, i_in, i_tn, i_add, i_addl, i_addr, i_mul, i_mulr, i_mull, if_true, if_false, eq_self, decide_eq_true_eq, decide_true, decide_false, Option.bind_some, Option.bind_none, ↓fu_ltd, ↓reduceIte, ↓ob_ite, ↓ob_asc, Bool.false_eq_true, Bool.true_eq_false, not_true_eq_false, not_false_eq_true, Nat.not_lt_zero, Nat.le_zero_eq, Nat.reduceAdd, Nat.reduceMul, Nat.reduceSub, Nat.reduceEqDiff, Nat.reduceLT, Nat.reduceLeDiff, sC_def, sR_def, sC_1, sC_2, sR_1, sR_2, sC_st, sR_st, sR_no, sR_refuse, and_self, true_and, and_true, false_and, and_false, f_X11_walk, y1, y2]
        try rfl
      · simp (maxSteps := 1000000) (disch := omega) only [ne_eq, i_lt0, i_le0, i_eq0, i_n1, i_ltl, i_lel, i_eql, i_lt, i_le, i_eq, i_in, i_tn, i_add, i_addl, i_addr, i_mul, i_mulr, i_mull, if_true, if_false, eq_self, decide_eq_true_eq, decide_true, decide_false, Option.bind_some, Option.bind_none, ↓fu_ltd, ↓reduceIte, ↓ob_ite, ↓ob_asc, Bool.false_eq_true, Bool.true_eq_false, not_true_eq_false, not_false_eq_true, Nat.not_lt_zero, Nat.le_zero_eq, Nat.reduceAdd, Nat.reduceMul, Nat.reduceSub, Nat.reduceEqDiff, Nat.reduceLT, Nat.reduceLeDiff, sC_def, sR_def, sC_1, sC_2, sR_1, sR_2, sC_st, sR_st, sR_no, sR_refuse, and_self, true_and, and_true, false_and, and_false, f_X12_walk, ew]
  · rw [decide_eq_false (fun z => h1 z.1)] at ew
    have y1 : f_X4_isHome 11 a1 = false := by rw [c_isHome, decide_eq_false h1]
    refine ⟨-1, sC s1 5, sR s2 5, ?_, ?_, dI_s hI⟩
    · simp (maxSteps := 1000000) (disch := omega) only [ne_eq, i_lt0, i_le0, i_eq0, i_n1, i_ltl, i_lel, i_eql, i_lt, i_le, i_eq, i_in, i_tn, i_add, i_addl, i_addr, i_mul, i_mulr, i_mull, if_true, if_false, eq_self, decide_eq_true_eq, decide_true, decide_false, Option.bind_some, Option.bind_none, ↓fu_ltd, ↓reduceIte, ↓ob_ite, ↓ob_asc, Bool.false_eq_true, Bool.true_eq_false, not_true_eq_false, not_false_eq_true, Nat.not_lt_zero, Nat.le_zero_eq, Nat.reduceAdd, Nat.reduceMul, Nat.reduceSub, Nat.reduceEqDiff, Nat.reduceLT, Nat.reduceLeDiff, sC_def, sR_def, sC_1, sC_2, sR_1, sR_2, sC_st, sR_st, sR_no, sR_refuse, and_self, true_and, and_true, false_and, and_false, f_X11_walk, y1]
      try rfl
    · simp (maxSteps := 1000000) (disch := omega) only [ne_eq, i_lt0, i_le0, i_eq0, i_n1, i_ltl, i_lel, i_eql, i_lt, i_le, i_eq, i_in, i_tn, i_add, i_addl, i_addr, i_mul, i_mulr, i_mull, if_true, if_false, eq_self, decide_eq_true_eq, decide_true, decide_false, Option.bind_some, Option.bind_none, ↓fu_ltd, ↓reduceIte, ↓ob_ite, ↓ob_asc, Bool.false_eq_true, Bool.true_eq_false, not_true_eq_false, not_false_eq_true, Nat.not_lt_zero, Nat.le_zero_eq, Nat.reduceAdd, Nat.reduceMul, Nat.reduceSub, Nat.reduceEqDiff, Nat.reduceLT, Nat.reduceLeDiff, sC_def, sR_def, sC_1, sC_2, sR_1, sR_2, sC_st, sR_st, sR_no, sR_refuse, and_self, true_and, and_true, false_and, and_false, f_X12_walk, ew]
