/-! trays: pour -/
theorem fu_ltd {α β : Type} {a : α} {f : α → β} : fu_lt a f = f a := rfl
theorem ob_ite {α β : Type} {c : Prop} [Decidable c] {x y : Option α} {f : α → Option β} : Option.bind (if c then x else y) f = if c then Option.bind x f else Option.bind y f := by
  by_cases h : c
  · rw [if_pos h, if_pos h]
  · rw [if_neg h, if_neg h]
theorem ob_asc {α β γ : Type} {x : Option α} {g : α → Option β} {f : β → Option γ} : Option.bind (Option.bind x g) f = Option.bind x (fun a => Option.bind (g a) f) := by
  cases x <;> rfl
/-- the places lo .. hi - 1 of 120 hold what stands from A on, B's place by place -/
def cpd (s : fu_S) (A B lo hi : Nat) : fu_S := (s.1, fun a r => if a = 120 ∧ lo ≤ r ∧ r < hi then s.2 120 (A + (r - B)) else s.2 a r)
theorem cpd_1 {s : fu_S} {A B lo hi : Nat} : (cpd s A B lo hi).1 = s.1 := rfl
theorem cpd_0 {s : fu_S} {A B lo hi : Nat} (h : hi ≤ lo) : cpd s A B lo hi = s := by
  unfold cpd
  have : (fun a r => if a = 120 ∧ lo ≤ r ∧ r < hi then s.2 120 (A + (r - B)) else s.2 a r) = s.2 := by
    funext a r
    rw [if_neg (by omega)]
  rw [this]
theorem cpd_2 {s : fu_S} {A B lo hi a : Nat} (h : a ≠ 120) : (cpd s A B lo hi).2 a = s.2 a := by
  funext r
  exact if_neg (fun z => h z.1)
theorem cpd_r {s : fu_S} {A B lo hi q : Nat} (h : ¬ (lo ≤ q ∧ q < hi)) : (cpd s A B lo hi).2 120 q = s.2 120 q := if_neg (fun z => h z.2)
theorem cpd_i {s : fu_S} {A B lo hi q : Nat} (h : lo ≤ q ∧ q < hi) : (cpd s A B lo hi).2 120 q = s.2 120 (A + (q - B)) := if_pos ⟨rfl, h⟩
theorem cpd_w {s : fu_S} {A B lo hi lo' hi' q : Nat} {x : Int64} (hx : x = s.2 120 (A + (q - B))) (h : ∀ r, (lo' ≤ r ∧ r < hi') ↔ ((lo ≤ r ∧ r < hi) ∨ r = q)) : fu_pl (cpd s A B lo hi) 120 q x = cpd s A B lo' hi' := by
  subst hx
  unfold fu_pl cpd
  refine congrArg (Prod.mk s.1) ?_
  funext a r
  show (if a = 120 ∧ r = q then s.2 120 (A + (q - B)) else (if a = 120 ∧ lo ≤ r ∧ r < hi then s.2 120 (A + (r - B)) else s.2 a r)) = if a = 120 ∧ lo' ≤ r ∧ r < hi' then s.2 120 (A + (r - B)) else s.2 a r
  have hr := h r
  by_cases h1 : a = 120 ∧ r = q
  · rw [if_pos h1, if_pos ⟨h1.1, hr.mpr (.inr h1.2)⟩, h1.2]
  · rw [if_neg h1]
    by_cases h2 : a = 120 ∧ lo ≤ r ∧ r < hi
    · rw [if_pos h2, if_pos ⟨h2.1, hr.mpr (.inl h2.2)⟩]
    · rw [if_neg h2, if_neg (fun z => ?_)]
      rcases hr.mp z.2 with w | w
      · exact h2 ⟨z.1, w⟩
      · exact h1 ⟨z.1, w⟩
theorem r_pourF {s : fu_S} {t i u j m : Nat} (ht : t < 4) (hu : u < 4) (hi : i + m ≤ 60) (hj : j + m ≤ 60) (h : ¬ i < j) : l_X12_pour_158 fu_N s (Int32.ofNat t) (Int32.ofNat i) (Int32.ofNat u) (Int32.ofNat j) (Int32.ofNat m) false 0 = some (cpd s (60 * t + i) (60 * u + j) (60 * u + j) (60 * u + j + m)) := by
  have hL := lp_up (l := fun f σ k => l_X12_pour_158 f σ (Int32.ofNat t) (Int32.ofNat i) (Int32.ofNat u) (Int32.ofNat j) (Int32.ofNat m) false (Int32.ofNat k)) (N := m) (S := fun k => cpd s (60 * t + i) (60 * u + j) (60 * u + j) (60 * u + j + k)) (r := cpd s (60 * t + i) (60 * u + j) (60 * u + j) (60 * u + j + m)) (fun n k hk => by
      have m1 : 60 * t + i + k < 240 := by omega
      have m2 : 60 * u + j + k < 240 := by omega
      have e1 : (cpd s (60 * t + i) (60 * u + j) (60 * u + j) (60 * u + j + k)).2 120 (60 * t + i + k) = s.2 120 (60 * t + i + k) := cpd_r (by omega)
      have e2 : fu_pl (cpd s (60 * t + i) (60 * u + j) (60 * u + j) (60 * u + j + k)) 120 (60 * u + j + k) (s.2 120 (60 * t + i + k)) = cpd s (60 * t + i) (60 * u + j) (60 * u + j) (60 * u + j + (k + 1)) := cpd_w (by rw [show 60 * t + i + (60 * u + j + k - (60 * u + j)) = 60 * t + i + k by omega]) (fun r => by omega)
      show l_X12_pour_158 (n + 1) (cpd s (60 * t + i) (60 * u + j) (60 * u + j) (60 * u + j + k)) (Int32.ofNat t) (Int32.ofNat i) (Int32.ofNat u) (Int32.ofNat j) (Int32.ofNat m) false (Int32.ofNat k) = _
      simp (disch := omega) only [ne_eq, i_lt0, i_le0, i_eq0, i_n1, i_ltl, i_lel, i_eql, i_lt, i_le, i_eq, i_in, i_tn, i_add, i_addl, i_addr, i_mul, i_mulr, i_mull, if_true, if_false, eq_self, decide_eq_true_eq, decide_true, decide_false, Option.bind_some, Option.bind_none, fu_lt, Bool.false_eq_true, Bool.true_eq_false, not_true_eq_false, not_false_eq_true, Nat.not_lt_zero, Nat.le_zero_eq, Nat.reduceAdd, Nat.reduceMul, Nat.reduceSub, Nat.reduceEqDiff, Nat.reduceLT, Nat.reduceLeDiff, sC_def, sR_def, sC_1, sC_2, sR_1, sR_2, sC_st, sR_st, sR_no, sR_refuse, and_self, true_and, and_true, false_and, and_false, l_X12_pour_158, hk, m1, m2, e1, e2, i_add1]) (fun n => by
      show l_X12_pour_158 (n + 1) (cpd s (60 * t + i) (60 * u + j) (60 * u + j) (60 * u + j + m)) (Int32.ofNat t) (Int32.ofNat i) (Int32.ofNat u) (Int32.ofNat j) (Int32.ofNat m) false (Int32.ofNat m) = _
      simp (disch := omega) only [ne_eq, i_lt0, i_le0, i_eq0, i_n1, i_ltl, i_lel, i_eql, i_lt, i_le, i_eq, i_in, i_tn, i_add, i_addl, i_addr, i_mul, i_mulr, i_mull, if_true, if_false, eq_self, decide_eq_true_eq, decide_true, decide_false, Option.bind_some, Option.bind_none, fu_lt, Bool.false_eq_true, Bool.true_eq_false, not_true_eq_false, not_false_eq_true, Nat.not_lt_zero, Nat.le_zero_eq, Nat.reduceAdd, Nat.reduceMul, Nat.reduceSub, Nat.reduceEqDiff, Nat.reduceLT, Nat.reduceLeDiff, sC_def, sR_def, sC_1, sC_2, sR_1, sR_2, sC_st, sR_st, sR_no, sR_refuse, and_self, true_and, and_true, false_and, and_false, l_X12_pour_158, Nat.lt_irrefl]) (f := fu_N) (k := 0) (by omega) (fu_N_gt (by omega))
  simp only [Nat.add_zero, cpd_0 (Nat.le_refl _)] at hL
  exact hL
theorem r_pourT {s : fu_S} {t i u j m : Nat} (ht : t < 4) (hu : u < 4) (hi : i + m ≤ 60) (hj : j + m ≤ 60) (h : i < j) : l_X12_pour_158 fu_N s (Int32.ofNat t) (Int32.ofNat i) (Int32.ofNat u) (Int32.ofNat j) (Int32.ofNat m) true 0 = some (cpd s (60 * t + i) (60 * u + j) (60 * u + j) (60 * u + j + m)) := by
  have hL := lp_up (l := fun f σ k => l_X12_pour_158 f σ (Int32.ofNat t) (Int32.ofNat i) (Int32.ofNat u) (Int32.ofNat j) (Int32.ofNat m) true (Int32.ofNat k)) (N := m) (S := fun k => cpd s (60 * t + i) (60 * u + j) (60 * u + j + (m - k)) (60 * u + j + m)) (r := cpd s (60 * t + i) (60 * u + j) (60 * u + j) (60 * u + j + m)) (fun n k hk => by
      have m1 : 60 * t + i + (m - 1 - k) < 240 := by omega
      have m2 : 60 * u + j + (m - 1 - k) < 240 := by omega
      have m3 : 1 ≤ m := by omega
      have m4 : k ≤ m - 1 := by omega
      have e1 : (cpd s (60 * t + i) (60 * u + j) (60 * u + j + (m - k)) (60 * u + j + m)).2 120 (60 * t + i + (m - 1 - k)) = s.2 120 (60 * t + i + (m - 1 - k)) := cpd_r (by omega)
      have e2 : fu_pl (cpd s (60 * t + i) (60 * u + j) (60 * u + j + (m - k)) (60 * u + j + m)) 120 (60 * u + j + (m - 1 - k)) (s.2 120 (60 * t + i + (m - 1 - k))) = cpd s (60 * t + i) (60 * u + j) (60 * u + j + (m - (k + 1))) (60 * u + j + m) := cpd_w (by rw [show 60 * t + i + (60 * u + j + (m - 1 - k) - (60 * u + j)) = 60 * t + i + (m - 1 - k) by omega]) (fun r => by omega)
      show l_X12_pour_158 (n + 1) (cpd s (60 * t + i) (60 * u + j) (60 * u + j + (m - k)) (60 * u + j + m)) (Int32.ofNat t) (Int32.ofNat i) (Int32.ofNat u) (Int32.ofNat j) (Int32.ofNat m) true (Int32.ofNat k) = _
      simp (maxSteps := 1000000) (disch := omega) only [ne_eq, i_lt0, i_le0, i_eq0, i_n1, i_ltl, i_lel, i_eql, i_lt, i_le, i_eq, i_in, i_tn, i_add, i_addl, i_addr, i_mul, i_mulr, i_mull, if_true, if_false, eq_self, decide_eq_true_eq, decide_true, decide_false, Option.bind_some, Option.bind_none, ↓fu_ltd, ↓reduceIte, ↓ob_ite, ↓ob_asc, Bool.false_eq_true, Bool.true_eq_false, not_true_eq_false, not_false_eq_true, Nat.not_lt_zero, Nat.le_zero_eq, Nat.reduceAdd, Nat.reduceMul, Nat.reduceSub, Nat.reduceEqDiff, Nat.reduceLT, Nat.reduceLeDiff, sC_def, sR_def, sC_1, sC_2, sR_1, sR_2, sC_st, sR_st, sR_no, sR_refuse, and_self, true_and, and_true, false_and, and_false, l_X12_pour_158, hk, i_subl, i_sub, m3, m4, m1, m2, e1, e2, i_add1]) (fun n => by
      show l_X12_pour_158 (n + 1) (cpd s (60 * t + i) (60 * u + j) (60 * u + j + (m - m)) (60 * u + j + m)) (Int32.ofNat t) (Int32.ofNat i) (Int32.ofNat u) (Int32.ofNat j) (Int32.ofNat m) true (Int32.ofNat m) = _
      simp (maxSteps := 1000000) (disch := omega) only [ne_eq, i_lt0, i_le0, i_eq0, i_n1, i_ltl, i_lel, i_eql, i_lt, i_le, i_eq, i_in, i_tn, i_add, i_addl, i_addr, i_mul, i_mulr, i_mull, if_true, if_false, eq_self, decide_eq_true_eq, decide_true, decide_false, Option.bind_some, Option.bind_none, ↓fu_ltd, ↓reduceIte, ↓ob_ite, ↓ob_asc, Bool.false_eq_true, Bool.true_eq_false, not_true_eq_false, not_false_eq_true, Nat.not_lt_zero, Nat.le_zero_eq, Nat.reduceAdd, Nat.reduceMul, Nat.reduceSub, Nat.reduceEqDiff, Nat.reduceLT, Nat.reduceLeDiff, sC_def, sR_def, sC_1, sC_2, sR_1, sR_2, sC_st, sR_st, sR_no, sR_refuse, and_self, true_and, and_true, false_and, and_false, l_X12_pour_158, Nat.lt_irrefl, Nat.sub_self, Nat.add_zero]) (f := fu_N) (k := 0) (by omega) (fu_N_gt (by omega))
  simp only [Nat.sub_zero, cpd_0 (Nat.le_refl _)] at hL
  exact hL
section PRR
variable {s : fu_S} {t n c i : Nat} {x y : Int32}
theorem c_hasPlN (ht : t < 4) (hn : n ≤ 60) (hi : i < 2147483648) (hc : c < 2147483648) (h : s.1 4 t = Int32.ofNat n) : f_X7_hasPlaces s (Int32.ofNat t) (Int32.ofNat i) (Int32.ofNat c) = some (decide (i + c ≤ n)) := by
  refine (c_hasPl ht hn hc h).trans (congrArg some (decide_eq_decide.mpr ?_))
  rw [i_le hi (by omega)]
  have := i_neg hi
  constructor
  · rintro ⟨-, h1, h2⟩; omega
  · intro h1; exact ⟨this, by omega, by omega⟩
theorem c_hasPlneg (ht : t < 4) (hn : n ≤ 60) (hc : c < 2147483648) (h : s.1 4 t = Int32.ofNat n) (hx : x < 0) : f_X7_hasPlaces s (Int32.ofNat t) x (Int32.ofNat c) = some false := by
  refine (c_hasPl ht hn hc h).trans (congrArg some (decide_eq_false ?_))
  exact fun z => z.1 hx
end PRR
theorem j_ti {a : Nat} (h : a < 9223372036854775808) : (Int64.ofNat a).toInt = a := Int64.toInt_ofNat_of_lt (by omega)
theorem j_of {a : Nat} (h : a < 2147483648) : Int32.toInt64 (Int32.ofNat a) = Int64.ofNat a := by
  apply Int64.toInt_inj.mp
  rw [Int32.toInt_toInt64, i_ti h, j_ti (by omega)]
theorem j_add {a b : Nat} : Int64.ofNat a + Int64.ofNat b = Int64.ofNat (a + b) := (Int64.ofNat_add a b).symm
theorem j_le {a b : Nat} (ha : a < 9223372036854775808) (hb : b < 9223372036854775808) : (Int64.ofNat a ≤ Int64.ofNat b) ↔ a ≤ b := by
  rw [Int64.le_iff_toInt_le, j_ti ha, j_ti hb]; omega
/-- reads of the trays in words of both -/
theorem tr_is {s1 s2 : fu_S} (hT : dTr s1 s2) {t : Nat} (ht : t < 4) : (s1.1 4 t = -1 ∧ s2.1 119 t = -1) ∨ ∃ n so, n ≤ 60 ∧ so < 4 ∧ s1.1 4 t = Int32.ofNat n ∧ s2.1 119 t = Int32.ofNat n ∧ s1.1 3 t = Int32.ofNat so ∧ s2.1 118 t = Int32.ofNat so ∧ ∀ p, p < n → s1.2 2 (60 * t + p) = s2.2 120 (60 * t + p) := hT t ht
theorem c_sortOf {s : fu_S} {t n : Nat} (ht : t < 4) (hn : n ≤ 60) (h : s.1 4 t = Int32.ofNat n) : f_X7_sortOf s (Int32.ofNat t) = some (s.1 3 t) := by
  simp (disch := omega) only [ne_eq, i_lt0, i_le0, i_eq0, i_n1, i_ltl, i_lel, i_eql, i_lt, i_le, i_eq, i_in, i_tn, i_add, i_addl, i_addr, i_mul, i_mulr, i_mull, if_true, if_false, eq_self, decide_eq_true_eq, decide_true, decide_false, Option.bind_some, Option.bind_none, fu_lt, Bool.false_eq_true, Bool.true_eq_false, not_true_eq_false, not_false_eq_true, Nat.not_lt_zero, Nat.le_zero_eq, Nat.reduceAdd, Nat.reduceMul, Nat.reduceSub, Nat.reduceEqDiff, Nat.reduceLT, Nat.reduceLeDiff, sC_def, sR_def, sC_1, sC_2, sR_1, sR_2, sC_st, sR_st, sR_no, sR_refuse, and_self, true_and, and_true, false_and, and_false, f_X7_sortOf, c_there ht hn h, ht]
theorem i_n1lt : ((-1 : Int32) < 0) ↔ True := by decide
theorem hd_6 : lw_E_6 dI := by
  intro s1 s2 hI a1 a2 a3 a4 a5
  have hT : dTr s1 s2 := hI.2.2.1
  have fin1 : ∀ x : Int32, ¬ x < 0 → ∃ n, n < 2147483648 ∧ x = Int32.ofNat n := fun x hx => (i_cases x).resolve_left hx
  by_cases h1 : ¬ a1 < 0 ∧ a1 < 4
  · obtain ⟨t, ht, rfl⟩ := i_is4 h1
    by_cases h3 : ¬ a3 < 0 ∧ a3 < 4
    · obtain ⟨u, hu, rfl⟩ := i_is4 h3
      rcases tr_is hT ht with ⟨p1', p2'⟩ | ⟨n, so, hn, hso, q1, q2, q3, q4, q5⟩
      · refine ⟨false, sC s1 3, sR s2 3, ?_, ?_, dI_s hI⟩
        · simp (maxSteps := 1000000) (disch := omega) only [ne_eq, i_lt0, i_le0, i_eq0, i_n1, i_ltl, i_lel, i_eql, i_lt, i_le, i_eq, i_in, i_tn, i_add, i_addl, i_addr, i_mul, i_mulr, i_mull, if_true, if_false, eq_self, decide_eq_true_eq, decide_true, decide_false, Option.bind_some, Option.bind_none, ↓fu_ltd, ↓reduceIte, ↓ob_ite, ↓ob_asc, Bool.false_eq_true, Bool.true_eq_false, not_true_eq_false, not_false_eq_true, Nat.not_lt_zero, Nat.le_zero_eq, Nat.reduceAdd, Nat.reduceMul, Nat.reduceSub, Nat.reduceEqDiff, Nat.reduceLT, Nat.reduceLeDiff, sC_def, sR_def, sC_1, sC_2, sR_1, sR_2, sC_st, sR_st, sR_no, sR_refuse, and_self, true_and, and_true, false_and, and_false, f_X11_pour, c_isTray, ht, hu, c_there0 ht p1']
          try rfl
        · simp (maxSteps := 1000000) (disch := omega) only [ne_eq, i_lt0, i_le0, i_eq0, i_n1, i_ltl, i_lel, i_eql, i_lt, i_le, i_eq, i_in, i_tn, i_add, i_addl, i_addr, i_mul, i_mulr, i_mull, if_true, if_false, eq_self, decide_eq_true_eq, decide_true, decide_false, Option.bind_some, Option.bind_none, ↓fu_ltd, ↓reduceIte, ↓ob_ite, ↓ob_asc, Bool.false_eq_true, Bool.true_eq_false, not_true_eq_false, not_false_eq_true, Nat.not_lt_zero, Nat.le_zero_eq, Nat.reduceAdd, Nat.reduceMul, Nat.reduceSub, Nat.reduceEqDiff, Nat.reduceLT, Nat.reduceLeDiff, sC_def, sR_def, sC_1, sC_2, sR_1, sR_2, sC_st, sR_st, sR_no, sR_refuse, and_self, true_and, and_true, false_and, and_false, f_X12_pour, ht, hu, p2', i_n1lt]
      · rcases tr_is hT hu with ⟨p1', p2'⟩ | ⟨n', so', hn', hso', q1', q2', q3', q4', q5'⟩
        · refine ⟨false, sC s1 3, sR s2 3, ?_, ?_, dI_s hI⟩
          · simp (maxSteps := 1000000) (disch := omega) only [ne_eq, i_lt0, i_le0, i_eq0, i_n1, i_ltl, i_lel, i_eql, i_lt, i_le, i_eq, i_in, i_tn, i_add, i_addl, i_addr, i_mul, i_mulr, i_mull, if_true, if_false, eq_self, decide_eq_true_eq, decide_true, decide_false, Option.bind_some, Option.bind_none, ↓fu_ltd, ↓reduceIte, ↓ob_ite, ↓ob_asc, Bool.false_eq_true, Bool.true_eq_false, not_true_eq_false, not_false_eq_true, Nat.not_lt_zero, Nat.le_zero_eq, Nat.reduceAdd, Nat.reduceMul, Nat.reduceSub, Nat.reduceEqDiff, Nat.reduceLT, Nat.reduceLeDiff, sC_def, sR_def, sC_1, sC_2, sR_1, sR_2, sC_st, sR_st, sR_no, sR_refuse, and_self, true_and, and_true, false_and, and_false, f_X11_pour, c_isTray, ht, hu, c_there ht hn q1, c_there0 hu p1']
            try rfl
          · simp (maxSteps := 1000000) (disch := omega) only [ne_eq, i_lt0, i_le0, i_eq0, i_n1, i_ltl, i_lel, i_eql, i_lt, i_le, i_eq, i_in, i_tn, i_add, i_addl, i_addr, i_mul, i_mulr, i_mull, if_true, if_false, eq_self, decide_eq_true_eq, decide_true, decide_false, Option.bind_some, Option.bind_none, ↓fu_ltd, ↓reduceIte, ↓ob_ite, ↓ob_asc, Bool.false_eq_true, Bool.true_eq_false, not_true_eq_false, not_false_eq_true, Nat.not_lt_zero, Nat.le_zero_eq, Nat.reduceAdd, Nat.reduceMul, Nat.reduceSub, Nat.reduceEqDiff, Nat.reduceLT, Nat.reduceLeDiff, sC_def, sR_def, sC_1, sC_2, sR_1, sR_2, sC_st, sR_st, sR_no, sR_refuse, and_self, true_and, and_true, false_and, and_false, f_X12_pour, ht, hu, q2, p2', i_n1lt]
        · have w1 := c_there ht hn q1
          have w2 := c_there hu hn' q1'
          have w3 := c_sortOf ht hn q1
          have w4 := c_sortOf hu hn' q1'
          rw [q3] at w3
          rw [q3'] at w4
          by_cases hs : so = so'
          · by_cases h5 : a5 < 0
            · refine ⟨false, sC s1 6, sR s2 6, ?_, ?_, dI_s hI⟩
              · simp (maxSteps := 1000000) (disch := omega) only [ne_eq, i_lt0, i_le0, i_eq0, i_n1, i_ltl, i_lel, i_eql, i_lt, i_le, i_eq, i_in, i_tn, i_add, i_addl, i_addr, i_mul, i_mulr, i_mull, if_true, if_false, eq_self, decide_eq_true_eq, decide_true, decide_false, Option.bind_some, Option.bind_none, ↓fu_ltd, ↓reduceIte, ↓ob_ite, ↓ob_asc, Bool.false_eq_true, Bool.true_eq_false, not_true_eq_false, not_false_eq_true, Nat.not_lt_zero, Nat.le_zero_eq, Nat.reduceAdd, Nat.reduceMul, Nat.reduceSub, Nat.reduceEqDiff, Nat.reduceLT, Nat.reduceLeDiff, sC_def, sR_def, sC_1, sC_2, sR_1, sR_2, sC_st, sR_st, sR_no, sR_refuse, and_self, true_and, and_true, false_and, and_false, f_X11_pour, c_isTray, ht, hu, w1, w2, w3, w4, hs, h5]
                try rfl
              · simp (maxSteps := 1000000) (disch := omega) only [ne_eq, i_lt0, i_le0, i_eq0, i_n1, i_ltl, i_lel, i_eql, i_lt, i_le, i_eq, i_in, i_tn, i_add, i_addl, i_addr, i_mul, i_mulr, i_mull, if_true, if_false, eq_self, decide_eq_true_eq, decide_true, decide_false, Option.bind_some, Option.bind_none, ↓fu_ltd, ↓reduceIte, ↓ob_ite, ↓ob_asc, Bool.false_eq_true, Bool.true_eq_false, not_true_eq_false, not_false_eq_true, Nat.not_lt_zero, Nat.le_zero_eq, Nat.reduceAdd, Nat.reduceMul, Nat.reduceSub, Nat.reduceEqDiff, Nat.reduceLT, Nat.reduceLeDiff, sC_def, sR_def, sC_1, sC_2, sR_1, sR_2, sC_st, sR_st, sR_no, sR_refuse, and_self, true_and, and_true, false_and, and_false, f_X12_pour, ht, hu, q2, q2', q4, q4', hs, h5]
            · obtain ⟨m, hm, rfl⟩ := fin1 a5 h5
              by_cases h2 : a2 < 0
              · refine ⟨false, sC s1 4, sR s2 4, ?_, ?_, dI_s hI⟩
                · simp (maxSteps := 1000000) (disch := omega) only [ne_eq, i_lt0, i_le0, i_eq0, i_n1, i_ltl, i_lel, i_eql, i_lt, i_le, i_eq, i_in, i_tn, i_add, i_addl, i_addr, i_mul, i_mulr, i_mull, if_true, if_false, eq_self, decide_eq_true_eq, decide_true, decide_false, Option.bind_some, Option.bind_none, ↓fu_ltd, ↓reduceIte, ↓ob_ite, ↓ob_asc, Bool.false_eq_true, Bool.true_eq_false, not_true_eq_false, not_false_eq_true, Nat.not_lt_zero, Nat.le_zero_eq, Nat.reduceAdd, Nat.reduceMul, Nat.reduceSub, Nat.reduceEqDiff, Nat.reduceLT, Nat.reduceLeDiff, sC_def, sR_def, sC_1, sC_2, sR_1, sR_2, sC_st, sR_st, sR_no, sR_refuse, and_self, true_and, and_true, false_and, and_false, f_X11_pour, c_isTray, ht, hu, w1, w2, w3, w4, hs, hm, c_hasPlneg ht hn hm q1 h2]
                  try rfl
                · simp (maxSteps := 1000000) (disch := omega) only [ne_eq, i_lt0, i_le0, i_eq0, i_n1, i_ltl, i_lel, i_eql, i_lt, i_le, i_eq, i_in, i_tn, i_add, i_addl, i_addr, i_mul, i_mulr, i_mull, if_true, if_false, eq_self, decide_eq_true_eq, decide_true, decide_false, Option.bind_some, Option.bind_none, ↓fu_ltd, ↓reduceIte, ↓ob_ite, ↓ob_asc, Bool.false_eq_true, Bool.true_eq_false, not_true_eq_false, not_false_eq_true, Nat.not_lt_zero, Nat.le_zero_eq, Nat.reduceAdd, Nat.reduceMul, Nat.reduceSub, Nat.reduceEqDiff, Nat.reduceLT, Nat.reduceLeDiff, sC_def, sR_def, sC_1, sC_2, sR_1, sR_2, sC_st, sR_st, sR_no, sR_refuse, and_self, true_and, and_true, false_and, and_false, f_X12_pour, ht, hu, q2, q2', q4, q4', hs, hm, h2]
              · obtain ⟨i, hi, rfl⟩ := fin1 a2 h2
                by_cases h4 : a4 < 0
                · refine ⟨false, sC s1 4, sR s2 4, ?_, ?_, dI_s hI⟩
                  · by_cases z : i + m ≤ n
                    · simp (maxSteps := 1000000) (disch := omega) only [ne_eq, i_lt0, i_le0, i_eq0, i_n1, i_ltl, i_lel, i_eql, i_lt, i_le, i_eq, i_in, i_tn, i_add, i_addl, i_addr, i_mul, i_mulr, i_mull, if_true, if_false, eq_self, decide_eq_true_eq, decide_true, decide_false, Option.bind_some, Option.bind_none, ↓fu_ltd, ↓reduceIte, ↓ob_ite, ↓ob_asc, Bool.false_eq_true, Bool.true_eq_false, not_true_eq_false, not_false_eq_true, Nat.not_lt_zero, Nat.le_zero_eq, Nat.reduceAdd, Nat.reduceMul, Nat.reduceSub, Nat.reduceEqDiff, Nat.reduceLT, Nat.reduceLeDiff, sC_def, sR_def, sC_1, sC_2, sR_1, sR_2, sC_st, sR_st, sR_no, sR_refuse, and_self, true_and, and_true, false_and, and_false, f_X11_pour, c_isTray, ht, hu, w1, w2, w3, w4, hs, hm, c_hasPlN ht hn hi hm q1, z, c_hasPlneg hu hn' hm q1' h4]
                      try rfl
                    · simp (maxSteps := 1000000) (disch := omega) only [ne_eq, i_lt0, i_le0, i_eq0, i_n1, i_ltl, i_lel, i_eql, i_lt, i_le, i_eq, i_in, i_tn, i_add, i_addl, i_addr, i_mul, i_mulr, i_mull, if_true, if_false, eq_self, decide_eq_true_eq, decide_true, decide_false, Option.bind_some, Option.bind_none, ↓fu_ltd, ↓reduceIte, ↓ob_ite, ↓ob_asc, Bool.false_eq_true, Bool.true_eq_false, not_true_eq_false, not_false_eq_true, Nat.not_lt_zero, Nat.le_zero_eq, Nat.reduceAdd, Nat.reduceMul, Nat.reduceSub, Nat.reduceEqDiff, Nat.reduceLT, Nat.reduceLeDiff, sC_def, sR_def, sC_1, sC_2, sR_1, sR_2, sC_st, sR_st, sR_no, sR_refuse, and_self, true_and, and_true, false_and, and_false, f_X11_pour, c_isTray, ht, hu, w1, w2, w3, w4, hs, hm, c_hasPlN ht hn hi hm q1, z]
                      try rfl
                  · simp (maxSteps := 1000000) (disch := omega) only [ne_eq, i_lt0, i_le0, i_eq0, i_n1, i_ltl, i_lel, i_eql, i_lt, i_le, i_eq, i_in, i_tn, i_add, i_addl, i_addr, i_mul, i_mulr, i_mull, if_true, if_false, eq_self, decide_eq_true_eq, decide_true, decide_false, Option.bind_some, Option.bind_none, ↓fu_ltd, ↓reduceIte, ↓ob_ite, ↓ob_asc, Bool.false_eq_true, Bool.true_eq_false, not_true_eq_false, not_false_eq_true, Nat.not_lt_zero, Nat.le_zero_eq, Nat.reduceAdd, Nat.reduceMul, Nat.reduceSub, Nat.reduceEqDiff, Nat.reduceLT, Nat.reduceLeDiff, sC_def, sR_def, sC_1, sC_2, sR_1, sR_2, sC_st, sR_st, sR_no, sR_refuse, and_self, true_and, and_true, false_and, and_false, f_X12_pour, ht, hu, q2, q2', q4, q4', hs, hm, hi, h4]
                · obtain ⟨j, hj, rfl⟩ := fin1 a4 h4
                  by_cases z : i + m ≤ n
                  · by_cases z' : j + m ≤ n'
                    · have g1 : f_X7_transfer (sC s1 0) (Int32.ofNat t) (Int32.ofNat i) (Int32.ofNat u) (Int32.ofNat j) (Int32.ofNat m) = some (fu_cl (sC s1 0) 2 (t * 60 + i) 2 (u * 60 + j) m) := by
                        have b1 : (sC s1 0).1 4 t = Int32.ofNat n := by rw [sC_1 (by omega)]; exact q1
                        have b2 : (sC s1 0).1 4 u = Int32.ofNat n' := by rw [sC_1 (by omega)]; exact q1'
                        have m1 : t * 60 + i + m ≤ 240 := by omega
                        have m2 : u * 60 + j + m ≤ 240 := by omega
                        simp (disch := omega) only [ne_eq, i_lt0, i_le0, i_eq0, i_n1, i_ltl, i_lel, i_eql, i_lt, i_le, i_eq, i_in, i_tn, i_add, i_addl, i_addr, i_mul, i_mulr, i_mull, if_true, if_false, eq_self, decide_eq_true_eq, decide_true, decide_false, Option.bind_some, Option.bind_none, fu_lt, Bool.false_eq_true, Bool.true_eq_false, not_true_eq_false, not_false_eq_true, Nat.not_lt_zero, Nat.le_zero_eq, Nat.reduceAdd, Nat.reduceMul, Nat.reduceSub, Nat.reduceEqDiff, Nat.reduceLT, Nat.reduceLeDiff, sC_def, sR_def, sC_1, sC_2, sR_1, sR_2, sC_st, sR_st, sR_no, sR_refuse, and_self, true_and, and_true, false_and, and_false, f_X7_transfer, c_hasPlN ht hn hi hm b1, z, c_hasPlN hu hn' hj hm b2, z', m1, m2]
                      have g2 : (fu_cl (sC s1 0) 2 (t * 60 + i) 2 (u * 60 + j) m).1 = (sC s1 0).1 := rfl
                      refine ⟨true, fu_cl (sC s1 0) 2 (t * 60 + i) 2 (u * 60 + j) m, cpd (sR s2 0) (60 * t + i) (60 * u + j) (60 * u + j) (60 * u + j + m), ?_, ?_, dI_tray hI ?_ ?_ ?_ ?_ ?_ ?_ ?_ ?_⟩
                      · simp (maxSteps := 1000000) (disch := omega) only [ne_eq, i_lt0, i_le0, i_eq0, i_n1, i_ltl, i_lel, i_eql, i_lt, i_le, i_eq, i_in, i_tn, i_add, i_addl, i_addr, i_mul, i_mulr, i_mull, if_true, if_false, eq_self, decide_eq_true_eq, decide_true, decide_false, Option.bind_some, Option.bind_none, ↓fu_ltd, ↓reduceIte, ↓ob_ite, ↓ob_asc, Bool.false_eq_true, Bool.true_eq_false, not_true_eq_false, not_false_eq_true, Nat.not_lt_zero, Nat.le_zero_eq, Nat.reduceAdd, Nat.reduceMul, Nat.reduceSub, Nat.reduceEqDiff, Nat.reduceLT, Nat.reduceLeDiff, sC_def, sR_def, sC_1, sC_2, sR_1, sR_2, sC_st, sR_st, sR_no, sR_refuse, and_self, true_and, and_true, false_and, and_false, f_X11_pour, c_isTray, ht, hu, w1, w2, w3, w4, hs, hm, c_hasPlN ht hn hi hm q1, z, c_hasPlN hu hn' hj hm q1', z', g1, g2]
                      · by_cases hij : i < j
                        · simp (maxSteps := 1000000) (disch := omega) only [ne_eq, i_lt0, i_le0, i_eq0, i_n1, i_ltl, i_lel, i_eql, i_lt, i_le, i_eq, i_in, i_tn, i_add, i_addl, i_addr, i_mul, i_mulr, i_mull, if_true, if_false, eq_self, decide_eq_true_eq, decide_true, decide_false, Option.bind_some, Option.bind_none, ↓fu_ltd, ↓reduceIte, ↓ob_ite, ↓ob_asc, Bool.false_eq_true, Bool.true_eq_false, not_true_eq_false, not_false_eq_true, Nat.not_lt_zero, Nat.le_zero_eq, Nat.reduceAdd, Nat.reduceMul, Nat.reduceSub, Nat.reduceEqDiff, Nat.reduceLT, Nat.reduceLeDiff, sC_def, sR_def, sC_1, sC_2, sR_1, sR_2, sC_st, sR_st, sR_no, sR_refuse, and_self, true_and, and_true, false_and, and_false, f_X12_pour, ht, hu, q2, q2', q4, q4', hs, hm, hi, hj, j_of, j_add, j_le, z, z', hij, r_pourT]
                        · simp (maxSteps := 1000000) (disch := omega) only [ne_eq, i_lt0, i_le0, i_eq0, i_n1, i_ltl, i_lel, i_eql, i_lt, i_le, i_eq, i_in, i_tn, i_add, i_addl, i_addr, i_mul, i_mulr, i_mull, if_true, if_false, eq_self, decide_eq_true_eq, decide_true, decide_false, Option.bind_some, Option.bind_none, ↓fu_ltd, ↓reduceIte, ↓ob_ite, ↓ob_asc, Bool.false_eq_true, Bool.true_eq_false, not_true_eq_false, not_false_eq_true, Nat.not_lt_zero, Nat.le_zero_eq, Nat.reduceAdd, Nat.reduceMul, Nat.reduceSub, Nat.reduceEqDiff, Nat.reduceLT, Nat.reduceLeDiff, sC_def, sR_def, sC_1, sC_2, sR_1, sR_2, sC_st, sR_st, sR_no, sR_refuse, and_self, true_and, and_true, false_and, and_false, f_X12_pour, ht, hu, q2, q2', q4, q4', hs, hm, hi, hj, j_of, j_add, j_le, z, z', hij, r_pourF]
                      · intro v hv
                        rw [g2, cpd_1, sC_1 (by omega), sC_1 (by omega), sR_1 (by omega), sR_1 (by omega)]
                        rcases hT v hv with h | ⟨n2, so2, y1, y2, y3, y4, y5, y6, y7⟩
                        · exact .inl h
                        · refine .inr ⟨n2, so2, y1, y2, y3, y4, y5, y6, fun p hp => ?_⟩
                          have g3 : (fu_cl (sC s1 0) 2 (t * 60 + i) 2 (u * 60 + j) m).2 2 (60 * v + p) = if u * 60 + j ≤ 60 * v + p ∧ 60 * v + p < u * 60 + j + m then s1.2 2 (t * 60 + i + (60 * v + p - (u * 60 + j))) else s1.2 2 (60 * v + p) := by
                            show (if (2 : Nat) = 2 then va_cpy (s1.2 2) (s1.2 2) _ _ _ else s1.2 2) (60 * v + p) = _
                            rw [if_pos rfl]
                            rfl
                          rw [g3]
                          by_cases hb : u * 60 + j ≤ 60 * v + p ∧ 60 * v + p < u * 60 + j + m
                          · rw [if_pos hb, cpd_i (by omega), sR_2]
                            rw [show t * 60 + i + (60 * v + p - (u * 60 + j)) = 60 * t + (i + (60 * v + p - (u * 60 + j))) by omega, q5 _ (by omega)]
                            exact congrArg (s2.2 120) (by omega)
                          · rw [if_neg hb, cpd_r (by omega), sR_2]
                            exact y7 p hp
                      · rw [g2, cpd_1, sC_st, sR_st]
                      · rfl
                      · show (if (0 : Nat) = 2 then va_cpy (s1.2 2) (s1.2 2) (t * 60 + i) (u * 60 + j) m else s1.2 0) = s1.2 0
                        rw [if_neg (by omega)]
                      · intro a x0 x2 x3 x4
                        refine ⟨by rw [g2, sC_1 x0], ?_⟩
                        show (if a = 2 then va_cpy (s1.2 2) (s1.2 2) (t * 60 + i) (u * 60 + j) m else s1.2 a) = s1.2 a
                        rw [if_neg x2]
                      · intro q x0 x1
                        rw [cpd_1]; unfold sR; rw [p1q x0, p1q x1]
                      · rw [cpd_2 (by omega), sR_2]
                      · intro a ha
                        rw [cpd_1, cpd_2 (by omega), sR_1 (by omega), sR_2]; exact ⟨rfl, rfl⟩
                    · refine ⟨false, sC s1 4, sR s2 4, ?_, ?_, dI_s hI⟩
                      · simp (maxSteps := 1000000) (disch := omega) only [ne_eq, i_lt0, i_le0, i_eq0, i_n1, i_ltl, i_lel, i_eql, i_lt, i_le, i_eq, i_in, i_tn, i_add, i_addl, i_addr, i_mul, i_mulr, i_mull, if_true, if_false, eq_self, decide_eq_true_eq, decide_true, decide_false, Option.bind_some, Option.bind_none, ↓fu_ltd, ↓reduceIte, ↓ob_ite, ↓ob_asc, Bool.false_eq_true, Bool.true_eq_false, not_true_eq_false, not_false_eq_true, Nat.not_lt_zero, Nat.le_zero_eq, Nat.reduceAdd, Nat.reduceMul, Nat.reduceSub, Nat.reduceEqDiff, Nat.reduceLT, Nat.reduceLeDiff, sC_def, sR_def, sC_1, sC_2, sR_1, sR_2, sC_st, sR_st, sR_no, sR_refuse, and_self, true_and, and_true, false_and, and_false, f_X11_pour, c_isTray, ht, hu, w1, w2, w3, w4, hs, hm, c_hasPlN ht hn hi hm q1, z, c_hasPlN hu hn' hj hm q1', z']
                        try rfl
                      · simp (maxSteps := 1000000) (disch := omega) only [ne_eq, i_lt0, i_le0, i_eq0, i_n1, i_ltl, i_lel, i_eql, i_lt, i_le, i_eq, i_in, i_tn, i_add, i_addl, i_addr, i_mul, i_mulr, i_mull, if_true, if_false, eq_self, decide_eq_true_eq, decide_true, decide_false, Option.bind_some, Option.bind_none, ↓fu_ltd, ↓reduceIte, ↓ob_ite, ↓ob_asc, Bool.false_eq_true, Bool.true_eq_false, not_true_eq_false, not_false_eq_true, Nat.not_lt_zero, Nat.le_zero_eq, Nat.reduceAdd, Nat.reduceMul, Nat.reduceSub, Nat.reduceEqDiff, Nat.reduceLT, Nat.reduceLeDiff, sC_def, sR_def, sC_1, sC_2, sR_1, sR_2, sC_st, sR_st, sR_no, sR_refuse, and_self, true_and, and_true, false_and, and_false, f_X12_pour, ht, hu, q2, q2', q4, q4', hs, hm, hi, hj, j_of, j_add, j_le, z, z']
                  · refine ⟨false, sC s1 4, sR s2 4, ?_, ?_, dI_s hI⟩
                    · simp (maxSteps := 1000000) (disch := omega) only [ne_eq, i_lt0, i_le0, i_eq0, i_n1, i_ltl, i_lel, i_eql, i_lt, i_le, i_eq, i_in, i_tn, i_add, i_addl, i_addr, i_mul, i_mulr, i_mull, if_true, if_false, eq_self, decide_eq_true_eq, decide_true, decide_false, Option.bind_some, Option.bind_none, ↓fu_ltd, ↓reduceIte, ↓ob_ite, ↓ob_asc, Bool.false_eq_true, Bool.true_eq_false, not_true_eq_false, not_false_eq_true, Nat.not_lt_zero, Nat.le_zero_eq, Nat.reduceAdd, Nat.reduceMul, Nat.reduceSub, Nat.reduceEqDiff, Nat.reduceLT, Nat.reduceLeDiff, sC_def, sR_def, sC_1, sC_2, sR_1, sR_2, sC_st, sR_st, sR_no, sR_refuse, and_self, true_and, and_true, false_and, and_false, f_X11_pour, c_isTray, ht, hu, w1, w2, w3, w4, hs, hm, c_hasPlN ht hn hi hm q1, z]
                      try rfl
                    · simp (maxSteps := 1000000) (disch := omega) only [ne_eq, i_lt0, i_le0, i_eq0, i_n1, i_ltl, i_lel, i_eql, i_lt, i_le, i_eq, i_in, i_tn, i_add, i_addl, i_addr, i_mul, i_mulr, i_mull, if_true, if_false, eq_self, decide_eq_true_eq, decide_true, decide_false, Option.bind_some, Option.bind_none, ↓fu_ltd, ↓reduceIte, ↓ob_ite, ↓ob_asc, Bool.false_eq_true, Bool.true_eq_false, not_true_eq_false, not_false_eq_true, Nat.not_lt_zero, Nat.le_zero_eq, Nat.reduceAdd, Nat.reduceMul, Nat.reduceSub, Nat.reduceEqDiff, Nat.reduceLT, Nat.reduceLeDiff, sC_def, sR_def, sC_1, sC_2, sR_1, sR_2, sC_st, sR_st, sR_no, sR_refuse, and_self, true_and, and_true, false_and, and_false, f_X12_pour, ht, hu, q2, q2', q4, q4', hs, hm, hi, hj, j_of, j_add, j_le, z]
          · refine ⟨false, sC s1 11, sR s2 11, ?_, ?_, dI_s hI⟩
            · simp (maxSteps := 1000000) (disch := omega) only [ne_eq, i_lt0, i_le0, i_eq0, i_n1, i_ltl, i_lel, i_eql, i_lt, i_le, i_eq, i_in, i_tn, i_add, i_addl, i_addr, i_mul, i_mulr, i_mull, if_true, if_false, eq_self, decide_eq_true_eq, decide_true, decide_false, Option.bind_some, Option.bind_none, ↓fu_ltd, ↓reduceIte, ↓ob_ite, ↓ob_asc, Bool.false_eq_true, Bool.true_eq_false, not_true_eq_false, not_false_eq_true, Nat.not_lt_zero, Nat.le_zero_eq, Nat.reduceAdd, Nat.reduceMul, Nat.reduceSub, Nat.reduceEqDiff, Nat.reduceLT, Nat.reduceLeDiff, sC_def, sR_def, sC_1, sC_2, sR_1, sR_2, sC_st, sR_st, sR_no, sR_refuse, and_self, true_and, and_true, false_and, and_false, f_X11_pour, c_isTray, ht, hu, w1, w2, w3, w4, hs]
              try rfl
            · simp (maxSteps := 1000000) (disch := omega) only [ne_eq, i_lt0, i_le0, i_eq0, i_n1, i_ltl, i_lel, i_eql, i_lt, i_le, i_eq, i_in, i_tn, i_add, i_addl, i_addr, i_mul, i_mulr, i_mull, if_true, if_false, eq_self, decide_eq_true_eq, decide_true, decide_false, Option.bind_some, Option.bind_none, ↓fu_ltd, ↓reduceIte, ↓ob_ite, ↓ob_asc, Bool.false_eq_true, Bool.true_eq_false, not_true_eq_false, not_false_eq_true, Nat.not_lt_zero, Nat.le_zero_eq, Nat.reduceAdd, Nat.reduceMul, Nat.reduceSub, Nat.reduceEqDiff, Nat.reduceLT, Nat.reduceLeDiff, sC_def, sR_def, sC_1, sC_2, sR_1, sR_2, sC_st, sR_st, sR_no, sR_refuse, and_self, true_and, and_true, false_and, and_false, f_X12_pour, ht, hu, q2, q2', q4, q4', hs]
    · refine ⟨false, sC s1 1, sR s2 1, ?_, ?_, dI_s hI⟩
      · simp (maxSteps := 1000000) (disch := omega) only [ne_eq, i_lt0, i_le0, i_eq0, i_n1, i_ltl, i_lel, i_eql, i_lt, i_le, i_eq, i_in, i_tn, i_add, i_addl, i_addr, i_mul, i_mulr, i_mull, if_true, if_false, eq_self, decide_eq_true_eq, decide_true, decide_false, Option.bind_some, Option.bind_none, ↓fu_ltd, ↓reduceIte, ↓ob_ite, ↓ob_asc, Bool.false_eq_true, Bool.true_eq_false, not_true_eq_false, not_false_eq_true, Nat.not_lt_zero, Nat.le_zero_eq, Nat.reduceAdd, Nat.reduceMul, Nat.reduceSub, Nat.reduceEqDiff, Nat.reduceLT, Nat.reduceLeDiff, sC_def, sR_def, sC_1, sC_2, sR_1, sR_2, sC_st, sR_st, sR_no, sR_refuse, and_self, true_and, and_true, false_and, and_false, f_X11_pour, c_isTray, ht, h3]
        try rfl
      · by_cases h5 : a3 < 0
        · simp (maxSteps := 1000000) (disch := omega) only [ne_eq, i_lt0, i_le0, i_eq0, i_n1, i_ltl, i_lel, i_eql, i_lt, i_le, i_eq, i_in, i_tn, i_add, i_addl, i_addr, i_mul, i_mulr, i_mull, if_true, if_false, eq_self, decide_eq_true_eq, decide_true, decide_false, Option.bind_some, Option.bind_none, ↓fu_ltd, ↓reduceIte, ↓ob_ite, ↓ob_asc, Bool.false_eq_true, Bool.true_eq_false, not_true_eq_false, not_false_eq_true, Nat.not_lt_zero, Nat.le_zero_eq, Nat.reduceAdd, Nat.reduceMul, Nat.reduceSub, Nat.reduceEqDiff, Nat.reduceLT, Nat.reduceLeDiff, sC_def, sR_def, sC_1, sC_2, sR_1, sR_2, sC_st, sR_st, sR_no, sR_refuse, and_self, true_and, and_true, false_and, and_false, f_X12_pour, ht, h5]
        · have h6 : ¬ a3 < 4 := fun z => h3 ⟨h5, z⟩
          simp (maxSteps := 1000000) (disch := omega) only [ne_eq, i_lt0, i_le0, i_eq0, i_n1, i_ltl, i_lel, i_eql, i_lt, i_le, i_eq, i_in, i_tn, i_add, i_addl, i_addr, i_mul, i_mulr, i_mull, if_true, if_false, eq_self, decide_eq_true_eq, decide_true, decide_false, Option.bind_some, Option.bind_none, ↓fu_ltd, ↓reduceIte, ↓ob_ite, ↓ob_asc, Bool.false_eq_true, Bool.true_eq_false, not_true_eq_false, not_false_eq_true, Nat.not_lt_zero, Nat.le_zero_eq, Nat.reduceAdd, Nat.reduceMul, Nat.reduceSub, Nat.reduceEqDiff, Nat.reduceLT, Nat.reduceLeDiff, sC_def, sR_def, sC_1, sC_2, sR_1, sR_2, sC_st, sR_st, sR_no, sR_refuse, and_self, true_and, and_true, false_and, and_false, f_X12_pour, ht, h5, h6]
  · refine ⟨false, sC s1 1, sR s2 1, ?_, ?_, dI_s hI⟩
    · simp (maxSteps := 1000000) (disch := omega) only [ne_eq, i_lt0, i_le0, i_eq0, i_n1, i_ltl, i_lel, i_eql, i_lt, i_le, i_eq, i_in, i_tn, i_add, i_addl, i_addr, i_mul, i_mulr, i_mull, if_true, if_false, eq_self, decide_eq_true_eq, decide_true, decide_false, Option.bind_some, Option.bind_none, ↓fu_ltd, ↓reduceIte, ↓ob_ite, ↓ob_asc, Bool.false_eq_true, Bool.true_eq_false, not_true_eq_false, not_false_eq_true, Nat.not_lt_zero, Nat.le_zero_eq, Nat.reduceAdd, Nat.reduceMul, Nat.reduceSub, Nat.reduceEqDiff, Nat.reduceLT, Nat.reduceLeDiff, sC_def, sR_def, sC_1, sC_2, sR_1, sR_2, sC_st, sR_st, sR_no, sR_refuse, and_self, true_and, and_true, false_and, and_false, f_X11_pour, c_isTray, h1]
      try rfl
    · by_cases h5 : a1 < 0
      · simp (maxSteps := 1000000) (disch := omega) only [ne_eq, i_lt0, i_le0, i_eq0, i_n1, i_ltl, i_lel, i_eql, i_lt, i_le, i_eq, i_in, i_tn, i_add, i_addl, i_addr, i_mul, i_mulr, i_mull, if_true, if_false, eq_self, decide_eq_true_eq, decide_true, decide_false, Option.bind_some, Option.bind_none, ↓fu_ltd, ↓reduceIte, ↓ob_ite, ↓ob_asc, Bool.false_eq_true, Bool.true_eq_false, not_true_eq_false, not_false_eq_true, Nat.not_lt_zero, Nat.le_zero_eq, Nat.reduceAdd, Nat.reduceMul, Nat.reduceSub, Nat.reduceEqDiff, Nat.reduceLT, Nat.reduceLeDiff, sC_def, sR_def, sC_1, sC_2, sR_1, sR_2, sC_st, sR_st, sR_no, sR_refuse, and_self, true_and, and_true, false_and, and_false, f_X12_pour, h5]
      · have h6 : ¬ a1 < 4 := fun z => h1 ⟨h5, z⟩
        simp (maxSteps := 1000000) (disch := omega) only [ne_eq, i_lt0, i_le0, i_eq0, i_n1, i_ltl, i_lel, i_eql, i_lt, i_le, i_eq, i_in, i_tn, i_add, i_addl, i_addr, i_mul, i_mulr, i_mull, if_true, if_false, eq_self, decide_eq_true_eq, decide_true, decide_false, Option.bind_some, Option.bind_none, ↓fu_ltd, ↓reduceIte, ↓ob_ite, ↓ob_asc, Bool.false_eq_true, Bool.true_eq_false, not_true_eq_false, not_false_eq_true, Nat.not_lt_zero, Nat.le_zero_eq, Nat.reduceAdd, Nat.reduceMul, Nat.reduceSub, Nat.reduceEqDiff, Nat.reduceLT, Nat.reduceLeDiff, sC_def, sR_def, sC_1, sC_2, sR_1, sR_2, sC_st, sR_st, sR_no, sR_refuse, and_self, true_and, and_true, false_and, and_false, f_X12_pour, h5, h6]
