/-! texts: the class's tokens, all at once -/
/-- what the class's reading of tokens leaves -/
def fO (s t : fu_S) : Prop := (∀ a, a ≠ 5 → a ≠ 8 → a ≠ 9 → t.1 a = s.1 a) ∧ (∀ q, q ≠ 6 → t.1 5 q = s.1 5 q) ∧ ∀ a, a ≠ 10 → t.2 a = s.2 a
/-- the tokens that stand -/
def cA (s : fu_S) (u : Nat → Nat) (n t : Nat) : Prop := s.1 5 6 = Int32.ofNat t ∧ ∀ j, j < t → s.1 8 j = Int32.ofNat (tG u n (tq u n j)) ∧ s.1 9 j = Int32.ofNat (tq u n j) ∧ ((tG u n (tq u n j) = 2 ∨ tG u n (tq u n j) = 3) → s.2 10 j = Int64.ofNat (tV u n (tq u n j)))
section TK3
variable {s t : fu_S} {u : Nat → Nat} {c : Nat → Bool} {n p q e f k i g v j m : Nat} {x y : Int32} {z : Int64}
theorem fO_rf : fO s s := ⟨fun _ _ _ _ => rfl, fun _ _ => rfl, fun _ _ => rfl⟩
theorem fO_tr {r : fu_S} (h : fO s t) (g : fO t r) : fO s r := ⟨fun a h1 h2 h3 => (g.1 a h1 h2 h3).trans (h.1 a h1 h2 h3), fun q hq => (g.2.1 q hq).trans (h.2.1 q hq), fun a ha => (g.2.2 a ha).trans (h.2.2 a ha)⟩
theorem fO_ad : fO s (adT s m x y z) := ⟨fun a h1 h2 h3 => by unfold adT; rw [p1n h1, l1, p1n h3, p1n h2], fun q hq => by unfold adT; rw [p1q hq, l1, p1n (by omega), p1n (by omega)], fun a ha => by unfold adT; rw [p2, l2n ha]; rfl⟩
theorem cT_O (h : cT s u n) (hf : fO s t) : cT t u n := ⟨h.1, fun i hi => by rw [hf.1 7 (by omega) (by omega) (by omega)]; exact h.2.1 i hi, fun w hw => by rw [hf.2.2 6 (by omega)]; exact h.2.2 w hw⟩
theorem c_isLx (h : (k < 128 ∧ x = Int32.ofNat k) ∨ (128 ≤ k ∧ x < 0)) : f_X8_isLetter x = c_L k := by
  rcases h with ⟨h1, rfl⟩ | ⟨h1, h2⟩
  · rw [← r_isL (k := k) (by omega)]
    rfl
  · unfold f_X8_isLetter fu_lt c_L
    have h3 : x < 97 := i_neglt (a := 97) h2 (by omega)
    rw [if_pos h3, decide_eq_false (p := k ≤ 122) (by omega), Bool.and_false]
theorem c_isDx (h : (k < 128 ∧ x = Int32.ofNat k) ∨ (128 ≤ k ∧ x < 0)) : f_X8_isDigit x = c_D k := by
  rcases h with ⟨h1, rfl⟩ | ⟨h1, h2⟩
  · rw [← r_isD (k := k) (by omega)]
    rfl
  · unfold f_X8_isDigit fu_lt c_D
    have h3 : x < 48 := i_neglt (a := 48) h2 (by omega)
    rw [if_pos h3, decide_eq_false (p := k ≤ 57) (by omega), Bool.and_false]
theorem c_isBx (h : (k < 128 ∧ x = Int32.ofNat k) ∨ (128 ≤ k ∧ x < 0)) : f_X8_isBlank x = c_B k := by
  unfold f_X8_isBlank fu_lt c_B
  rcases h with ⟨h1, rfl⟩ | ⟨h1, h2⟩
  · rw [show (10 : Int32) = Int32.ofNat 10 from rfl, show (32 : Int32) = Int32.ofNat 32 from rfl]
    have e10 := i_eq (a := k) (b := 10) (by omega) (by omega)
    have e32 := i_eq (a := k) (b := 32) (by omega) (by omega)
    simp only [e10, e32]
    by_cases h2 : k = 10 <;> by_cases h3 : k = 32 <;> simp [h2, h3]
  · have e10 := i_negne (n := 10) h2 (show (10 : Nat) < 2147483648 by omega)
    have e32 := i_negne (n := 32) h2 (show (32 : Nat) < 2147483648 by omega)
    rw [if_neg (fun z => e10.mp z), if_neg (fun z => e32.mp z), decide_eq_false (by omega), decide_eq_false (by omega)]
    rfl
theorem c_signx (h : (k < 128 ∧ x = Int32.ofNat k) ∨ (128 ≤ k ∧ x < 0)) : (if x = (59 : Int32) then some x else if x = (60 : Int32) then some x else if x = (62 : Int32) then some x else if x = (61 : Int32) then some x else some (1 : Int32)) = some (Int32.ofNat (if 59 ≤ k ∧ k ≤ 62 then k else 1)) := by
  rcases h with ⟨h1, rfl⟩ | ⟨h1, h2⟩
  · have e : ∀ m, m < 256 → ((Int32.ofNat k = Int32.ofNat m) ↔ k = m) := fun m hm => i_eq (by omega) (by omega)
    rw [show (59 : Int32) = Int32.ofNat 59 from rfl, show (60 : Int32) = Int32.ofNat 60 from rfl, show (62 : Int32) = Int32.ofNat 62 from rfl, show (61 : Int32) = Int32.ofNat 61 from rfl]
    simp only [e 59 (by omega), e 60 (by omega), e 61 (by omega), e 62 (by omega)]
    by_cases h : 59 ≤ k ∧ k ≤ 62
    · rw [if_pos h]
      have : k = 59 ∨ k = 60 ∨ k = 61 ∨ k = 62 := by omega
      rcases this with rfl | rfl | rfl | rfl <;> rfl
    · rw [if_neg h, if_neg (by omega), if_neg (by omega), if_neg (by omega), if_neg (by omega)]
      rfl
  · have e : ∀ m : Int32, ¬ m < 0 → ¬ x = m := fun m hm z => hm (by rw [← z]; exact h2)
    rw [if_neg (e _ (by decide)), if_neg (e _ (by decide)), if_neg (e _ (by decide)), if_neg (e _ (by decide)), if_neg (by omega)]
    rfl
theorem c_add1 (h : s.1 5 6 = Int32.ofNat m) (hm : m ≤ 900) : f_X8_add s x y z = some (adT s m x y z) := by
  have m1 : m < 901 := by omega
  have e1 : (fu_pi s 8 m x).1 5 6 = Int32.ofNat m := by rw [p1n (by omega)]; exact h
  have e2 : (fu_pi (fu_pi s 8 m x) 9 m y).1 5 6 = Int32.ofNat m := by rw [p1n (by omega)]; exact e1
  have e3 : (fu_pl (fu_pi (fu_pi s 8 m x) 9 m y) 10 m z).1 5 6 = Int32.ofNat m := e2
  unfold adT
  simp (maxSteps := 1000000) (disch := omega) only [ne_eq, i_lt0, i_le0, i_eq0, i_n1, i_ltl, i_lel, i_eql, i_lt, i_le, i_eq, i_in, i_tn, i_add, i_addl, i_addr, i_mul, i_mulr, i_mull, if_true, if_false, eq_self, decide_eq_true_eq, decide_true, decide_false, Option.bind_some, Option.bind_none, ↓fu_ltd, ↓reduceIte, ↓ob_ite, ↓ob_asc, Bool.false_eq_true, Bool.true_eq_false, not_true_eq_false, not_false_eq_true, Nat.not_lt_zero, Nat.le_zero_eq, Nat.reduceAdd, Nat.reduceMul, Nat.reduceSub, Nat.reduceEqDiff, Nat.reduceLT, Nat.reduceLeDiff, sC_def, sR_def, sC_1, sC_2, sR_1, sR_2, sC_st, sR_st, sR_no, sR_refuse, and_self, true_and, and_true, false_and, and_false, f_X8_add, h, hm, m1, e1, e2, e3, i_add1]
theorem letter_step (hm : k ≤ 8) (h : c_L (u (q + k)) = true) (hu : u (q + k) < 256) : f_X8_withLetter (Int64.ofNat (d_cw u q k)) (Int32.ofNat (u (q + k))) = Int64.ofNat (d_cw u q (k + 1)) := by
  unfold c_L at h
  rw [Bool.and_eq_true, decide_eq_true_eq, decide_eq_true_eq] at h
  unfold f_X8_withLetter
  rw [show (97 : Int32) = Int32.ofNat 97 from rfl, i_sub (by omega), i_add1, j_of (by omega), show (32 : Int64) = Int64.ofNat 32 from rfl, j_mul, j_add, d_cw]
  congr 1
  omega
theorem c_word5 (hT : cT s u n) : ∀ {k i f}, n - i = k → i ≤ n → q ≤ i → k < f → l_X8_takeWord_5 f s (Int32.ofNat q) (Int32.ofNat n) (d_ci u q (i - q)) (Int32.ofNat i) = some (d_ci u q (d_en c_L u n i - q), Int32.ofNat (d_en c_L u n i))
  | k, i, 0, _, _, _, hf => absurd hf (by omega)
  | 0, i, f + 1, hk, hi, hq, hf => by
    have hn := hT.1
    have hpn : ¬ i < n := by omega
    rw [d_en_n (by omega), show n = i by omega]
    simp (maxSteps := 1000000) (disch := omega) only [ne_eq, i_lt0, i_le0, i_eq0, i_n1, i_ltl, i_lel, i_eql, i_lt, i_le, i_eq, i_in, i_tn, i_add, i_addl, i_addr, i_mul, i_mulr, i_mull, if_true, if_false, eq_self, decide_eq_true_eq, decide_true, decide_false, Option.bind_some, Option.bind_none, ↓fu_ltd, ↓reduceIte, ↓ob_ite, ↓ob_asc, Bool.false_eq_true, Bool.true_eq_false, not_true_eq_false, not_false_eq_true, Nat.not_lt_zero, Nat.le_zero_eq, Nat.reduceAdd, Nat.reduceMul, Nat.reduceSub, Nat.reduceEqDiff, Nat.reduceLT, Nat.reduceLeDiff, sC_def, sR_def, sC_1, sC_2, sR_1, sR_2, sC_st, sR_st, sR_no, sR_refuse, and_self, true_and, and_true, false_and, and_false, l_X8_takeWord_5, Nat.lt_irrefl]
  | k + 1, i, f + 1, hk, hi, hq, hf => by
    have hn := hT.1
    have hin : i < n := by omega
    have hi9 : i < 900 := by omega
    obtain ⟨hu, hb⟩ := hT.2.1 i hin
    have hc := c_isLx hb
    cases hz : c_L (u i)
    · rw [hz] at hc
      rw [d_en_no hin hz]
      simp (maxSteps := 1000000) (disch := omega) only [ne_eq, i_lt0, i_le0, i_eq0, i_n1, i_ltl, i_lel, i_eql, i_lt, i_le, i_eq, i_in, i_tn, i_add, i_addl, i_addr, i_mul, i_mulr, i_mull, if_true, if_false, eq_self, decide_eq_true_eq, decide_true, decide_false, Option.bind_some, Option.bind_none, ↓fu_ltd, ↓reduceIte, ↓ob_ite, ↓ob_asc, Bool.false_eq_true, Bool.true_eq_false, not_true_eq_false, not_false_eq_true, Nat.not_lt_zero, Nat.le_zero_eq, Nat.reduceAdd, Nat.reduceMul, Nat.reduceSub, Nat.reduceEqDiff, Nat.reduceLT, Nat.reduceLeDiff, sC_def, sR_def, sC_1, sC_2, sR_1, sR_2, sC_st, sR_st, sR_no, sR_refuse, and_self, true_and, and_true, false_and, and_false, l_X8_takeWord_5, hin, hi9, hc]
    · rw [hz] at hc
      have ih := c_word5 (k := k) (i := i + 1) (f := f) hT (by omega) (by omega) (by omega) (by omega)
      rw [d_en_y hin hz, ← ih]
      have hsub : Int32.ofNat i - Int32.ofNat q = Int32.ofNat (i - q) := i_sub hq
      by_cases h8 : i - q < 8
      · have e2 : d_ci u q (i + 1 - q) = Int64.ofNat (d_cw u q (i - q + 1)) := by
          unfold d_ci
          rw [if_pos (by omega), show i + 1 - q = i - q + 1 by omega]
        have hx : s.1 7 i = Int32.ofNat (u i) := by
          rcases hb with ⟨-, h⟩ | ⟨h, -⟩
          · exact h
          · unfold c_L at hz
            rw [Bool.and_eq_true, decide_eq_true_eq, decide_eq_true_eq] at hz
            omega
        have e3 := letter_step (u := u) (q := q) (k := i - q) (by omega) (by rw [show q + (i - q) = i by omega]; exact hz) (by rw [show q + (i - q) = i by omega]; exact hu)
        rw [show q + (i - q) = i by omega] at e3
        have e4 : d_ci u q (i - q) = Int64.ofNat (d_cw u q (i - q)) := if_pos (by omega)
        rw [e2, e4]
        rw [hx] at hc
        generalize d_cw u q (i - q + 1) = Z at *
        simp (maxSteps := 1000000) (disch := omega) only [ne_eq, i_lt0, i_le0, i_eq0, i_n1, i_ltl, i_lel, i_eql, i_lt, i_le, i_eq, i_in, i_tn, i_add, i_addl, i_addr, i_mul, i_mulr, i_mull, if_true, if_false, eq_self, decide_eq_true_eq, decide_true, decide_false, Option.bind_some, Option.bind_none, ↓fu_ltd, ↓reduceIte, ↓ob_ite, ↓ob_asc, Bool.false_eq_true, Bool.true_eq_false, not_true_eq_false, not_false_eq_true, Nat.not_lt_zero, Nat.le_zero_eq, Nat.reduceAdd, Nat.reduceMul, Nat.reduceSub, Nat.reduceEqDiff, Nat.reduceLT, Nat.reduceLeDiff, sC_def, sR_def, sC_1, sC_2, sR_1, sR_2, sC_st, sR_st, sR_no, sR_refuse, and_self, true_and, and_true, false_and, and_false, l_X8_takeWord_5, hin, hi9, hx, hc, hsub, h8, e3, i_add1]
      · have e2 : d_ci u q (i + 1 - q) = -1 := if_neg (by omega)
        rw [e2]
        simp (maxSteps := 1000000) (disch := omega) only [ne_eq, i_lt0, i_le0, i_eq0, i_n1, i_ltl, i_lel, i_eql, i_lt, i_le, i_eq, i_in, i_tn, i_add, i_addl, i_addr, i_mul, i_mulr, i_mull, if_true, if_false, eq_self, decide_eq_true_eq, decide_true, decide_false, Option.bind_some, Option.bind_none, ↓fu_ltd, ↓reduceIte, ↓ob_ite, ↓ob_asc, Bool.false_eq_true, Bool.true_eq_false, not_true_eq_false, not_false_eq_true, Nat.not_lt_zero, Nat.le_zero_eq, Nat.reduceAdd, Nat.reduceMul, Nat.reduceSub, Nat.reduceEqDiff, Nat.reduceLT, Nat.reduceLeDiff, sC_def, sR_def, sC_1, sC_2, sR_1, sR_2, sC_st, sR_st, sR_no, sR_refuse, and_self, true_and, and_true, false_and, and_false, l_X8_takeWord_5, hin, hi9, hc, hsub, h8, i_add1]
theorem c_word75 (hT : cT s u n) {x1 x5 : Int32} {w0 : Int64} {g0 : Nat} (hw : (w0 = -1 ∧ g0 = 4) ∨ ∃ c, c < 2 ^ 45 ∧ w0 = Int64.ofNat c ∧ g0 = 3) : l_X8_takeWord_75 fu_N s x1 w0 x5 (Int32.ofNat g0) 0 = some (Int32.ofNat (if w0 = -1 then 4 else d_ws (wv w0) 22)) := by
  have hne : ∀ c, c < 2 ^ 45 → ¬ Int64.ofNat c = (-1 : Int64) := fun c hc z => by
    have := congrArg Int64.toInt z
    rw [j_ti (by omega), show (-1 : Int64).toInt = -1 from rfl] at this
    omega
  rcases hw with ⟨rfl, rfl⟩ | ⟨c, hc, rfl, rfl⟩
  · rw [if_pos rfl]
    exact lp_up (l := fun f (σ : Int32) k => l_X8_takeWord_75 f s x1 (-1) x5 σ (Int32.ofNat k)) (N := 22) (S := fun _ => Int32.ofNat 4) (r := Int32.ofNat 4) (fun f k hk => by
      have e1 := hT.2.2 k hk
      have e2 := wc_pos k hk
      have e3 := hne (wc k) (by omega)
      show l_X8_takeWord_75 (f + 1) s x1 (-1) x5 (Int32.ofNat 4) (Int32.ofNat k) = _
      simp (maxSteps := 1000000) (disch := omega) only [ne_eq, i_lt0, i_le0, i_eq0, i_n1, i_ltl, i_lel, i_eql, i_lt, i_le, i_eq, i_in, i_tn, i_add, i_addl, i_addr, i_mul, i_mulr, i_mull, if_true, if_false, eq_self, decide_eq_true_eq, decide_true, decide_false, Option.bind_some, Option.bind_none, ↓fu_ltd, ↓reduceIte, ↓ob_ite, ↓ob_asc, Bool.false_eq_true, Bool.true_eq_false, not_true_eq_false, not_false_eq_true, Nat.not_lt_zero, Nat.le_zero_eq, Nat.reduceAdd, Nat.reduceMul, Nat.reduceSub, Nat.reduceEqDiff, Nat.reduceLT, Nat.reduceLeDiff, sC_def, sR_def, sC_1, sC_2, sR_1, sR_2, sC_st, sR_st, sR_no, sR_refuse, and_self, true_and, and_true, false_and, and_false, l_X8_takeWord_75, hk, e1, e3, i_add1]) (fun f => by
      show l_X8_takeWord_75 (f + 1) s x1 (-1) x5 (Int32.ofNat 4) (Int32.ofNat 22) = _
      simp (maxSteps := 1000000) (disch := omega) only [ne_eq, i_lt0, i_le0, i_eq0, i_n1, i_ltl, i_lel, i_eql, i_lt, i_le, i_eq, i_in, i_tn, i_add, i_addl, i_addr, i_mul, i_mulr, i_mull, if_true, if_false, eq_self, decide_eq_true_eq, decide_true, decide_false, Option.bind_some, Option.bind_none, ↓fu_ltd, ↓reduceIte, ↓ob_ite, ↓ob_asc, Bool.false_eq_true, Bool.true_eq_false, not_true_eq_false, not_false_eq_true, Nat.not_lt_zero, Nat.le_zero_eq, Nat.reduceAdd, Nat.reduceMul, Nat.reduceSub, Nat.reduceEqDiff, Nat.reduceLT, Nat.reduceLeDiff, sC_def, sR_def, sC_1, sC_2, sR_1, sR_2, sC_st, sR_st, sR_no, sR_refuse, and_self, true_and, and_true, false_and, and_false, l_X8_takeWord_75, Nat.lt_irrefl]) (f := fu_N) (k := 0) (by omega) (fu_N_gt (by omega))
  · rw [if_neg (hne c hc), show wv (Int64.ofNat c) = c by unfold wv; rw [j_ti (by omega)]; rfl]
    exact lp_up (l := fun f (σ : Int32) k => l_X8_takeWord_75 f s x1 (Int64.ofNat c) x5 σ (Int32.ofNat k)) (N := 22) (S := fun w => Int32.ofNat (d_ws c w)) (r := Int32.ofNat (d_ws c 22)) (fun f k hk => by
      have e1 := hT.2.2 k hk
      have e2 := wc_pos k hk
      have e3 := j_eq (a := wc k) (b := c) (by omega) (by omega)
      have e4 : d_ws c (k + 1) = if wc k = c then 100 + k else d_ws c k := rfl
      show l_X8_takeWord_75 (f + 1) s x1 (Int64.ofNat c) x5 (Int32.ofNat (d_ws c k)) (Int32.ofNat k) = l_X8_takeWord_75 f s x1 (Int64.ofNat c) x5 (Int32.ofNat (d_ws c (k + 1))) (Int32.ofNat (k + 1))
      rw [e4]
      generalize d_ws c k = G at *
      by_cases h : wc k = c
      · rw [if_pos h]
        have e3' := e3.mpr h
        simp (maxSteps := 1000000) (disch := omega) only [ne_eq, i_lt0, i_le0, i_eq0, i_n1, i_ltl, i_lel, i_eql, i_lt, i_le, i_eq, i_in, i_tn, i_add, i_addl, i_addr, i_mul, i_mulr, i_mull, if_true, if_false, eq_self, decide_eq_true_eq, decide_true, decide_false, Option.bind_some, Option.bind_none, ↓fu_ltd, ↓reduceIte, ↓ob_ite, ↓ob_asc, Bool.false_eq_true, Bool.true_eq_false, not_true_eq_false, not_false_eq_true, Nat.not_lt_zero, Nat.le_zero_eq, Nat.reduceAdd, Nat.reduceMul, Nat.reduceSub, Nat.reduceEqDiff, Nat.reduceLT, Nat.reduceLeDiff, sC_def, sR_def, sC_1, sC_2, sR_1, sR_2, sC_st, sR_st, sR_no, sR_refuse, and_self, true_and, and_true, false_and, and_false, l_X8_takeWord_75, hk, e1, e3', i_add1]
      · rw [if_neg h]
        have e3' : ¬ _ := fun z => h (e3.mp z)
        simp (maxSteps := 1000000) (disch := omega) only [ne_eq, i_lt0, i_le0, i_eq0, i_n1, i_ltl, i_lel, i_eql, i_lt, i_le, i_eq, i_in, i_tn, i_add, i_addl, i_addr, i_mul, i_mulr, i_mull, if_true, if_false, eq_self, decide_eq_true_eq, decide_true, decide_false, Option.bind_some, Option.bind_none, ↓fu_ltd, ↓reduceIte, ↓ob_ite, ↓ob_asc, Bool.false_eq_true, Bool.true_eq_false, not_true_eq_false, not_false_eq_true, Nat.not_lt_zero, Nat.le_zero_eq, Nat.reduceAdd, Nat.reduceMul, Nat.reduceSub, Nat.reduceEqDiff, Nat.reduceLT, Nat.reduceLeDiff, sC_def, sR_def, sC_1, sC_2, sR_1, sR_2, sC_st, sR_st, sR_no, sR_refuse, and_self, true_and, and_true, false_and, and_false, l_X8_takeWord_75, hk, e1, e3', i_add1]) (fun f => by
      show l_X8_takeWord_75 (f + 1) s x1 (Int64.ofNat c) x5 (Int32.ofNat (d_ws c 22)) (Int32.ofNat 22) = _
      generalize d_ws c 22 = G at *
      simp (maxSteps := 1000000) (disch := omega) only [ne_eq, i_lt0, i_le0, i_eq0, i_n1, i_ltl, i_lel, i_eql, i_lt, i_le, i_eq, i_in, i_tn, i_add, i_addl, i_addr, i_mul, i_mulr, i_mull, if_true, if_false, eq_self, decide_eq_true_eq, decide_true, decide_false, Option.bind_some, Option.bind_none, ↓fu_ltd, ↓reduceIte, ↓ob_ite, ↓ob_asc, Bool.false_eq_true, Bool.true_eq_false, not_true_eq_false, not_false_eq_true, Nat.not_lt_zero, Nat.le_zero_eq, Nat.reduceAdd, Nat.reduceMul, Nat.reduceSub, Nat.reduceEqDiff, Nat.reduceLT, Nat.reduceLeDiff, sC_def, sR_def, sC_1, sC_2, sR_1, sR_2, sC_st, sR_st, sR_no, sR_refuse, and_self, true_and, and_true, false_and, and_false, l_X8_takeWord_75, Nat.lt_irrefl]) (f := fu_N) (k := 0) (by omega) (fu_N_gt (by omega))
def d_ni (u : Nat → Nat) (p m : Nat) : Nat := if m ≤ 4 then d_nu u p m else 0
theorem c_dig5 (hT : cT s u n) : ∀ {k i f}, n - i = k → i ≤ n → q ≤ i → k < f → l_X8_takeDigits_5 f s (Int32.ofNat q) (Int32.ofNat n) (Int32.ofNat (d_ni u q (i - q))) (Int32.ofNat i) = some (Int32.ofNat (d_ni u q (d_en c_D u n i - q)), Int32.ofNat (d_en c_D u n i))
  | k, i, 0, _, _, _, hf => absurd hf (by omega)
  | 0, i, f + 1, hk, hi, hq, hf => by
    have hn := hT.1
    rw [d_en_n (by omega), show n = i by omega]
    simp (maxSteps := 1000000) (disch := omega) only [ne_eq, i_lt0, i_le0, i_eq0, i_n1, i_ltl, i_lel, i_eql, i_lt, i_le, i_eq, i_in, i_tn, i_add, i_addl, i_addr, i_mul, i_mulr, i_mull, if_true, if_false, eq_self, decide_eq_true_eq, decide_true, decide_false, Option.bind_some, Option.bind_none, ↓fu_ltd, ↓reduceIte, ↓ob_ite, ↓ob_asc, Bool.false_eq_true, Bool.true_eq_false, not_true_eq_false, not_false_eq_true, Nat.not_lt_zero, Nat.le_zero_eq, Nat.reduceAdd, Nat.reduceMul, Nat.reduceSub, Nat.reduceEqDiff, Nat.reduceLT, Nat.reduceLeDiff, sC_def, sR_def, sC_1, sC_2, sR_1, sR_2, sC_st, sR_st, sR_no, sR_refuse, and_self, true_and, and_true, false_and, and_false, l_X8_takeDigits_5, Nat.lt_irrefl]
  | k + 1, i, f + 1, hk, hi, hq, hf => by
    have hn := hT.1
    have hin : i < n := by omega
    have hi9 : i < 900 := by omega
    obtain ⟨hu, hb⟩ := hT.2.1 i hin
    have hc := c_isDx hb
    cases hz : c_D (u i)
    · rw [hz] at hc
      rw [d_en_no hin hz]
      simp (maxSteps := 1000000) (disch := omega) only [ne_eq, i_lt0, i_le0, i_eq0, i_n1, i_ltl, i_lel, i_eql, i_lt, i_le, i_eq, i_in, i_tn, i_add, i_addl, i_addr, i_mul, i_mulr, i_mull, if_true, if_false, eq_self, decide_eq_true_eq, decide_true, decide_false, Option.bind_some, Option.bind_none, ↓fu_ltd, ↓reduceIte, ↓ob_ite, ↓ob_asc, Bool.false_eq_true, Bool.true_eq_false, not_true_eq_false, not_false_eq_true, Nat.not_lt_zero, Nat.le_zero_eq, Nat.reduceAdd, Nat.reduceMul, Nat.reduceSub, Nat.reduceEqDiff, Nat.reduceLT, Nat.reduceLeDiff, sC_def, sR_def, sC_1, sC_2, sR_1, sR_2, sC_st, sR_st, sR_no, sR_refuse, and_self, true_and, and_true, false_and, and_false, l_X8_takeDigits_5, hin, hi9, hc]
    · rw [hz] at hc
      have ih := c_dig5 (k := k) (i := i + 1) (f := f) hT (by omega) (by omega) (by omega) (by omega)
      rw [d_en_y hin hz, ← ih]
      have hsub : Int32.ofNat i - Int32.ofNat q = Int32.ofNat (i - q) := i_sub hq
      have hx : s.1 7 i = Int32.ofNat (u i) := by
        rcases hb with ⟨-, h⟩ | ⟨h, -⟩
        · exact h
        · unfold c_D at hz
          rw [Bool.and_eq_true, decide_eq_true_eq, decide_eq_true_eq] at hz
          omega
      rw [hx] at hc
      by_cases h8 : i - q < 4
      · have e2 : d_ni u q (i + 1 - q) = d_nu u q (i - q + 1) := by
          unfold d_ni
          rw [if_pos (by omega), show i + 1 - q = i - q + 1 by omega]
        have e3 := nu_step (u := u) (q := q) (k := i - q) (by omega) (by rw [show q + (i - q) = i by omega]; exact hz)
        rw [show q + (i - q) = i by omega, Nat.mul_comm] at e3
        have e4 : d_ni u q (i - q) = d_nu u q (i - q) := if_pos (by omega)
        rw [e2, e4]
        generalize d_nu u q (i - q + 1) = Z at *
        simp (maxSteps := 1000000) (disch := omega) only [ne_eq, i_lt0, i_le0, i_eq0, i_n1, i_ltl, i_lel, i_eql, i_lt, i_le, i_eq, i_in, i_tn, i_add, i_addl, i_addr, i_mul, i_mulr, i_mull, if_true, if_false, eq_self, decide_eq_true_eq, decide_true, decide_false, Option.bind_some, Option.bind_none, ↓fu_ltd, ↓reduceIte, ↓ob_ite, ↓ob_asc, Bool.false_eq_true, Bool.true_eq_false, not_true_eq_false, not_false_eq_true, Nat.not_lt_zero, Nat.le_zero_eq, Nat.reduceAdd, Nat.reduceMul, Nat.reduceSub, Nat.reduceEqDiff, Nat.reduceLT, Nat.reduceLeDiff, sC_def, sR_def, sC_1, sC_2, sR_1, sR_2, sC_st, sR_st, sR_no, sR_refuse, and_self, true_and, and_true, false_and, and_false, l_X8_takeDigits_5, hin, hi9, hx, hc, hsub, h8, e3, i_add1]
      · have e2 : d_ni u q (i + 1 - q) = 0 := if_neg (by omega)
        rw [e2]
        simp (maxSteps := 1000000) (disch := omega) only [ne_eq, i_lt0, i_le0, i_eq0, i_n1, i_ltl, i_lel, i_eql, i_lt, i_le, i_eq, i_in, i_tn, i_add, i_addl, i_addr, i_mul, i_mulr, i_mull, if_true, if_false, eq_self, decide_eq_true_eq, decide_true, decide_false, Option.bind_some, Option.bind_none, ↓fu_ltd, ↓reduceIte, ↓ob_ite, ↓ob_asc, Bool.false_eq_true, Bool.true_eq_false, not_true_eq_false, not_false_eq_true, Nat.not_lt_zero, Nat.le_zero_eq, Nat.reduceAdd, Nat.reduceMul, Nat.reduceSub, Nat.reduceEqDiff, Nat.reduceLT, Nat.reduceLeDiff, sC_def, sR_def, sC_1, sC_2, sR_1, sR_2, sC_st, sR_st, sR_no, sR_refuse, and_self, true_and, and_true, false_and, and_false, l_X8_takeDigits_5, hin, hi9, hx, hc, hsub, h8, i_add1]
        rfl
theorem c_tok (hT : cT s u n) (hqn : q < n) (h56 : s.1 5 6 = Int32.ofNat m) (hm : m ≤ 900) : f_X8_takeToken s (Int32.ofNat q) (Int32.ofNat n) = some (Int32.ofNat (tE u n q), adT s m (Int32.ofNat (tG u n q)) (Int32.ofNat q) (tW u n q)) := by
  have hn := hT.1
  have hq9 : q < 900 := by omega
  obtain ⟨hu, hb⟩ := hT.2.1 q hqn
  have hcL := c_isLx hb
  have hcD := c_isDx hb
  have hnq : ¬ n ≤ q := by omega
  have ad := fun x y z => c_add1 (x := x) (y := y) (z := z) h56 hm
  cases hL : c_L (u q)
  · rw [hL] at hcL
    cases hDg : c_D (u q)
    · rw [hDg] at hcD
      have hs := c_signx hb
      have hG : tG u n q = if 59 ≤ u q ∧ u q ≤ 62 then u q else 1 := by unfold tG; rw [if_neg hnq, hL, if_neg Bool.false_ne_true, hDg, if_neg Bool.false_ne_true]
      have hE : tE u n q = q + 1 := by unfold tE; rw [if_neg hnq, hL, if_neg Bool.false_ne_true, hDg, if_neg Bool.false_ne_true]
      have hW : tW u n q = 0 := by unfold tW; rw [hL, if_neg Bool.false_ne_true, hDg, if_neg Bool.false_ne_true]
      rw [hE, hG, hW]
      have st : f_X8_takeToken s (Int32.ofNat q) (Int32.ofNat n) = Option.bind (if s.1 7 q = (59 : Int32) then some (s.1 7 q) else if s.1 7 q = (60 : Int32) then some (s.1 7 q) else if s.1 7 q = (62 : Int32) then some (s.1 7 q) else if s.1 7 q = (61 : Int32) then some (s.1 7 q) else some (1 : Int32)) fun j9 => Option.bind (f_X8_add s j9 (Int32.ofNat q) 0) fun r14 => some (Int32.ofNat q + 1, r14) := by
        simp (disch := omega) only [ne_eq, i_lt0, i_le0, i_eq0, i_n1, i_ltl, i_lel, i_eql, i_lt, i_le, i_eq, i_in, i_tn, i_add, i_addl, i_addr, i_mul, i_mulr, i_mull, if_true, if_false, eq_self, decide_eq_true_eq, decide_true, decide_false, Option.bind_some, Option.bind_none, fu_lt, Bool.false_eq_true, Bool.true_eq_false, not_true_eq_false, not_false_eq_true, Nat.not_lt_zero, Nat.le_zero_eq, Nat.reduceAdd, Nat.reduceMul, Nat.reduceSub, Nat.reduceEqDiff, Nat.reduceLT, Nat.reduceLeDiff, sC_def, sR_def, sC_1, sC_2, sR_1, sR_2, sC_st, sR_st, sR_no, sR_refuse, and_self, true_and, and_true, false_and, and_false, f_X8_takeToken, hqn, hn, hq9, hcL, hcD]
      rw [st, hs, Option.bind_some, ad, Option.bind_some, i_add1]
    · rw [hDg] at hcD
      have hE : tE u n q = d_en c_D u n q := by unfold tE; rw [if_neg hnq, hL, if_neg Bool.false_ne_true, hDg, if_pos rfl]
      have hG : tG u n q = if d_en c_D u n q - q ≤ 4 then 2 else 1 := by unfold tG; rw [if_neg hnq, hL, if_neg Bool.false_ne_true, hDg, if_pos rfl]
      have hW : tW u n q = Int64.ofNat (d_ni u q (d_en c_D u n q - q)) := by unfold tW; rw [hL, if_neg Bool.false_ne_true, hDg, if_pos rfl]; rfl
      have heb := d_en_bd (c := c_D) (u := u) (n := n) (p := q) (by omega)
      have hin : ∀ i, i < d_en c_D u n q - q → c_D (u (q + i)) = true := fun i hi => d_en_in (n := n) (p := q) rfl (by omega) (by omega) (by omega)
      have a2 := c_dig5 (f := fu_N) (q := q) (i := q) hT rfl (by omega) (Nat.le_refl _) (fu_N_gt (by omega))
      rw [Nat.sub_self] at a2
      have a2' : l_X8_takeDigits_5 fu_N s (Int32.ofNat q) (Int32.ofNat n) 0 (Int32.ofNat q) = _ := a2
      rw [hE, hG, hW]
      have hni : d_ni u q (d_en c_D u n q - q) < 10000 := by
        unfold d_ni
        split
        · rename_i h4
          have := d_nu_lt (k := d_en c_D u n q - q) hin
          have h10 : 10 ^ (d_en c_D u n q - q) ≤ 10 ^ 4 := Nat.pow_le_pow_right (by omega) h4
          omega
        · omega
      have jj : Int32.toInt64 (Int32.ofNat (d_ni u q (d_en c_D u n q - q))) = Int64.ofNat (d_ni u q (d_en c_D u n q - q)) := j_of (by omega)
      generalize d_ni u q (d_en c_D u n q - q) = Z at *
      generalize hee : d_en c_D u n q = e at *
      have hsub : Int32.ofNat e - Int32.ofNat q = Int32.ofNat (e - q) := i_sub heb.1
      have n2 : (2 : Int32) = Int32.ofNat 2 := rfl
      have n1 : (1 : Int32) = Int32.ofNat 1 := rfl
      by_cases h4 : e - q ≤ 4
      · rw [if_pos h4, ← n2]
        simp (maxSteps := 1000000) (disch := omega) only [ne_eq, i_lt0, i_le0, i_eq0, i_n1, i_ltl, i_lel, i_eql, i_lt, i_le, i_eq, i_in, i_tn, i_add, i_addl, i_addr, i_mul, i_mulr, i_mull, if_true, if_false, eq_self, decide_eq_true_eq, decide_true, decide_false, Option.bind_some, Option.bind_none, ↓fu_ltd, ↓reduceIte, ↓ob_ite, ↓ob_asc, Bool.false_eq_true, Bool.true_eq_false, not_true_eq_false, not_false_eq_true, Nat.not_lt_zero, Nat.le_zero_eq, Nat.reduceAdd, Nat.reduceMul, Nat.reduceSub, Nat.reduceEqDiff, Nat.reduceLT, Nat.reduceLeDiff, sC_def, sR_def, sC_1, sC_2, sR_1, sR_2, sC_st, sR_st, sR_no, sR_refuse, and_self, true_and, and_true, false_and, and_false, f_X8_takeToken, f_X8_takeDigits, hqn, hn, hq9, hcL, hcD, a2', hsub, h4, jj, ad]
      · rw [if_neg h4, ← n1]
        simp (maxSteps := 1000000) (disch := omega) only [ne_eq, i_lt0, i_le0, i_eq0, i_n1, i_ltl, i_lel, i_eql, i_lt, i_le, i_eq, i_in, i_tn, i_add, i_addl, i_addr, i_mul, i_mulr, i_mull, if_true, if_false, eq_self, decide_eq_true_eq, decide_true, decide_false, Option.bind_some, Option.bind_none, ↓fu_ltd, ↓reduceIte, ↓ob_ite, ↓ob_asc, Bool.false_eq_true, Bool.true_eq_false, not_true_eq_false, not_false_eq_true, Nat.not_lt_zero, Nat.le_zero_eq, Nat.reduceAdd, Nat.reduceMul, Nat.reduceSub, Nat.reduceEqDiff, Nat.reduceLT, Nat.reduceLeDiff, sC_def, sR_def, sC_1, sC_2, sR_1, sR_2, sC_st, sR_st, sR_no, sR_refuse, and_self, true_and, and_true, false_and, and_false, f_X8_takeToken, f_X8_takeDigits, hqn, hn, hq9, hcL, hcD, a2', hsub, h4, jj, ad]
  · rw [hL] at hcL
    have hE : tE u n q = d_en c_L u n q := by unfold tE; rw [if_neg hnq, hL, if_pos rfl]
    have hG : tG u n q = if d_en c_L u n q - q ≤ 8 then d_ws (d_cw u q (d_en c_L u n q - q)) 22 else 4 := by unfold tG; rw [if_neg hnq, hL, if_pos rfl]
    have hW : tW u n q = d_ci u q (d_en c_L u n q - q) := by unfold tW; rw [hL, if_pos rfl]
    have heb := d_en_bd (c := c_L) (u := u) (n := n) (p := q) (by omega)
    have hin : ∀ i, i < d_en c_L u n q - q → u (q + i) < 256 ∧ c_L (u (q + i)) = true := fun i hi => ⟨(hT.2.1 _ (by omega)).1, d_en_in (n := n) (p := q) rfl (by omega) (by omega) (by omega)⟩
    have a2 := c_word5 (f := fu_N) (q := q) (i := q) hT rfl (by omega) (Nat.le_refl _) (fu_N_gt (by omega))
    rw [Nat.sub_self] at a2
    have a2' : l_X8_takeWord_5 fu_N s (Int32.ofNat q) (Int32.ofNat n) 0 (Int32.ofNat q) = _ := a2
    rw [hE, hG, hW]
    generalize hee : d_en c_L u n q = e at *
    by_cases h8 : e - q ≤ 8
    · have hlt := d_cw_lt (k := e - q) hin h8
      have h32 : 32 ^ (e - q) ≤ 32 ^ 8 := Nat.pow_le_pow_right (by omega) h8
      have hci : d_ci u q (e - q) = Int64.ofNat (d_cw u q (e - q)) := if_pos h8
      rw [hci] at a2' ⊢
      rw [if_pos h8]
      have hne : ¬ Int64.ofNat (d_cw u q (e - q)) = (-1 : Int64) := fun z => by
        have := congrArg Int64.toInt z
        rw [j_ti (by omega), show (-1 : Int64).toInt = -1 from rfl] at this
        omega
      have a3 := c_word75 (x1 := Int32.ofNat q) (x5 := Int32.ofNat e) hT (w0 := Int64.ofNat (d_cw u q (e - q))) (g0 := 3) (.inr ⟨_, by omega, rfl, rfl⟩)
      rw [if_neg hne, show wv (Int64.ofNat (d_cw u q (e - q))) = d_cw u q (e - q) by unfold wv; rw [j_ti (by omega)]; rfl] at a3
      have a3' : l_X8_takeWord_75 fu_N s (Int32.ofNat q) (Int64.ofNat (d_cw u q (e - q))) (Int32.ofNat e) 3 0 = _ := a3
      generalize d_ws (d_cw u q (e - q)) 22 = G at *
      generalize Int64.ofNat (d_cw u q (e - q)) = W at *
      simp (maxSteps := 1000000) (disch := omega) only [ne_eq, i_lt0, i_le0, i_eq0, i_n1, i_ltl, i_lel, i_eql, i_lt, i_le, i_eq, i_in, i_tn, i_add, i_addl, i_addr, i_mul, i_mulr, i_mull, if_true, if_false, eq_self, decide_eq_true_eq, decide_true, decide_false, Option.bind_some, Option.bind_none, ↓fu_ltd, ↓reduceIte, ↓ob_ite, ↓ob_asc, Bool.false_eq_true, Bool.true_eq_false, not_true_eq_false, not_false_eq_true, Nat.not_lt_zero, Nat.le_zero_eq, Nat.reduceAdd, Nat.reduceMul, Nat.reduceSub, Nat.reduceEqDiff, Nat.reduceLT, Nat.reduceLeDiff, sC_def, sR_def, sC_1, sC_2, sR_1, sR_2, sC_st, sR_st, sR_no, sR_refuse, and_self, true_and, and_true, false_and, and_false, f_X8_takeToken, f_X8_takeWord, hqn, hn, hq9, hcL, a2', hne, a3', ad]
    · have hci : d_ci u q (e - q) = -1 := if_neg h8
      rw [hci] at a2' ⊢
      rw [if_neg h8]
      have a3 := c_word75 (x1 := Int32.ofNat q) (x5 := Int32.ofNat e) hT (w0 := -1) (g0 := 4) (.inl ⟨rfl, rfl⟩)
      rw [if_pos rfl] at a3
      have a3' : l_X8_takeWord_75 fu_N s (Int32.ofNat q) (-1) (Int32.ofNat e) 4 0 = _ := a3
      simp (maxSteps := 1000000) (disch := omega) only [ne_eq, i_lt0, i_le0, i_eq0, i_n1, i_ltl, i_lel, i_eql, i_lt, i_le, i_eq, i_in, i_tn, i_add, i_addl, i_addr, i_mul, i_mulr, i_mull, if_true, if_false, eq_self, decide_eq_true_eq, decide_true, decide_false, Option.bind_some, Option.bind_none, ↓fu_ltd, ↓reduceIte, ↓ob_ite, ↓ob_asc, Bool.false_eq_true, Bool.true_eq_false, not_true_eq_false, not_false_eq_true, Nat.not_lt_zero, Nat.le_zero_eq, Nat.reduceAdd, Nat.reduceMul, Nat.reduceSub, Nat.reduceEqDiff, Nat.reduceLT, Nat.reduceLeDiff, sC_def, sR_def, sC_1, sC_2, sR_1, sR_2, sC_st, sR_st, sR_no, sR_refuse, and_self, true_and, and_true, false_and, and_false, f_X8_takeToken, f_X8_takeWord, hqn, hn, hq9, hcL, a2', a3', ad]
end TK3
