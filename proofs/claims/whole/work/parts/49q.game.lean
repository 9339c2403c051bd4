/-! games -/
section OIN
variable {a b : Int} {n : Nat}
theorem o_n : Int32.ofNat n = Int32.ofInt (n : Int) := Int32.ofInt_eq_ofNat.symm
theorem o_ti (h : -1000 ≤ a ∧ a ≤ 1000) : (Int32.ofInt a).toInt = a := Int32.toInt_ofInt_of_le (by omega) (by omega)
theorem o_lt (ha : -1000 ≤ a ∧ a ≤ 1000) (hb : -1000 ≤ b ∧ b ≤ 1000) : (Int32.ofInt a < Int32.ofInt b) ↔ a < b := by
  rw [Int32.lt_iff_toInt_lt, o_ti ha, o_ti hb]
theorem o_le (ha : -1000 ≤ a ∧ a ≤ 1000) (hb : -1000 ≤ b ∧ b ≤ 1000) : (Int32.ofInt a ≤ Int32.ofInt b) ↔ a ≤ b := by
  rw [Int32.le_iff_toInt_le, o_ti ha, o_ti hb]
theorem o_eq (ha : -1000 ≤ a ∧ a ≤ 1000) (hb : -1000 ≤ b ∧ b ≤ 1000) : (Int32.ofInt a = Int32.ofInt b) ↔ a = b := by
  rw [← Int32.toInt_inj, o_ti ha, o_ti hb]
theorem o_add : Int32.ofInt a + Int32.ofInt b = Int32.ofInt (a + b) := (Int32.ofInt_add a b).symm
theorem o_sub : Int32.ofInt a - Int32.ofInt b = Int32.ofInt (a - b) := (Int32.ofInt_sub a b).symm
theorem o_neg : -(Int32.ofInt a) = Int32.ofInt (-a) := (Int32.ofInt_neg a).symm
theorem o_mx (ha : -1000 ≤ a ∧ a ≤ 1000) (hb : -1000 ≤ b ∧ b ≤ 1000) : fu_mx (Int32.ofInt a) (Int32.ofInt b) = Int32.ofInt (max a b) := by
  unfold fu_mx
  by_cases h : a < b
  · rw [if_pos ((o_lt ha hb).mpr h), show max a b = b by omega]
  · rw [if_neg (fun z => h ((o_lt ha hb).mp z)), show max a b = a by omega]
end OIN
def g_mx (c : Nat → Bool) (f : Nat → Int) (b : Int) : Nat → Int
  | 0 => b
  | n + 1 => if c n = true then max (g_mx c f b n) (f n) else g_mx c f b n
def g_v (w : Nat → Nat) : Nat → Nat → Nat → Int
  | 0, _, _ => 0
  | k + 1, A, B => g_mx (fun t => A.testBit t) (fun t => (w t : Int) - g_v w k (d_nb B (2 ^ t)) (d_nb A (2 ^ t))) (-(g_v w k B A)) 8
/-- the best so far, and with what (and 1; 0: none) -/
def g_b (c : Nat → Bool) (f : Nat → Int) : Nat → Int × Nat
  | 0 => (0, 0)
  | n + 1 => if c n = true ∧ ((g_b c f n).2 = 0 ∨ (g_b c f n).1 < f n) then (f n, n + 1) else g_b c f n
section GMX
variable {c c' : Nat → Bool} {f f' : Nat → Int} {b : Int} {n m k : Nat} {w : Nat → Nat} {A B : Nat}
theorem g_mx_bd {M : Int} (hb : -M ≤ b ∧ b ≤ M) (hf : ∀ k, k < n → -M ≤ f k ∧ f k ≤ M) : -M ≤ g_mx c f b n ∧ g_mx c f b n ≤ M := by
  induction n with
  | zero => exact hb
  | succ n ih =>
    have h1 := ih fun k hk => hf k (by omega)
    have h2 := hf n (by omega)
    rw [g_mx]
    split <;> omega
theorem g_v_bd (hw : ∀ t, w t ≤ 9) : ∀ {k A B : Nat}, -(9 * (k : Int)) ≤ g_v w k A B ∧ g_v w k A B ≤ 9 * (k : Int)
  | 0, _, _ => by rw [g_v]; omega
  | k + 1, A, B => by
    rw [g_v]
    have h1 := g_v_bd hw (k := k) (A := B) (B := A)
    refine g_mx_bd (M := 9 * ((k + 1 : Nat) : Int)) (by omega) fun t _ => ?_
    have h2 := g_v_bd hw (k := k) (A := d_nb B (2 ^ t)) (B := d_nb A (2 ^ t))
    have h3 := hw t
    omega
theorem g_b_bd (hf : ∀ k, k < n → -100 ≤ f k ∧ f k ≤ 100) : (-100 ≤ (g_b c f n).1 ∧ (g_b c f n).1 ≤ 100) ∧ (g_b c f n).2 ≤ n := by
  induction n with
  | zero => exact ⟨by show -100 ≤ (0 : Int) ∧ (0 : Int) ≤ 100; omega, Nat.le_refl _⟩
  | succ n ih =>
    have h1 := ih fun k hk => hf k (by omega)
    have h2 := hf n (by omega)
    rw [g_b]
    split
    · exact ⟨h2, Nat.le_refl _⟩
    · exact ⟨h1.1, by omega⟩
theorem g_b_c (h : ∀ k, k < n → c k = c' k ∧ f k = f' k) : g_b c f n = g_b c' f' n := by
  induction n with
  | zero => rfl
  | succ n ih =>
    rw [g_b, g_b, ih fun k hk => h k (by omega), (h n (by omega)).1, (h n (by omega)).2]
theorem g_b_ok : ((g_b c f n).2 = 0 ∧ ∀ k, k < n → c k = false) ∨ ∃ t, (g_b c f n).2 = t + 1 ∧ t < n ∧ c t = true ∧ f t = (g_b c f n).1 ∧ (∀ j, j < t → c j = true → f j < (g_b c f n).1) ∧ ∀ j, j < n → c j = true → f j ≤ (g_b c f n).1 := by
  induction n with
  | zero => exact .inl ⟨rfl, fun k hk => absurd hk (by omega)⟩
  | succ n ih =>
    rw [g_b]
    split
    · rename_i h
      refine .inr ⟨n, rfl, by omega, h.1, rfl, fun j hj hc => ?_, fun j hj hc => ?_⟩
      · rcases ih with ⟨h1, h2⟩ | ⟨t, h1, h2, h3, h4, h5, h6⟩
        · rw [h2 j hj] at hc; exact Bool.noConfusion hc
        · have := h6 j hj hc
          rcases h.2 with z | z
          · omega
          · show f j < f n
            omega
      · show f j ≤ f n
        by_cases e : j = n
        · rw [e]; exact Int.le_refl _
        · rcases ih with ⟨h1, h2⟩ | ⟨t, h1, h2, h3, h4, h5, h6⟩
          · rw [h2 j (by omega)] at hc; exact Bool.noConfusion hc
          · have := h6 j (by omega) hc
            rcases h.2 with z | z <;> omega
    · rename_i h
      rcases ih with ⟨h1, h2⟩ | ⟨t, h1, h2, h3, h4, h5, h6⟩
      · refine .inl ⟨h1, fun k hk => ?_⟩
        by_cases e : k = n
        · cases hc : c k
          · rfl
          · rw [e] at hc
            exact absurd ⟨hc, .inl h1⟩ h
        · exact h2 k (by omega)
      · refine .inr ⟨t, h1, by omega, h3, h4, h5, fun j hj hc => ?_⟩
        by_cases e : j = n
        · rw [e] at hc ⊢
          refine Classical.byContradiction fun z => h ⟨hc, .inr (by omega)⟩
        · exact h6 j (by omega) hc
theorem g_mx_b : g_mx c f b n = if (g_b c f n).2 = 0 then b else max b (g_b c f n).1 := by
  induction n with
  | zero => rfl
  | succ n ih =>
    have hs : g_b c f (n + 1) = if c n = true ∧ ((g_b c f n).2 = 0 ∨ (g_b c f n).1 < f n) then (f n, n + 1) else g_b c f n := rfl
    have hm : g_mx c f b (n + 1) = if c n = true then max (g_mx c f b n) (f n) else g_mx c f b n := rfl
    by_cases hc : c n = true
    · rw [if_pos hc] at hm
      by_cases h0 : (g_b c f n).2 = 0
      · rw [if_pos ⟨hc, .inl h0⟩] at hs
        rw [if_pos h0] at ih
        rw [hm, hs, ih]
        exact (if_neg (Nat.succ_ne_zero n)).symm
      · rw [if_neg h0] at ih
        by_cases h1 : (g_b c f n).1 < f n
        · rw [if_pos ⟨hc, .inr h1⟩] at hs
          rw [hm, hs, ih]
          refine Eq.trans ?_ (if_neg (Nat.succ_ne_zero n)).symm
          show max (max b _) _ = max b (f n)
          omega
        · rw [if_neg (fun z => by rcases z.2 with y | y <;> omega)] at hs
          rw [hm, hs, ih, if_neg h0]
          omega
    · rw [if_neg hc] at hm
      rw [if_neg (fun z => hc z.1)] at hs
      rw [hm, hs]
      exact ih
theorem g_mx_0 (h : ∀ k, n ≤ k → c k = false) : g_mx c f b (n + m) = g_mx c f b n := by
  induction m with
  | zero => rfl
  | succ m ih =>
    rw [← Nat.add_assoc, g_mx, h _ (by omega), if_neg Bool.false_ne_true]
    exact ih
end GMX
/-- what a thing is worth -/
def d_w (D : dD) (t : Nat) : Nat := if t < D 0 5 then D 9 t else 0
theorem d_w_le {D : dD} {t : Nat} (hv : dV D) : d_w D t ≤ 9 := by
  unfold d_w
  split
  · rename_i h
    exact (dV_t hv h).2.2.2.2.2.2.1
  · omega
section GCL
variable {s : fu_S} {P : Nat} {D : dD} {t p q k A B n G : Nat}
theorem c_worth (h : dC s P D) (hv : dV D) (ht : t < 8) : f_X4_worthOf s P (Int32.ofNat t) = some (Int32.ofInt (d_w D t)) := by
  have hp4 := hv.1
  unfold d_w
  by_cases h5 : t < D 0 5
  · have e := (h.2.2.2 t h5).2.2.1
    rw [if_pos h5, ← o_n]
    simp (maxSteps := 1000000) (disch := omega) only [ne_eq, i_lt0, i_le0, i_eq0, i_n1, i_ltl, i_lel, i_eql, i_lt, i_le, i_eq, i_in, i_tn, i_add, i_addl, i_addr, i_mul, i_mulr, i_mull, if_true, if_false, eq_self, decide_eq_true_eq, decide_true, decide_false, Option.bind_some, Option.bind_none, ↓fu_ltd, ↓reduceIte, ↓ob_ite, ↓ob_asc, Bool.false_eq_true, Bool.true_eq_false, not_true_eq_false, not_false_eq_true, Nat.not_lt_zero, Nat.le_zero_eq, Nat.reduceAdd, Nat.reduceMul, Nat.reduceSub, Nat.reduceEqDiff, Nat.reduceLT, Nat.reduceLeDiff, sC_def, sR_def, sC_1, sC_2, sR_1, sR_2, sC_st, sR_st, sR_no, sR_refuse, and_self, true_and, and_true, false_and, and_false, f_X4_worthOf, c_hasThing h, h5, ht, e]
  · rw [if_neg h5]
    simp (maxSteps := 1000000) (disch := omega) only [ne_eq, i_lt0, i_le0, i_eq0, i_n1, i_ltl, i_lel, i_eql, i_lt, i_le, i_eq, i_in, i_tn, i_add, i_addl, i_addr, i_mul, i_mulr, i_mull, if_true, if_false, eq_self, decide_eq_true_eq, decide_true, decide_false, Option.bind_some, Option.bind_none, ↓fu_ltd, ↓reduceIte, ↓ob_ite, ↓ob_asc, Bool.false_eq_true, Bool.true_eq_false, not_true_eq_false, not_false_eq_true, Nat.not_lt_zero, Nat.le_zero_eq, Nat.reduceAdd, Nat.reduceMul, Nat.reduceSub, Nat.reduceEqDiff, Nat.reduceLT, Nat.reduceLeDiff, sC_def, sR_def, sC_1, sC_2, sR_1, sR_2, sC_st, sR_st, sR_no, sR_refuse, and_self, true_and, and_true, false_and, and_false, f_X4_worthOf, c_hasThing h, h5]
    rfl
def g_fm (D : dD) (k A B t : Nat) : Int := (d_w D t : Int) - g_v (d_w D) k (d_nb B (2 ^ t)) (d_nb A (2 ^ t))
theorem g_v_s : g_v (d_w D) (k + 1) A B = g_mx (fun t => A.testBit t) (g_fm D k A B) (-(g_v (d_w D) k B A)) 8 := rfl
theorem g_fm_bd (hv : dV D) (hk : k ≤ 4) : -100 ≤ g_fm D k A B t ∧ g_fm D k A B t ≤ 100 := by
  have h1 := g_v_bd (w := d_w D) (fun t => d_w_le hv) (k := k) (A := d_nb B (2 ^ t)) (B := d_nb A (2 ^ t))
  have h2 := d_w_le (t := t) hv
  unfold g_fm
  omega
theorem c_play (h : dC s P D) (hv : dV D) : ∀ {n k A B}, k < n → k ≤ 4 → A < 256 → B < 256 → f_X10_bestPlay n s P (Int32.ofNat A) (Int32.ofNat B) (Int32.ofNat k) = some (Int32.ofInt (g_v (d_w D) k A B))
  | 0, _, _, _, hn, _, _, _ => absurd hn (by omega)
  | n + 1, 0, A, B, _, _, hA, hB => by
    rw [f_X10_bestPlay]
    simp (maxSteps := 1000000) (disch := omega) only [ne_eq, i_lt0, i_le0, i_eq0, i_n1, i_ltl, i_lel, i_eql, i_lt, i_le, i_eq, i_in, i_tn, i_add, i_addl, i_addr, i_mul, i_mulr, i_mull, if_true, if_false, eq_self, decide_eq_true_eq, decide_true, decide_false, Option.bind_some, Option.bind_none, ↓fu_ltd, ↓reduceIte, ↓ob_ite, ↓ob_asc, Bool.false_eq_true, Bool.true_eq_false, not_true_eq_false, not_false_eq_true, Nat.not_lt_zero, Nat.le_zero_eq, Nat.reduceAdd, Nat.reduceMul, Nat.reduceSub, Nat.reduceEqDiff, Nat.reduceLT, Nat.reduceLeDiff, sC_def, sR_def, sC_1, sC_2, sR_1, sR_2, sC_st, sR_st, sR_no, sR_refuse, and_self, true_and, and_true, false_and, and_false, fb_X10_bestPlay]
    rfl
  | n + 1, k + 1, A, B, hn, hk, hA, hB => by
    rw [f_X10_bestPlay]
    have hK : ∀ A B, A < 256 → B < 256 → f_X10_bestPlay n s P (Int32.ofNat A) (Int32.ofNat B) (Int32.ofNat k) = some (Int32.ofInt (g_v (d_w D) k A B)) := fun A B h1 h2 => c_play h hv (by omega) (by omega) h1 h2
    have e1 := hK B A hB hA
    have hL : l_X10_bestPlay_26 (f_X10_bestPlay n) fu_N s P (Int32.ofNat A) (Int32.ofNat B) (Int32.ofNat (k + 1)) (Int32.ofInt (-(g_v (d_w D) k B A))) 0 = some (Int32.ofInt (g_v (d_w D) (k + 1) A B)) := by
      rw [g_v_s]
      exact lp_up (l := fun f σ t => l_X10_bestPlay_26 (f_X10_bestPlay n) f s P (Int32.ofNat A) (Int32.ofNat B) (Int32.ofNat (k + 1)) σ (Int32.ofNat t)) (N := 8) (S := fun t => Int32.ofInt (g_mx (fun t => A.testBit t) (g_fm D k A B) (-(g_v (d_w D) k B A)) t)) (r := Int32.ofInt (g_mx (fun t => A.testBit t) (g_fm D k A B) (-(g_v (d_w D) k B A)) 8)) (fun f t ht => by
        have ht31 : t < 31 := by omega
        have q1 := g_fm_bd (A := A) (B := B) (t := t) hv (by omega : k ≤ 4)
        have q2 := g_mx_bd (c := fun t => A.testBit t) (f := g_fm D k A B) (b := -(g_v (d_w D) k B A)) (n := t) (M := 100) (by have := g_v_bd (w := d_w D) (fun t => d_w_le hv) (k := k) (A := B) (B := A); omega) (fun t _ => g_fm_bd hv (by omega))
        have e2 := c_worth h hv ht
        have e3 := hK (d_nb B (2 ^ t)) (d_nb A (2 ^ t)) (Nat.lt_of_le_of_lt d_nb_le hB) (Nat.lt_of_le_of_lt d_nb_le hA)
        have x1 : g_mx (fun t => A.testBit t) (g_fm D k A B) (-(g_v (d_w D) k B A)) (t + 1) = if A.testBit t = true then max (g_mx (fun t => A.testBit t) (g_fm D k A B) (-(g_v (d_w D) k B A)) t) (g_fm D k A B t) else g_mx (fun t => A.testBit t) (g_fm D k A B) (-(g_v (d_w D) k B A)) t := rfl
        show l_X10_bestPlay_26 (f_X10_bestPlay n) (f + 1) s P (Int32.ofNat A) (Int32.ofNat B) (Int32.ofNat (k + 1)) (Int32.ofInt (g_mx (fun t => A.testBit t) (g_fm D k A B) (-(g_v (d_w D) k B A)) t)) (Int32.ofNat t) = l_X10_bestPlay_26 (f_X10_bestPlay n) f s P (Int32.ofNat A) (Int32.ofNat B) (Int32.ofNat (k + 1)) (Int32.ofInt (g_mx (fun t => A.testBit t) (g_fm D k A B) (-(g_v (d_w D) k B A)) (t + 1))) (Int32.ofNat (t + 1))
        rw [x1]
        clear x1
        generalize g_mx (fun t => A.testBit t) (g_fm D k A B) (-(g_v (d_w D) k B A)) t = M at *
        have e5 := o_mx (a := M) (b := g_fm D k A B t) (by omega) (by omega)
        have e4 : Int32.ofInt (d_w D t) - Int32.ofInt (g_v (d_w D) k (d_nb B (2 ^ t)) (d_nb A (2 ^ t))) = Int32.ofInt (g_fm D k A B t) := o_sub
        cases hz : A.testBit t
        · simp (maxSteps := 1000000) (disch := omega) only [ne_eq, i_lt0, i_le0, i_eq0, i_n1, i_ltl, i_lel, i_eql, i_lt, i_le, i_eq, i_in, i_tn, i_add, i_addl, i_addr, i_mul, i_mulr, i_mull, if_true, if_false, eq_self, decide_eq_true_eq, decide_true, decide_false, Option.bind_some, Option.bind_none, ↓fu_ltd, ↓reduceIte, ↓ob_ite, ↓ob_asc, Bool.false_eq_true, Bool.true_eq_false, not_true_eq_false, not_false_eq_true, Nat.not_lt_zero, Nat.le_zero_eq, Nat.reduceAdd, Nat.reduceMul, Nat.reduceSub, Nat.reduceEqDiff, Nat.reduceLT, Nat.reduceLeDiff, sC_def, sR_def, sC_1, sC_2, sR_1, sR_2, sC_st, sR_st, sR_no, sR_refuse, and_self, true_and, and_true, false_and, and_false, l_X10_bestPlay_26, ht, i_bit0, hz, i_add1]
        · simp (maxSteps := 1000000) (disch := omega) only [ne_eq, i_lt0, i_le0, i_eq0, i_n1, i_ltl, i_lel, i_eql, i_lt, i_le, i_eq, i_in, i_tn, i_add, i_addl, i_addr, i_mul, i_mulr, i_mull, if_true, if_false, eq_self, decide_eq_true_eq, decide_true, decide_false, Option.bind_some, Option.bind_none, ↓fu_ltd, ↓reduceIte, ↓ob_ite, ↓ob_asc, Bool.false_eq_true, Bool.true_eq_false, not_true_eq_false, not_false_eq_true, Nat.not_lt_zero, Nat.le_zero_eq, Nat.reduceAdd, Nat.reduceMul, Nat.reduceSub, Nat.reduceEqDiff, Nat.reduceLT, Nat.reduceLeDiff, sC_def, sR_def, sC_1, sC_2, sR_1, sR_2, sC_st, sR_st, sR_no, sR_refuse, and_self, true_and, and_true, false_and, and_false, l_X10_bestPlay_26, f_X10_worthOfMove, ht, i_bit0, hz, i_add1, i_add1s, e2, i_nand1, e3, e4, e5]) (fun f => by
        generalize g_mx (fun t => A.testBit t) (g_fm D k A B) (-(g_v (d_w D) k B A)) 8 = M at *
        show l_X10_bestPlay_26 (f_X10_bestPlay n) (f + 1) s P (Int32.ofNat A) (Int32.ofNat B) (Int32.ofNat (k + 1)) (Int32.ofInt M) (Int32.ofNat 8) = _
        simp (maxSteps := 1000000) (disch := omega) only [ne_eq, i_lt0, i_le0, i_eq0, i_n1, i_ltl, i_lel, i_eql, i_lt, i_le, i_eq, i_in, i_tn, i_add, i_addl, i_addr, i_mul, i_mulr, i_mull, if_true, if_false, eq_self, decide_eq_true_eq, decide_true, decide_false, Option.bind_some, Option.bind_none, ↓fu_ltd, ↓reduceIte, ↓ob_ite, ↓ob_asc, Bool.false_eq_true, Bool.true_eq_false, not_true_eq_false, not_false_eq_true, Nat.not_lt_zero, Nat.le_zero_eq, Nat.reduceAdd, Nat.reduceMul, Nat.reduceSub, Nat.reduceEqDiff, Nat.reduceLT, Nat.reduceLeDiff, sC_def, sR_def, sC_1, sC_2, sR_1, sR_2, sC_st, sR_st, sR_no, sR_refuse, and_self, true_and, and_true, false_and, and_false, l_X10_bestPlay_26, Nat.lt_irrefl]) (f := fu_N) (k := 0) (by omega) (fu_N_gt (by omega))
    have hk0 : ¬ k + 1 = 0 := by omega
    generalize g_v (d_w D) (k + 1) A B = M at *
    generalize g_v (d_w D) k B A = M' at *
    simp (maxSteps := 1000000) (disch := omega) only [ne_eq, i_lt0, i_le0, i_eq0, i_n1, i_ltl, i_lel, i_eql, i_lt, i_le, i_eq, i_in, i_tn, i_add, i_addl, i_addr, i_mul, i_mulr, i_mull, if_true, if_false, eq_self, decide_eq_true_eq, decide_true, decide_false, Option.bind_some, Option.bind_none, ↓fu_ltd, ↓reduceIte, ↓ob_ite, ↓ob_asc, Bool.false_eq_true, Bool.true_eq_false, not_true_eq_false, not_false_eq_true, Nat.not_lt_zero, Nat.le_zero_eq, Nat.reduceAdd, Nat.reduceMul, Nat.reduceSub, Nat.reduceEqDiff, Nat.reduceLT, Nat.reduceLeDiff, sC_def, sR_def, sC_1, sC_2, sR_1, sR_2, sC_st, sR_st, sR_no, sR_refuse, and_self, true_and, and_true, false_and, and_false, fb_X10_bestPlay, hk0, hk, i_add1s, e1, o_neg, hL]
end GCL
