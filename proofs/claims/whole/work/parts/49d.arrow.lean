/-! arrows: needs, ring -/
theorem lp_inv {σ ρ : Type} {l : Nat → σ → Nat → Option ρ} {N : Nat} (R : Nat → σ → Prop) (Q : ρ → Prop) (hs : ∀ n k x, k < N → R k x → ∃ y, l (n + 1) x k = l n y (k + 1) ∧ R (k + 1) y) (he : ∀ n x, R N x → ∃ r, l (n + 1) x N = some r ∧ Q r) : ∀ {f k : Nat} {x : σ}, k ≤ N → N - k < f → R k x → ∃ r, l f x k = some r ∧ Q r
  | 0, _, _, _, h, _ => absurd h (by omega)
  | f + 1, k, x, hk, hf, hR => by
    by_cases h : k = N
    · subst h; exact he f x hR
    · obtain ⟨y, h1, h2⟩ := hs f k x (by omega) hR
      rw [h1]
      exact lp_inv R Q hs he (by omega) (by omega) h2
/-- the first k of a place of ints -/
def wri (s : fu_S) (P k : Nat) (f : Nat → Int32) : fu_S := (fun a r => if a = P ∧ r < k then f r else s.1 a r, s.2)
section WRI
variable {s : fu_S} {P k q : Nat} {f g : Nat → Int32} {x : Int32}
theorem wri_0 : wri s P 0 f = s := by
  unfold wri
  have : (fun a r => if a = P ∧ r < 0 then f r else s.1 a r) = s.1 := by
    funext a r
    rw [if_neg (by omega)]
  rw [this]
theorem wri_s : fu_pi (wri s P k f) P k (f k) = wri s P (k + 1) f := by
  unfold fu_pi wri
  refine Prod.ext ?_ rfl
  funext a r
  show (if a = P ∧ r = k then f k else (if a = P ∧ r < k then f r else s.1 a r)) = if a = P ∧ r < k + 1 then f r else s.1 a r
  by_cases h1 : a = P ∧ r = k
  · rw [if_pos h1, if_pos (by omega), h1.2]
  · rw [if_neg h1]
    by_cases h2 : a = P ∧ r < k
    · rw [if_pos h2, if_pos (by omega)]
    · rw [if_neg h2, if_neg (by omega)]
theorem wri_u (hq : q < k) : fu_pi (wri s P k f) P q x = wri s P k (fun r => if r = q then x else f r) := by
  unfold fu_pi wri
  refine Prod.ext ?_ rfl
  funext a r
  show (if a = P ∧ r = q then x else (if a = P ∧ r < k then f r else s.1 a r)) = if a = P ∧ r < k then (if r = q then x else f r) else s.1 a r
  by_cases h1 : a = P ∧ r = q
  · rw [if_pos h1, if_pos (by omega), if_pos h1.2]
  · rw [if_neg h1]
    by_cases h2 : a = P ∧ r < k
    · rw [if_pos h2, if_pos h2, if_neg (fun z => h1 ⟨h2.1, z⟩)]
    · rw [if_neg h2, if_neg h2]
theorem wri_c (h : ∀ r, r < k → f r = g r) : wri s P k f = wri s P k g := by
  unfold wri
  refine Prod.ext ?_ rfl
  funext a r
  show (if a = P ∧ r < k then f r else s.1 a r) = if a = P ∧ r < k then g r else s.1 a r
  by_cases h2 : a = P ∧ r < k
  · rw [if_pos h2, if_pos h2, h r h2.2]
  · rw [if_neg h2, if_neg h2]
theorem wri_r (h : q < k) : (wri s P k f).1 P q = f q := if_pos ⟨rfl, h⟩
theorem wri_n {a : Nat} (h : a ≠ P) : (wri s P k f).1 a = s.1 a := by
  funext r
  exact if_neg (fun z => h z.1)
theorem wri_2 : (wri s P k f).2 = s.2 := rfl
theorem wri_w : wri (wri s P k f) P k g = wri s P k g := by
  unfold wri
  refine Prod.ext ?_ rfl
  funext a r
  show (if a = P ∧ r < k then g r else (if a = P ∧ r < k then f r else s.1 a r)) = if a = P ∧ r < k then g r else s.1 a r
  by_cases h2 : a = P ∧ r < k
  · rw [if_pos h2, if_pos h2]
  · rw [if_neg h2, if_neg h2, if_neg h2]
end WRI
/-- whom one needs: t's part -/
def d_nt (D : dD) (W p t : Nat) : Nat := if D 11 t = 0 ∧ W.testBit t = false ∧ D 7 t = p then 2 ^ d_b D t else 0
def d_need (D : dD) (W p : Nat) : Nat := d_or (d_nt D W p) (D 0 5)
theorem d_nt_lt {D : dD} {W p t : Nat} (hv : dV D) (ht : t < D 0 5) : d_nt D W p t < 2 ^ 7 := by
  unfold d_nt
  split
  · have := d_b_lt hv ht
    have := hv.1
    exact Nat.pow_lt_pow_right (by omega) (by omega)
  · omega
theorem d_need_lt {D : dD} {W p : Nat} (hv : dV D) : d_need D W p < 128 := d_or_lt (m := 7) fun _ ht => d_nt_lt hv ht
section ARW
variable {s : fu_S} {P : Nat} {D : dD} {t p q o k W : Nat}
theorem c_clear : f_X0_clear s = some (wri s 115 7 (fun _ => 0)) := by
  have hL := lp_up (l := fun f σ k => l_X0_clear_2 f σ (Int32.ofNat k)) (N := 7) (S := fun k => wri s 115 k (fun _ => 0)) (r := wri s 115 7 (fun _ => 0)) (fun n k hk => by
      have e1 : fu_pi (wri s 115 k (fun _ => 0)) 115 k 0 = wri s 115 (k + 1) (fun _ => 0) := wri_s (f := fun _ => 0)
      show l_X0_clear_2 (n + 1) (wri s 115 k (fun _ => 0)) (Int32.ofNat k) = _
      simp (maxSteps := 1000000) (disch := omega) only [ne_eq, i_lt0, i_le0, i_eq0, i_n1, i_ltl, i_lel, i_eql, i_lt, i_le, i_eq, i_in, i_tn, i_add, i_addl, i_addr, i_mul, i_mulr, i_mull, if_true, if_false, eq_self, decide_eq_true_eq, decide_true, decide_false, Option.bind_some, Option.bind_none, ↓fu_ltd, ↓reduceIte, ↓ob_ite, ↓ob_asc, Bool.false_eq_true, Bool.true_eq_false, not_true_eq_false, not_false_eq_true, Nat.not_lt_zero, Nat.le_zero_eq, Nat.reduceAdd, Nat.reduceMul, Nat.reduceSub, Nat.reduceEqDiff, Nat.reduceLT, Nat.reduceLeDiff, sC_def, sR_def, sC_1, sC_2, sR_1, sR_2, sC_st, sR_st, sR_no, sR_refuse, and_self, true_and, and_true, false_and, and_false, l_X0_clear_2, hk, e1, i_add1]) (fun n => by
      show l_X0_clear_2 (n + 1) (wri s 115 7 (fun _ => 0)) (Int32.ofNat 7) = _
      simp (maxSteps := 1000000) (disch := omega) only [ne_eq, i_lt0, i_le0, i_eq0, i_n1, i_ltl, i_lel, i_eql, i_lt, i_le, i_eq, i_in, i_tn, i_add, i_addl, i_addr, i_mul, i_mulr, i_mull, if_true, if_false, eq_self, decide_eq_true_eq, decide_true, decide_false, Option.bind_some, Option.bind_none, ↓fu_ltd, ↓reduceIte, ↓ob_ite, ↓ob_asc, Bool.false_eq_true, Bool.true_eq_false, not_true_eq_false, not_false_eq_true, Nat.not_lt_zero, Nat.le_zero_eq, Nat.reduceAdd, Nat.reduceMul, Nat.reduceSub, Nat.reduceEqDiff, Nat.reduceLT, Nat.reduceLeDiff, sC_def, sR_def, sC_1, sC_2, sR_1, sR_2, sC_st, sR_st, sR_no, sR_refuse, and_self, true_and, and_true, false_and, and_false, l_X0_clear_2, Nat.lt_irrefl]) (f := fu_N) (k := 0) (by omega) (fu_N_gt (by omega))
  simp only [wri_0] at hL
  have hL' : l_X0_clear_2 fu_N s 0 = _ := hL
  simp (maxSteps := 1000000) (disch := omega) only [ne_eq, i_lt0, i_le0, i_eq0, i_n1, i_ltl, i_lel, i_eql, i_lt, i_le, i_eq, i_in, i_tn, i_add, i_addl, i_addr, i_mul, i_mulr, i_mull, if_true, if_false, eq_self, decide_eq_true_eq, decide_true, decide_false, Option.bind_some, Option.bind_none, ↓fu_ltd, ↓reduceIte, ↓ob_ite, ↓ob_asc, Bool.false_eq_true, Bool.true_eq_false, not_true_eq_false, not_false_eq_true, Nat.not_lt_zero, Nat.le_zero_eq, Nat.reduceAdd, Nat.reduceMul, Nat.reduceSub, Nat.reduceEqDiff, Nat.reduceLT, Nat.reduceLeDiff, sC_def, sR_def, sC_1, sC_2, sR_1, sR_2, sC_st, sR_st, sR_no, sR_refuse, and_self, true_and, and_true, false_and, and_false, f_X0_clear, hL']
theorem r_clear {x : Int32} : l_X12_laysNeeds_2 fu_N s x 0 = some (wri s 125 7 (fun _ => 0)) := by
  have hL := lp_up (l := fun f σ k => l_X12_laysNeeds_2 f σ x (Int32.ofNat k)) (N := 7) (S := fun k => wri s 125 k (fun _ => 0)) (r := wri s 125 7 (fun _ => 0)) (fun n k hk => by
      have e1 : fu_pi (wri s 125 k (fun _ => 0)) 125 k 0 = wri s 125 (k + 1) (fun _ => 0) := wri_s (f := fun _ => 0)
      show l_X12_laysNeeds_2 (n + 1) (wri s 125 k (fun _ => 0)) x (Int32.ofNat k) = _
      simp (maxSteps := 1000000) (disch := omega) only [ne_eq, i_lt0, i_le0, i_eq0, i_n1, i_ltl, i_lel, i_eql, i_lt, i_le, i_eq, i_in, i_tn, i_add, i_addl, i_addr, i_mul, i_mulr, i_mull, if_true, if_false, eq_self, decide_eq_true_eq, decide_true, decide_false, Option.bind_some, Option.bind_none, ↓fu_ltd, ↓reduceIte, ↓ob_ite, ↓ob_asc, Bool.false_eq_true, Bool.true_eq_false, not_true_eq_false, not_false_eq_true, Nat.not_lt_zero, Nat.le_zero_eq, Nat.reduceAdd, Nat.reduceMul, Nat.reduceSub, Nat.reduceEqDiff, Nat.reduceLT, Nat.reduceLeDiff, sC_def, sR_def, sC_1, sC_2, sR_1, sR_2, sC_st, sR_st, sR_no, sR_refuse, and_self, true_and, and_true, false_and, and_false, l_X12_laysNeeds_2, hk, e1, i_add1]) (fun n => by
      show l_X12_laysNeeds_2 (n + 1) (wri s 125 7 (fun _ => 0)) x (Int32.ofNat 7) = _
      simp (maxSteps := 1000000) (disch := omega) only [ne_eq, i_lt0, i_le0, i_eq0, i_n1, i_ltl, i_lel, i_eql, i_lt, i_le, i_eq, i_in, i_tn, i_add, i_addl, i_addr, i_mul, i_mulr, i_mull, if_true, if_false, eq_self, decide_eq_true_eq, decide_true, decide_false, Option.bind_some, Option.bind_none, ↓fu_ltd, ↓reduceIte, ↓ob_ite, ↓ob_asc, Bool.false_eq_true, Bool.true_eq_false, not_true_eq_false, not_false_eq_true, Nat.not_lt_zero, Nat.le_zero_eq, Nat.reduceAdd, Nat.reduceMul, Nat.reduceSub, Nat.reduceEqDiff, Nat.reduceLT, Nat.reduceLeDiff, sC_def, sR_def, sC_1, sC_2, sR_1, sR_2, sC_st, sR_st, sR_no, sR_refuse, and_self, true_and, and_true, false_and, and_false, l_X12_laysNeeds_2, Nat.lt_irrefl]) (f := fu_N) (k := 0) (by omega) (fu_N_gt (by omega))
  simp only [wri_0] at hL
  exact hL
theorem dC_w {f : Nat → Int32} {a j : Nat} (ha : P + 13 ≤ a) (h : dC s P D) : dC (wri s a j f) P D := dC_congr (fun k hk => ⟨wri_n (by omega), rfl⟩) h
theorem dR_w {f : Nat → Int32} {a j b : Nat} (ha : a ≠ 122) (hv : dV D) (h : dR s b D) : dR (wri s a j f) b D := dR_congr (s := s) hv (fun i _ _ => by rw [wri_n (by omega)]) (fun i _ _ => rfl) h
theorem d_nt_step (F : Nat → Nat) : (∀ p, d_nt D W p t = 0) → (wri s P 7 fun r => Int32.ofNat (d_or (d_nt D W r) t)) = wri s P 7 fun r => Int32.ofNat (d_or (d_nt D W r) (t + 1)) := fun h => wri_c fun r _ => by rw [d_or_s, h r, Nat.or_zero]
theorem c_drawN (h : dC s P D) (hv : dV D) (hP : P + 13 ≤ 115) (hW : W < 2147483648) : f_X0_drawNeeds s P (Int32.ofNat W) = some (wri s 115 7 (fun r => Int32.ofNat (d_need D W r))) := by
  have hp4 := hv.1
  have hL := lp_up (l := fun f σ k => l_X0_drawNeeds_6 f σ P (Int32.ofNat W) (Int32.ofNat k)) (N := D 0 5) (S := fun k => wri s 115 7 (fun r => Int32.ofNat (d_or (d_nt D W r) k))) (r := wri s 115 7 (fun r => Int32.ofNat (d_need D W r))) (fun n k hk => by
      have hC := dC_w (f := fun r => Int32.ofNat (d_or (d_nt D W r) k)) (j := 7) hP h
      have e0 := hC.1.2.2.2.2.2
      have e1 := c_isScratched hC hv hk
      have e2 := c_ownerOf hC hv hk
      have e3 := c_bearerOf hC hv hk
      have hb := d_b_lt hv hk
      have hb7 : d_b D k < 7 := by omega
      have ho := dV_t hv hk
      have ho7 : D 7 k < 7 := by omega
      have e4 : (wri s 115 7 (fun r => Int32.ofNat (d_or (d_nt D W r) k))).1 115 (D 7 k) = Int32.ofNat (d_or (d_nt D W (D 7 k)) k) := wri_r ho7
      have hz : (∀ p, d_nt D W p k = 0) → wri s 115 7 (fun r => Int32.ofNat (d_or (d_nt D W r) k)) = wri s 115 7 (fun r => Int32.ofNat (d_or (d_nt D W r) (k + 1))) := fun h => wri_c fun r _ => by rw [d_or_s, h r, Nat.or_zero]
      have hk8 : k < 31 := by omega
      show l_X0_drawNeeds_6 (n + 1) (wri s 115 7 (fun r => Int32.ofNat (d_or (d_nt D W r) k))) P (Int32.ofNat W) (Int32.ofNat k) = l_X0_drawNeeds_6 n (wri s 115 7 (fun r => Int32.ofNat (d_or (d_nt D W r) (k + 1)))) P (Int32.ofNat W) (Int32.ofNat (k + 1))
      by_cases h0 : D 11 k = 0
      · cases hw : W.testBit k
        · have e5 : fu_pi (wri s 115 7 (fun r => Int32.ofNat (d_or (d_nt D W r) k))) 115 (D 7 k) (Int32.ofNat (d_or (d_nt D W (D 7 k)) k ||| 2 ^ d_b D k)) = wri s 115 7 (fun r => Int32.ofNat (d_or (d_nt D W r) (k + 1))) := by
            rw [wri_u ho7]
            refine wri_c fun r _ => ?_
            rw [d_or_s]
            unfold d_nt
            by_cases e : r = D 7 k
            · rw [if_pos e, if_pos ⟨h0, hw, e.symm⟩, e]
            · rw [if_neg e, if_neg (fun z : D 11 k = 0 ∧ W.testBit k = false ∧ D 7 k = r => e z.2.2.symm), Nat.or_zero]
          generalize wri s 115 7 (fun r => Int32.ofNat (d_or (d_nt D W r) k)) = u at *
          generalize wri s 115 7 (fun r => Int32.ofNat (d_or (d_nt D W r) (k + 1))) = v at *
          simp (maxSteps := 1000000) (disch := omega) only [ne_eq, i_lt0, i_le0, i_eq0, i_n1, i_ltl, i_lel, i_eql, i_lt, i_le, i_eq, i_in, i_tn, i_add, i_addl, i_addr, i_mul, i_mulr, i_mull, if_true, if_false, eq_self, decide_eq_true_eq, decide_true, decide_false, Option.bind_some, Option.bind_none, ↓fu_ltd, ↓reduceIte, ↓ob_ite, ↓ob_asc, Bool.false_eq_true, Bool.true_eq_false, not_true_eq_false, not_false_eq_true, Nat.not_lt_zero, Nat.le_zero_eq, Nat.reduceAdd, Nat.reduceMul, Nat.reduceSub, Nat.reduceEqDiff, Nat.reduceLT, Nat.reduceLeDiff, sC_def, sR_def, sC_1, sC_2, sR_1, sR_2, sC_st, sR_st, sR_no, sR_refuse, and_self, true_and, and_true, false_and, and_false, l_X0_drawNeeds_6, f_X4_things, e0, hk, e1, h0, i_bit0, hw, e2, e3, f_X0_draw, ho7, hb7, e4, i_shl, i_or, e5, i_add1]
        · have hz' := hz (fun p => if_neg (fun z => by rw [hw] at z; exact Bool.noConfusion z.2.1))
          generalize wri s 115 7 (fun r => Int32.ofNat (d_or (d_nt D W r) k)) = u at *
          generalize wri s 115 7 (fun r => Int32.ofNat (d_or (d_nt D W r) (k + 1))) = v at *
          rw [← hz']
          simp (maxSteps := 1000000) (disch := omega) only [ne_eq, i_lt0, i_le0, i_eq0, i_n1, i_ltl, i_lel, i_eql, i_lt, i_le, i_eq, i_in, i_tn, i_add, i_addl, i_addr, i_mul, i_mulr, i_mull, if_true, if_false, eq_self, decide_eq_true_eq, decide_true, decide_false, Option.bind_some, Option.bind_none, ↓fu_ltd, ↓reduceIte, ↓ob_ite, ↓ob_asc, Bool.false_eq_true, Bool.true_eq_false, not_true_eq_false, not_false_eq_true, Nat.not_lt_zero, Nat.le_zero_eq, Nat.reduceAdd, Nat.reduceMul, Nat.reduceSub, Nat.reduceEqDiff, Nat.reduceLT, Nat.reduceLeDiff, sC_def, sR_def, sC_1, sC_2, sR_1, sR_2, sC_st, sR_st, sR_no, sR_refuse, and_self, true_and, and_true, false_and, and_false, l_X0_drawNeeds_6, f_X4_things, e0, hk, e1, h0, i_bit0, hw, i_add1]
      · have hz' := hz (fun p => if_neg (fun z => h0 z.1))
        generalize wri s 115 7 (fun r => Int32.ofNat (d_or (d_nt D W r) k)) = u at *
        generalize wri s 115 7 (fun r => Int32.ofNat (d_or (d_nt D W r) (k + 1))) = v at *
        rw [← hz']
        simp (maxSteps := 1000000) (disch := omega) only [ne_eq, i_lt0, i_le0, i_eq0, i_n1, i_ltl, i_lel, i_eql, i_lt, i_le, i_eq, i_in, i_tn, i_add, i_addl, i_addr, i_mul, i_mulr, i_mull, if_true, if_false, eq_self, decide_eq_true_eq, decide_true, decide_false, Option.bind_some, Option.bind_none, ↓fu_ltd, ↓reduceIte, ↓ob_ite, ↓ob_asc, Bool.false_eq_true, Bool.true_eq_false, not_true_eq_false, not_false_eq_true, Nat.not_lt_zero, Nat.le_zero_eq, Nat.reduceAdd, Nat.reduceMul, Nat.reduceSub, Nat.reduceEqDiff, Nat.reduceLT, Nat.reduceLeDiff, sC_def, sR_def, sC_1, sC_2, sR_1, sR_2, sC_st, sR_st, sR_no, sR_refuse, and_self, true_and, and_true, false_and, and_false, l_X0_drawNeeds_6, f_X4_things, e0, hk, e1, h0, i_add1]) (fun n => by
      have e0 := (dC_w (f := fun r => Int32.ofNat (d_need D W r)) (j := 7) hP h).1.2.2.2.2.2
      show l_X0_drawNeeds_6 (n + 1) (wri s 115 7 (fun r => Int32.ofNat (d_need D W r))) P (Int32.ofNat W) (Int32.ofNat (D 0 5)) = _
      simp (maxSteps := 1000000) (disch := omega) only [ne_eq, i_lt0, i_le0, i_eq0, i_n1, i_ltl, i_lel, i_eql, i_lt, i_le, i_eq, i_in, i_tn, i_add, i_addl, i_addr, i_mul, i_mulr, i_mull, if_true, if_false, eq_self, decide_eq_true_eq, decide_true, decide_false, Option.bind_some, Option.bind_none, ↓fu_ltd, ↓reduceIte, ↓ob_ite, ↓ob_asc, Bool.false_eq_true, Bool.true_eq_false, not_true_eq_false, not_false_eq_true, Nat.not_lt_zero, Nat.le_zero_eq, Nat.reduceAdd, Nat.reduceMul, Nat.reduceSub, Nat.reduceEqDiff, Nat.reduceLT, Nat.reduceLeDiff, sC_def, sR_def, sC_1, sC_2, sR_1, sR_2, sC_st, sR_st, sR_no, sR_refuse, and_self, true_and, and_true, false_and, and_false, l_X0_drawNeeds_6, f_X4_things, e0, Nat.lt_irrefl]) (f := fu_N) (k := 0) (by omega) (fu_N_gt (by omega))
  have hL' : l_X0_drawNeeds_6 fu_N (wri s 115 7 (fun _ => 0)) P (Int32.ofNat W) 0 = _ := hL
  simp (maxSteps := 1000000) (disch := omega) only [ne_eq, i_lt0, i_le0, i_eq0, i_n1, i_ltl, i_lel, i_eql, i_lt, i_le, i_eq, i_in, i_tn, i_add, i_addl, i_addr, i_mul, i_mulr, i_mull, if_true, if_false, eq_self, decide_eq_true_eq, decide_true, decide_false, Option.bind_some, Option.bind_none, ↓fu_ltd, ↓reduceIte, ↓ob_ite, ↓ob_asc, Bool.false_eq_true, Bool.true_eq_false, not_true_eq_false, not_false_eq_true, Nat.not_lt_zero, Nat.le_zero_eq, Nat.reduceAdd, Nat.reduceMul, Nat.reduceSub, Nat.reduceEqDiff, Nat.reduceLT, Nat.reduceLeDiff, sC_def, sR_def, sC_1, sC_2, sR_1, sR_2, sC_st, sR_st, sR_no, sR_refuse, and_self, true_and, and_true, false_and, and_false, f_X0_drawNeeds, c_clear, hL']
theorem r_drawN (h : dR s 0 D) (hv : dV D) (hW : W < 2147483648) : f_X12_laysNeeds s (Int32.ofNat W) = some (wri s 125 7 (fun r => Int32.ofNat (d_need D W r))) := by
  have hp4 := hv.1
  have hL := lp_up (l := fun f σ k => l_X12_laysNeeds_23 f σ (Int32.ofNat W) (Int32.ofNat k)) (N := D 0 5) (S := fun k => wri s 125 7 (fun r => Int32.ofNat (d_or (d_nt D W r) k))) (r := wri s 125 7 (fun r => Int32.ofNat (d_need D W r))) (fun n k hk => by
      have hR := dR_w (f := fun r => Int32.ofNat (d_or (d_nt D W r) k)) (j := 7) (a := 125) (by omega) hv h
      have e0 := (dR_0 hR).1.2.2.1
      have e1 := r_isScratched hR hv hk
      have e2 := ((dR_0 hR).2.2.2 k hk).1
      have e3 := r_bearerOf hR hv hk
      have hb := d_b_lt hv hk
      have hb7 : d_b D k < 7 := by omega
      have ho := dV_t hv hk
      have ho7 : D 7 k < 7 := by omega
      have m1 : 35 + k < 1775 := by omega
      have e4 : (wri s 125 7 (fun r => Int32.ofNat (d_or (d_nt D W r) k))).1 125 (D 7 k) = Int32.ofNat (d_or (d_nt D W (D 7 k)) k) := wri_r ho7
      have hz : (∀ p, d_nt D W p k = 0) → wri s 125 7 (fun r => Int32.ofNat (d_or (d_nt D W r) k)) = wri s 125 7 (fun r => Int32.ofNat (d_or (d_nt D W r) (k + 1))) := fun h => wri_c fun r _ => by rw [d_or_s, h r, Nat.or_zero]
      have hk8 : k < 31 := by omega
      have e6 := r_hasn hW hk8
      show l_X12_laysNeeds_23 (n + 1) (wri s 125 7 (fun r => Int32.ofNat (d_or (d_nt D W r) k))) (Int32.ofNat W) (Int32.ofNat k) = l_X12_laysNeeds_23 n (wri s 125 7 (fun r => Int32.ofNat (d_or (d_nt D W r) (k + 1)))) (Int32.ofNat W) (Int32.ofNat (k + 1))
      by_cases h0 : D 11 k = 0
      · cases hw : W.testBit k
        · have e5 : fu_pi (wri s 125 7 (fun r => Int32.ofNat (d_or (d_nt D W r) k))) 125 (D 7 k) (Int32.ofNat (d_or (d_nt D W (D 7 k)) k ||| 2 ^ d_b D k)) = wri s 125 7 (fun r => Int32.ofNat (d_or (d_nt D W r) (k + 1))) := by
            rw [wri_u ho7]
            refine wri_c fun r _ => ?_
            rw [d_or_s]
            unfold d_nt
            by_cases e : r = D 7 k
            · rw [if_pos e, if_pos ⟨h0, hw, e.symm⟩, e]
            · rw [if_neg e, if_neg (fun z : D 11 k = 0 ∧ W.testBit k = false ∧ D 7 k = r => e z.2.2.symm), Nat.or_zero]
          generalize wri s 125 7 (fun r => Int32.ofNat (d_or (d_nt D W r) k)) = u at *
          generalize wri s 125 7 (fun r => Int32.ofNat (d_or (d_nt D W r) (k + 1))) = v at *
          simp (maxSteps := 1000000) (disch := omega) only [ne_eq, i_lt0, i_le0, i_eq0, i_n1, i_ltl, i_lel, i_eql, i_lt, i_le, i_eq, i_in, i_tn, i_add, i_addl, i_addr, i_mul, i_mulr, i_mull, if_true, if_false, eq_self, decide_eq_true_eq, decide_true, decide_false, Option.bind_some, Option.bind_none, ↓fu_ltd, ↓reduceIte, ↓ob_ite, ↓ob_asc, Bool.false_eq_true, Bool.true_eq_false, not_true_eq_false, not_false_eq_true, Nat.not_lt_zero, Nat.le_zero_eq, Nat.reduceAdd, Nat.reduceMul, Nat.reduceSub, Nat.reduceEqDiff, Nat.reduceLT, Nat.reduceLeDiff, sC_def, sR_def, sC_1, sC_2, sR_1, sR_2, sC_st, sR_st, sR_no, sR_refuse, and_self, true_and, and_true, false_and, and_false, l_X12_laysNeeds_23, e0, hk, e1, h0, e6, hw, m1, e2, e3, ho7, hb7, e4, i_shl, i_or, e5, i_add1]
        · have hz' := hz (fun p => if_neg (fun z => by rw [hw] at z; exact Bool.noConfusion z.2.1))
          generalize wri s 125 7 (fun r => Int32.ofNat (d_or (d_nt D W r) k)) = u at *
          generalize wri s 125 7 (fun r => Int32.ofNat (d_or (d_nt D W r) (k + 1))) = v at *
          rw [← hz']
          simp (maxSteps := 1000000) (disch := omega) only [ne_eq, i_lt0, i_le0, i_eq0, i_n1, i_ltl, i_lel, i_eql, i_lt, i_le, i_eq, i_in, i_tn, i_add, i_addl, i_addr, i_mul, i_mulr, i_mull, if_true, if_false, eq_self, decide_eq_true_eq, decide_true, decide_false, Option.bind_some, Option.bind_none, ↓fu_ltd, ↓reduceIte, ↓ob_ite, ↓ob_asc, Bool.false_eq_true, Bool.true_eq_false, not_true_eq_false, not_false_eq_true, Nat.not_lt_zero, Nat.le_zero_eq, Nat.reduceAdd, Nat.reduceMul, Nat.reduceSub, Nat.reduceEqDiff, Nat.reduceLT, Nat.reduceLeDiff, sC_def, sR_def, sC_1, sC_2, sR_1, sR_2, sC_st, sR_st, sR_no, sR_refuse, and_self, true_and, and_true, false_and, and_false, l_X12_laysNeeds_23, e0, hk, e1, h0, e6, hw, i_add1]
      · have hz' := hz (fun p => if_neg (fun z => h0 z.1))
        generalize wri s 125 7 (fun r => Int32.ofNat (d_or (d_nt D W r) k)) = u at *
        generalize wri s 125 7 (fun r => Int32.ofNat (d_or (d_nt D W r) (k + 1))) = v at *
        rw [← hz']
        simp (maxSteps := 1000000) (disch := omega) only [ne_eq, i_lt0, i_le0, i_eq0, i_n1, i_ltl, i_lel, i_eql, i_lt, i_le, i_eq, i_in, i_tn, i_add, i_addl, i_addr, i_mul, i_mulr, i_mull, if_true, if_false, eq_self, decide_eq_true_eq, decide_true, decide_false, Option.bind_some, Option.bind_none, ↓fu_ltd, ↓reduceIte, ↓ob_ite, ↓ob_asc, Bool.false_eq_true, Bool.true_eq_false, not_true_eq_false, not_false_eq_true, Nat.not_lt_zero, Nat.le_zero_eq, Nat.reduceAdd, Nat.reduceMul, Nat.reduceSub, Nat.reduceEqDiff, Nat.reduceLT, Nat.reduceLeDiff, sC_def, sR_def, sC_1, sC_2, sR_1, sR_2, sC_st, sR_st, sR_no, sR_refuse, and_self, true_and, and_true, false_and, and_false, l_X12_laysNeeds_23, e0, hk, e1, h0, i_add1]) (fun n => by
      have e0 := (dR_0 (dR_w (f := fun r => Int32.ofNat (d_need D W r)) (j := 7) (a := 125) (by omega) hv h)).1.2.2.1
      show l_X12_laysNeeds_23 (n + 1) (wri s 125 7 (fun r => Int32.ofNat (d_need D W r))) (Int32.ofNat W) (Int32.ofNat (D 0 5)) = _
      simp (maxSteps := 1000000) (disch := omega) only [ne_eq, i_lt0, i_le0, i_eq0, i_n1, i_ltl, i_lel, i_eql, i_lt, i_le, i_eq, i_in, i_tn, i_add, i_addl, i_addr, i_mul, i_mulr, i_mull, if_true, if_false, eq_self, decide_eq_true_eq, decide_true, decide_false, Option.bind_some, Option.bind_none, ↓fu_ltd, ↓reduceIte, ↓ob_ite, ↓ob_asc, Bool.false_eq_true, Bool.true_eq_false, not_true_eq_false, not_false_eq_true, Nat.not_lt_zero, Nat.le_zero_eq, Nat.reduceAdd, Nat.reduceMul, Nat.reduceSub, Nat.reduceEqDiff, Nat.reduceLT, Nat.reduceLeDiff, sC_def, sR_def, sC_1, sC_2, sR_1, sR_2, sC_st, sR_st, sR_no, sR_refuse, and_self, true_and, and_true, false_and, and_false, l_X12_laysNeeds_23, e0, Nat.lt_irrefl]) (f := fu_N) (k := 0) (by omega) (fu_N_gt (by omega))
  have hL' : l_X12_laysNeeds_23 fu_N (wri s 125 7 (fun _ => 0)) (Int32.ofNat W) 0 = _ := hL
  simp (maxSteps := 1000000) (disch := omega) only [ne_eq, i_lt0, i_le0, i_eq0, i_n1, i_ltl, i_lel, i_eql, i_lt, i_le, i_eq, i_in, i_tn, i_add, i_addl, i_addr, i_mul, i_mulr, i_mull, if_true, if_false, eq_self, decide_eq_true_eq, decide_true, decide_false, Option.bind_some, Option.bind_none, ↓fu_ltd, ↓reduceIte, ↓ob_ite, ↓ob_asc, Bool.false_eq_true, Bool.true_eq_false, not_true_eq_false, not_false_eq_true, Nat.not_lt_zero, Nat.le_zero_eq, Nat.reduceAdd, Nat.reduceMul, Nat.reduceSub, Nat.reduceEqDiff, Nat.reduceLT, Nat.reduceLeDiff, sC_def, sR_def, sC_1, sC_2, sR_1, sR_2, sC_st, sR_st, sR_no, sR_refuse, and_self, true_and, and_true, false_and, and_false, f_X12_laysNeeds, r_clear, hL']
end ARW
theorem eqC_w {s : fu_S} {a k : Nat} {f : Nat → Int32} (h : 107 ≤ a ∧ a < 117 ∧ a ≠ 113) : eqC s (wri s a k f) := ⟨by rw [wri_n (by omega)], rfl, by rw [wri_n (by omega)], by rw [wri_n (by omega)], ⟨by rw [wri_n (by omega)], fun i _ => by rw [wri_n (by omega)]⟩, fun b hb => ⟨wri_n (by omega), rfl⟩⟩
theorem eqR_w {s : fu_S} {a k : Nat} {f : Nat → Int32} (h : a = 123 ∨ a = 125 ∨ a = 126) : eqR s (wri s a k f) := ⟨rfl, rfl, by rw [wri_n (by omega)], by rw [wri_n (by omega)], by rw [wri_n (by omega)], by rw [wri_n (by omega)], by rw [wri_n (by omega)], fun b hb => ⟨wri_n (by omega), rfl⟩, fun i _ => by rw [wri_n (by omega)], fun _ _ => rfl⟩
theorem hd_28 : lw_E_28 dI := by
  intro s1 s2 hI a1
  obtain ⟨D, hv, hC, hR, -⟩ := dI_D hI
  have hp4 := hv.1
  have hc := fun x => dC_s (x := x) (by omega : (11 : Nat) ≠ 0) hC
  have hr := fun x => dR_s (x := x) hv hR
  have ep := fun x y => r_isPerson (x := y) (hr x) hv
  by_cases h1 : ¬ a1 < 0 ∧ a1 < Int32.ofNat (D 0 4)
  · obtain ⟨p, hp, rfl⟩ := i_is (by omega) h1
    have hp7 : p < 7 := by omega
    have e1 : f_X0_drawNeeds (sC s1 0) 11 0 = _ := c_drawN (W := 0) (hc 0) hv (by omega) (by omega)
    have e2 : f_X12_laysNeeds (sR s2 0) 0 = _ := r_drawN (W := 0) (hr 0) hv (by omega)
    have e3 : (wri (sC s1 0) 115 7 (fun r => Int32.ofNat (d_need D 0 r))).1 115 p = Int32.ofNat (d_need D 0 p) := wri_r hp7
    have e4 : (wri (sR s2 0) 125 7 (fun r => Int32.ofNat (d_need D 0 r))).1 125 p = Int32.ofNat (d_need D 0 p) := wri_r hp7
    refine ⟨Int32.ofNat (d_need D 0 p), wri (sC s1 0) 115 7 (fun r => Int32.ofNat (d_need D 0 r)), wri (sR s2 0) 125 7 (fun r => Int32.ofNat (d_need D 0 r)), ?_, ?_, dI_eq hI (eqC_tr eqC_sC (eqC_w (by omega))) (eqR_tr eqR_sR (eqR_w (by omega))) ?_⟩
    · simp (maxSteps := 1000000) (disch := omega) only [ne_eq, i_lt0, i_le0, i_eq0, i_n1, i_ltl, i_lel, i_eql, i_lt, i_le, i_eq, i_in, i_tn, i_add, i_addl, i_addr, i_mul, i_mulr, i_mull, if_true, if_false, eq_self, decide_eq_true_eq, decide_true, decide_false, Option.bind_some, Option.bind_none, ↓fu_ltd, ↓reduceIte, ↓ob_ite, ↓ob_asc, Bool.false_eq_true, Bool.true_eq_false, not_true_eq_false, not_false_eq_true, Nat.not_lt_zero, Nat.le_zero_eq, Nat.reduceAdd, Nat.reduceMul, Nat.reduceSub, Nat.reduceEqDiff, Nat.reduceLT, Nat.reduceLeDiff, sC_def, sR_def, sC_1, sC_2, sR_1, sR_2, sC_st, sR_st, sR_no, sR_refuse, and_self, true_and, and_true, false_and, and_false, f_X11_needs, c_hasPerson hC, hp, e1, f_X0_from, hp7, e3]
    · simp (maxSteps := 1000000) (disch := omega) only [ne_eq, i_lt0, i_le0, i_eq0, i_n1, i_ltl, i_lel, i_eql, i_lt, i_le, i_eq, i_in, i_tn, i_add, i_addl, i_addr, i_mul, i_mulr, i_mull, if_true, if_false, eq_self, decide_eq_true_eq, decide_true, decide_false, Option.bind_some, Option.bind_none, ↓fu_ltd, ↓reduceIte, ↓ob_ite, ↓ob_asc, Bool.false_eq_true, Bool.true_eq_false, not_true_eq_false, not_false_eq_true, Nat.not_lt_zero, Nat.le_zero_eq, Nat.reduceAdd, Nat.reduceMul, Nat.reduceSub, Nat.reduceEqDiff, Nat.reduceLT, Nat.reduceLeDiff, sC_def, sR_def, sC_1, sC_2, sR_1, sR_2, sC_st, sR_st, sR_no, sR_refuse, and_self, true_and, and_true, false_and, and_false, f_X12_needs, ep, hp, e2, hp7, e4]
    · rw [wri_n (by omega), wri_n (by omega), sC_st, sR_st]
  · refine ⟨-1, sC s1 2, sR s2 2, ?_, ?_, dI_s hI⟩
    · simp (maxSteps := 1000000) (disch := omega) only [ne_eq, i_lt0, i_le0, i_eq0, i_n1, i_ltl, i_lel, i_eql, i_lt, i_le, i_eq, i_in, i_tn, i_add, i_addl, i_addr, i_mul, i_mulr, i_mull, if_true, if_false, eq_self, decide_eq_true_eq, decide_true, decide_false, Option.bind_some, Option.bind_none, ↓fu_ltd, ↓reduceIte, ↓ob_ite, ↓ob_asc, Bool.false_eq_true, Bool.true_eq_false, not_true_eq_false, not_false_eq_true, Nat.not_lt_zero, Nat.le_zero_eq, Nat.reduceAdd, Nat.reduceMul, Nat.reduceSub, Nat.reduceEqDiff, Nat.reduceLT, Nat.reduceLeDiff, sC_def, sR_def, sC_1, sC_2, sR_1, sR_2, sC_st, sR_st, sR_no, sR_refuse, and_self, true_and, and_true, false_and, and_false, f_X11_needs, c_hasPerson hC, h1]
      try rfl
    · simp (maxSteps := 1000000) (disch := omega) only [ne_eq, i_lt0, i_le0, i_eq0, i_n1, i_ltl, i_lel, i_eql, i_lt, i_le, i_eq, i_in, i_tn, i_add, i_addl, i_addr, i_mul, i_mulr, i_mull, if_true, if_false, eq_self, decide_eq_true_eq, decide_true, decide_false, Option.bind_some, Option.bind_none, ↓fu_ltd, ↓reduceIte, ↓ob_ite, ↓ob_asc, Bool.false_eq_true, Bool.true_eq_false, not_true_eq_false, not_false_eq_true, Nat.not_lt_zero, Nat.le_zero_eq, Nat.reduceAdd, Nat.reduceMul, Nat.reduceSub, Nat.reduceEqDiff, Nat.reduceLT, Nat.reduceLeDiff, sC_def, sR_def, sC_1, sC_2, sR_1, sR_2, sC_st, sR_st, sR_no, sR_refuse, and_self, true_and, and_true, false_and, and_false, f_X12_needs, ep, h1]
