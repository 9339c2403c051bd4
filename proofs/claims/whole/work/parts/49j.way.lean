/-! way -/
def d_f1 (c : Nat → Bool) : Nat → Nat
  | 0 => 0
  | n + 1 => if d_allb (fun k => !c k) n = true then n else d_f1 c n
theorem d_f1_eq {c : Nat → Bool} {k : Nat} (h1 : c k = true) (h2 : ∀ j, j < k → c j = false) : ∀ {n}, k < n → d_f1 c n = k
  | 0, hk => absurd hk (by omega)
  | n + 1, hk => by
    rw [d_f1]
    by_cases h : d_allb (fun k => !c k) n = true
    · rw [if_pos h]
      rw [d_allb_iff] at h
      by_cases e : k < n
      · have := h k e
        rw [h1] at this
        exact Bool.noConfusion this
      · omega
    · rw [if_neg h]
      refine d_f1_eq h1 h2 ?_
      refine Classical.byContradiction fun e => h (d_allb_iff.mpr fun j hj => ?_)
      rw [h2 j (by omega)]; rfl
def d_pth (D : dD) (h : Nat → Nat) (p : Nat) : Nat → Nat
  | 0 => p
  | i + 1 => d_f1 (d_nx D h (d_pth D h p i) (h p - 1 - i)) 7
section WAY
variable {s : fu_S} {P : Nat} {D : dD} {t p q o k b A n len w : Nat} {h h' : Nat → Nat}
theorem d_pth_ok (hv : dV D) (hn : d_near D h) (hp : p < D 0 4) : ∀ {i}, i + 1 ≤ h p → (d_pth D h p i < D 0 4 ∧ h (d_pth D h p i) = h p - i) ∧ (i + 1 < h p → d_nx D h (d_pth D h p i) (h p - 1 - i) (d_pth D h p (i + 1)) = true ∧ (∀ j, j < d_pth D h p (i + 1) → d_nx D h (d_pth D h p i) (h p - 1 - i) j = false) ∧ d_pth D h p (i + 1) < D 0 4 ∧ h (d_pth D h p (i + 1)) = h p - (i + 1)) := by
  have hp4 := hv.1
  have key : ∀ i, d_pth D h p i < D 0 4 ∧ h (d_pth D h p i) = h p - i → i + 1 < h p → d_nx D h (d_pth D h p i) (h p - 1 - i) (d_pth D h p (i + 1)) = true ∧ (∀ j, j < d_pth D h p (i + 1) → d_nx D h (d_pth D h p i) (h p - 1 - i) j = false) ∧ d_pth D h p (i + 1) < D 0 4 ∧ h (d_pth D h p (i + 1)) = h p - (i + 1) := by
    intro i ⟨a1, a2⟩ h2
    obtain ⟨k, k1, k2⟩ := hn _ a1 (by omega)
    have hb : d_by D (d_pth D h p i) k < D 0 4 := d_by_lt a1
    have hz : d_nx D h (d_pth D h p i) (h p - 1 - i) (d_by D (d_pth D h p i) k) = true := d_nx_iff.mpr ⟨a1, ⟨k, k1, rfl⟩, by omega⟩
    rcases d_fst (d_nx D h (d_pth D h p i) (h p - 1 - i)) 7 with w | ⟨r, w1, w2, w3⟩
    · rw [w _ (by omega)] at hz
      exact Bool.noConfusion hz
    · have e : d_pth D h p (i + 1) = r := d_f1_eq w2 w3 w1
      rw [e]
      obtain ⟨y1, ⟨y2, y3, y4⟩, y5⟩ := d_nx_iff.mp w2
      have hb' : d_by D (d_pth D h p i) y2 < D 0 4 := d_by_lt a1
      exact ⟨w2, w3, by omega, by omega⟩
  intro i
  induction i with
  | zero => exact fun _ => ⟨⟨hp, rfl⟩, key 0 ⟨hp, rfl⟩⟩
  | succ i ih =>
    intro h1
    have h2 := (ih (by omega)).2 (by omega)
    exact ⟨h2.2.2, key _ h2.2.2⟩
theorem r_wayK {x3 x5 : Int32} {r : Nat} (h0 : dR s 0 D) (hv : dV D) (hw : w < D 0 4) (hh : ∀ r, r < 7 → s.1 126 r = e_b (h r)) (hb : ∀ r, h r ≤ 7) (hl : 1 ≤ len) (hle : h w = len + 1) (h1 : d_nx D h w len r = true) (h2 : ∀ j, j < r → d_nx D h w len j = false) : l_X12_way_80 fu_N s x3 (Int32.ofNat w) x5 (-1) 0 = some (Int32.ofNat r) := by
  have hp4 := hv.1
  obtain ⟨y, hy, hQ⟩ := lp_inv (l := fun f σ k => l_X12_way_80 f s x3 (Int32.ofNat w) x5 σ (Int32.ofNat k)) (N := D 0 3) (fun k x => (x = -1 ∧ ∀ e, e < k → ¬ h (d_by D w e) = len) ∨ ∃ j, x = Int32.ofNat j ∧ j < 7 ∧ d_nx D h w len j = true ∧ ∀ e, e < k → h (d_by D w e) = len → j ≤ d_by D w e) (fun x => (x = -1 ∧ ∀ e, e < D 0 3 → ¬ h (d_by D w e) = len) ∨ ∃ j, x = Int32.ofNat j ∧ j < 7 ∧ d_nx D h w len j = true ∧ ∀ e, e < D 0 3 → h (d_by D w e) = len → j ≤ d_by D w e) (fun n k x hk hx => by
      have g0 := (dR_0 h0).1.1
      have e1 := r_bearerBy h0 hv hw hk
      have hb4 : d_by D w k < D 0 4 := d_by_lt hw
      have hb7 : d_by D w k < 7 := by omega
      have hw7 : w < 7 := by omega
      have e2 := hh _ hb7
      have e3 := hh _ hw7
      have hbb := hb (d_by D w k)
      have hbw := hb w
      have e4 : e_b (h w) - 1 = Int32.ofNat (len - 1) := by
        unfold e_b
        rw [if_neg (by omega), hle]
        exact i_sub (b := 1) (by omega)
      have e5 := e_b_eq (a := h (d_by D w k)) (v := len - 1) (by omega) (by omega)
      have hnx : h (d_by D w k) = len → d_nx D h w len (d_by D w k) = true := fun z => d_nx_iff.mpr ⟨hw, ⟨k, hk, rfl⟩, z⟩
      generalize hB : d_by D w k = B at *
      show ∃ y, l_X12_way_80 (n + 1) s x3 (Int32.ofNat w) x5 x (Int32.ofNat k) = l_X12_way_80 n s x3 (Int32.ofNat w) x5 y (Int32.ofNat (k + 1)) ∧ _
      by_cases hz : h B = len
      · have hz' : e_b (h B) = Int32.ofNat (len - 1) := e5.mpr (by omega)
        rcases hx with ⟨rfl, hx⟩ | ⟨j, rfl, j1, j2, j3⟩
        · refine ⟨Int32.ofNat B, ?_, .inr ⟨B, rfl, hb7, hnx hz, fun e he z => ?_⟩⟩
          · simp (maxSteps := 1000000) (disch := omega) only [ne_eq, i_lt0, i_le0, i_eq0, i_n1, i_ltl, i_lel, i_eql, i_lt, i_le, i_eq, i_in, i_tn, i_add, i_addl, i_addr, i_mul, i_mulr, i_mull, if_true, if_false, eq_self, decide_eq_true_eq, decide_true, decide_false, Option.bind_some, Option.bind_none, ↓fu_ltd, ↓reduceIte, ↓ob_ite, ↓ob_asc, Bool.false_eq_true, Bool.true_eq_false, not_true_eq_false, not_false_eq_true, Nat.not_lt_zero, Nat.le_zero_eq, Nat.reduceAdd, Nat.reduceMul, Nat.reduceSub, Nat.reduceEqDiff, Nat.reduceLT, Nat.reduceLeDiff, sC_def, sR_def, sC_1, sC_2, sR_1, sR_2, sC_st, sR_st, sR_no, sR_refuse, and_self, true_and, and_true, false_and, and_false, l_X12_way_80, g0, hk, e1, hb7, hw7, e2, e3, e4, hz', i_n1lt, i_add1]
          · by_cases e' : e = k
            · rw [e', hB]; exact Nat.le_refl _
            · exact absurd z (hx e (by omega))
        · by_cases hj : B < j
          · refine ⟨Int32.ofNat B, ?_, .inr ⟨B, rfl, hb7, hnx hz, fun e he z => ?_⟩⟩
            · simp (maxSteps := 1000000) (disch := omega) only [ne_eq, i_lt0, i_le0, i_eq0, i_n1, i_ltl, i_lel, i_eql, i_lt, i_le, i_eq, i_in, i_tn, i_add, i_addl, i_addr, i_mul, i_mulr, i_mull, if_true, if_false, eq_self, decide_eq_true_eq, decide_true, decide_false, Option.bind_some, Option.bind_none, ↓fu_ltd, ↓reduceIte, ↓ob_ite, ↓ob_asc, Bool.false_eq_true, Bool.true_eq_false, not_true_eq_false, not_false_eq_true, Nat.not_lt_zero, Nat.le_zero_eq, Nat.reduceAdd, Nat.reduceMul, Nat.reduceSub, Nat.reduceEqDiff, Nat.reduceLT, Nat.reduceLeDiff, sC_def, sR_def, sC_1, sC_2, sR_1, sR_2, sC_st, sR_st, sR_no, sR_refuse, and_self, true_and, and_true, false_and, and_false, l_X12_way_80, g0, hk, e1, hb7, hw7, e2, e3, e4, hz', hj, i_add1]
            · by_cases e' : e = k
              · rw [e', hB]; exact Nat.le_refl _
              · have := j3 e (by omega) z
                omega
          · refine ⟨Int32.ofNat j, ?_, .inr ⟨j, rfl, j1, j2, fun e he z => ?_⟩⟩
            · simp (maxSteps := 1000000) (disch := omega) only [ne_eq, i_lt0, i_le0, i_eq0, i_n1, i_ltl, i_lel, i_eql, i_lt, i_le, i_eq, i_in, i_tn, i_add, i_addl, i_addr, i_mul, i_mulr, i_mull, if_true, if_false, eq_self, decide_eq_true_eq, decide_true, decide_false, Option.bind_some, Option.bind_none, ↓fu_ltd, ↓reduceIte, ↓ob_ite, ↓ob_asc, Bool.false_eq_true, Bool.true_eq_false, not_true_eq_false, not_false_eq_true, Nat.not_lt_zero, Nat.le_zero_eq, Nat.reduceAdd, Nat.reduceMul, Nat.reduceSub, Nat.reduceEqDiff, Nat.reduceLT, Nat.reduceLeDiff, sC_def, sR_def, sC_1, sC_2, sR_1, sR_2, sC_st, sR_st, sR_no, sR_refuse, and_self, true_and, and_true, false_and, and_false, l_X12_way_80, g0, hk, e1, hb7, hw7, e2, e3, e4, hz', hj, i_add1]
            · by_cases e' : e = k
              · rw [e', hB]; omega
              · exact j3 e (by omega) z
      · have hz' : ¬ e_b (h B) = Int32.ofNat (len - 1) := fun z => hz (by have := e5.mp z; omega)
        refine ⟨x, ?_, ?_⟩
        · simp (maxSteps := 1000000) (disch := omega) only [ne_eq, i_lt0, i_le0, i_eq0, i_n1, i_ltl, i_lel, i_eql, i_lt, i_le, i_eq, i_in, i_tn, i_add, i_addl, i_addr, i_mul, i_mulr, i_mull, if_true, if_false, eq_self, decide_eq_true_eq, decide_true, decide_false, Option.bind_some, Option.bind_none, ↓fu_ltd, ↓reduceIte, ↓ob_ite, ↓ob_asc, Bool.false_eq_true, Bool.true_eq_false, not_true_eq_false, not_false_eq_true, Nat.not_lt_zero, Nat.le_zero_eq, Nat.reduceAdd, Nat.reduceMul, Nat.reduceSub, Nat.reduceEqDiff, Nat.reduceLT, Nat.reduceLeDiff, sC_def, sR_def, sC_1, sC_2, sR_1, sR_2, sC_st, sR_st, sR_no, sR_refuse, and_self, true_and, and_true, false_and, and_false, l_X12_way_80, g0, hk, e1, hb7, hw7, e2, e3, e4, hz', i_add1]
        · rcases hx with ⟨h3, hx⟩ | ⟨j, h3, j1, j2, j3⟩
          · refine .inl ⟨h3, fun e he => ?_⟩
            by_cases e' : e = k
            · rw [e', hB]; exact hz
            · exact hx e (by omega)
          · refine .inr ⟨j, h3, j1, j2, fun e he z => ?_⟩
            by_cases e' : e = k
            · rw [e', hB] at z; exact absurd z hz
            · exact j3 e (by omega) z) (fun n x hx => by
      have g0 := (dR_0 h0).1.1
      refine ⟨x, ?_, hx⟩
      show l_X12_way_80 (n + 1) s x3 (Int32.ofNat w) x5 x (Int32.ofNat (D 0 3)) = _
      simp (maxSteps := 1000000) (disch := omega) only [ne_eq, i_lt0, i_le0, i_eq0, i_n1, i_ltl, i_lel, i_eql, i_lt, i_le, i_eq, i_in, i_tn, i_add, i_addl, i_addr, i_mul, i_mulr, i_mull, if_true, if_false, eq_self, decide_eq_true_eq, decide_true, decide_false, Option.bind_some, Option.bind_none, ↓fu_ltd, ↓reduceIte, ↓ob_ite, ↓ob_asc, Bool.false_eq_true, Bool.true_eq_false, not_true_eq_false, not_false_eq_true, Nat.not_lt_zero, Nat.le_zero_eq, Nat.reduceAdd, Nat.reduceMul, Nat.reduceSub, Nat.reduceEqDiff, Nat.reduceLT, Nat.reduceLeDiff, sC_def, sR_def, sC_1, sC_2, sR_1, sR_2, sC_st, sR_st, sR_no, sR_refuse, and_self, true_and, and_true, false_and, and_false, l_X12_way_80, g0, Nat.lt_irrefl]) (f := fu_N) (k := 0) (x := -1) (by omega) (fu_N_gt (by omega)) (.inl ⟨rfl, fun e he => absurd he (by omega)⟩)
  have hy' : l_X12_way_80 fu_N s x3 (Int32.ofNat w) x5 (-1) 0 = some y := hy
  rw [hy']
  obtain ⟨y1, ⟨y2, y3, y4⟩, y5⟩ := d_nx_iff.mp h1
  rcases hQ with ⟨-, z⟩ | ⟨j, rfl, j1, j2, j3⟩
  · exact absurd (by rw [y4]; exact y5) (z y2 y3)
  · have a1 := j3 y2 y3 (by rw [y4]; exact y5)
    have a2 : ¬ j < r := fun z => by rw [h2 j z] at j2; exact Bool.noConfusion j2
    rw [show j = r by omega]
theorem r_wayL (h0 : dR s 0 D) (hv : dV D) (hn : d_near D h) (hp : p < D 0 4) (hh : ∀ r, r < 7 → s.1 126 r = e_b (h r)) (hb : ∀ r, h r ≤ 7) (hk : k + 1 ≤ h p) : l_X12_way_68 fu_N s (Int32.ofNat k) (Int32.ofNat p) 0 = some (Int32.ofNat (d_pth D h p k)) := by
  have hbp := hb p
  exact lp_up (l := fun f σ i => l_X12_way_68 f s (Int32.ofNat k) σ (Int32.ofNat i)) (N := k) (S := fun i => Int32.ofNat (d_pth D h p i)) (r := Int32.ofNat (d_pth D h p k)) (fun n i hi => by
      obtain ⟨⟨a1, a2⟩, a3⟩ := d_pth_ok hv hn hp (i := i) (by omega)
      obtain ⟨b1, b2, b3, b4⟩ := a3 (by omega)
      have e1 := r_wayK (x3 := Int32.ofNat k) (x5 := Int32.ofNat i) h0 hv a1 hh hb (len := h p - 1 - i) (by omega) (by omega) b1 b2
      show l_X12_way_68 (n + 1) s (Int32.ofNat k) (Int32.ofNat (d_pth D h p i)) (Int32.ofNat i) = l_X12_way_68 n s (Int32.ofNat k) (Int32.ofNat (d_pth D h p (i + 1))) (Int32.ofNat (i + 1))
      generalize d_pth D h p (i + 1) = B at *
      generalize d_pth D h p i = C at *
      simp (maxSteps := 1000000) (disch := omega) only [ne_eq, i_lt0, i_le0, i_eq0, i_n1, i_ltl, i_lel, i_eql, i_lt, i_le, i_eq, i_in, i_tn, i_add, i_addl, i_addr, i_mul, i_mulr, i_mull, if_true, if_false, eq_self, decide_eq_true_eq, decide_true, decide_false, Option.bind_some, Option.bind_none, ↓fu_ltd, ↓reduceIte, ↓ob_ite, ↓ob_asc, Bool.false_eq_true, Bool.true_eq_false, not_true_eq_false, not_false_eq_true, Nat.not_lt_zero, Nat.le_zero_eq, Nat.reduceAdd, Nat.reduceMul, Nat.reduceSub, Nat.reduceEqDiff, Nat.reduceLT, Nat.reduceLeDiff, sC_def, sR_def, sC_1, sC_2, sR_1, sR_2, sC_st, sR_st, sR_no, sR_refuse, and_self, true_and, and_true, false_and, and_false, l_X12_way_68, hi, e1, i_add1]) (fun n => by
      show l_X12_way_68 (n + 1) s (Int32.ofNat k) (Int32.ofNat (d_pth D h p k)) (Int32.ofNat k) = _
      simp (maxSteps := 1000000) (disch := omega) only [ne_eq, i_lt0, i_le0, i_eq0, i_n1, i_ltl, i_lel, i_eql, i_lt, i_le, i_eq, i_in, i_tn, i_add, i_addl, i_addr, i_mul, i_mulr, i_mull, if_true, if_false, eq_self, decide_eq_true_eq, decide_true, decide_false, Option.bind_some, Option.bind_none, ↓fu_ltd, ↓reduceIte, ↓ob_ite, ↓ob_asc, Bool.false_eq_true, Bool.true_eq_false, not_true_eq_false, not_false_eq_true, Nat.not_lt_zero, Nat.le_zero_eq, Nat.reduceAdd, Nat.reduceMul, Nat.reduceSub, Nat.reduceEqDiff, Nat.reduceLT, Nat.reduceLeDiff, sC_def, sR_def, sC_1, sC_2, sR_1, sR_2, sC_st, sR_st, sR_no, sR_refuse, and_self, true_and, and_true, false_and, and_false, l_X12_way_68, Nat.lt_irrefl]) (f := fu_N) (k := 0) (by omega) (fu_N_gt (by omega))
theorem c_wayL (hv : dV D) (hn : d_near D h) (hp : p < D 0 4) (hs : ∀ r, r < 7 → s.1 115 r = Int32.ofNat (d_kt D r)) (hh : ∀ r, r < 7 → s.1 116 r = e_b (h r)) (hb : ∀ r, h r ≤ 7) (hk : k + 1 ≤ h p) : l_X0_passedBy_28 fu_N s (Int32.ofNat k) (Int32.ofNat (h p - 1)) (Int32.ofNat p) 0 = some (Int32.ofNat (d_pth D h p k)) := by
  have hp4 := hv.1
  have hbp := hb p
  exact lp_up (l := fun f σ i => l_X0_passedBy_28 f s (Int32.ofNat k) (Int32.ofNat (h p - 1)) σ (Int32.ofNat i)) (N := k) (S := fun i => Int32.ofNat (d_pth D h p i)) (r := Int32.ofNat (d_pth D h p k)) (fun n i hi => by
      obtain ⟨⟨a1, a2⟩, a3⟩ := d_pth_ok hv hn hp (i := i) (by omega)
      obtain ⟨b1, b2, b3, b4⟩ := a3 (by omega)
      have hi2 : i < h p - 1 := by omega
      have hi3 : i ≤ h p - 1 := by omega
      have e1 := c_next1 hv hs hh hb (p := d_pth D h p i) (by omega) (len := h p - 1 - i) (by omega) (by omega) (r := d_pth D h p (i + 1)) (by omega) b1 b2
      show l_X0_passedBy_28 (n + 1) s (Int32.ofNat k) (Int32.ofNat (h p - 1)) (Int32.ofNat (d_pth D h p i)) (Int32.ofNat i) = l_X0_passedBy_28 n s (Int32.ofNat k) (Int32.ofNat (h p - 1)) (Int32.ofNat (d_pth D h p (i + 1))) (Int32.ofNat (i + 1))
      generalize d_pth D h p (i + 1) = B at *
      generalize d_pth D h p i = C at *
      simp (maxSteps := 1000000) (disch := omega) only [ne_eq, i_lt0, i_le0, i_eq0, i_n1, i_ltl, i_lel, i_eql, i_lt, i_le, i_eq, i_in, i_tn, i_add, i_addl, i_addr, i_mul, i_mulr, i_mull, if_true, if_false, eq_self, decide_eq_true_eq, decide_true, decide_false, Option.bind_some, Option.bind_none, ↓fu_ltd, ↓reduceIte, ↓ob_ite, ↓ob_asc, Bool.false_eq_true, Bool.true_eq_false, not_true_eq_false, not_false_eq_true, Nat.not_lt_zero, Nat.le_zero_eq, Nat.reduceAdd, Nat.reduceMul, Nat.reduceSub, Nat.reduceEqDiff, Nat.reduceLT, Nat.reduceLeDiff, sC_def, sR_def, sC_1, sC_2, sR_1, sR_2, sC_st, sR_st, sR_no, sR_refuse, and_self, true_and, and_true, false_and, and_false, l_X0_passedBy_28, hi, hi2, hi3, i_sub, e1, i_add1]) (fun n => by
      show l_X0_passedBy_28 (n + 1) s (Int32.ofNat k) (Int32.ofNat (h p - 1)) (Int32.ofNat (d_pth D h p k)) (Int32.ofNat k) = _
      simp (maxSteps := 1000000) (disch := omega) only [ne_eq, i_lt0, i_le0, i_eq0, i_n1, i_ltl, i_lel, i_eql, i_lt, i_le, i_eq, i_in, i_tn, i_add, i_addl, i_addr, i_mul, i_mulr, i_mull, if_true, if_false, eq_self, decide_eq_true_eq, decide_true, decide_false, Option.bind_some, Option.bind_none, ↓fu_ltd, ↓reduceIte, ↓ob_ite, ↓ob_asc, Bool.false_eq_true, Bool.true_eq_false, not_true_eq_false, not_false_eq_true, Nat.not_lt_zero, Nat.le_zero_eq, Nat.reduceAdd, Nat.reduceMul, Nat.reduceSub, Nat.reduceEqDiff, Nat.reduceLT, Nat.reduceLeDiff, sC_def, sR_def, sC_1, sC_2, sR_1, sR_2, sC_st, sR_st, sR_no, sR_refuse, and_self, true_and, and_true, false_and, and_false, l_X0_passedBy_28, Nat.lt_irrefl]) (f := fu_N) (k := 0) (by omega) (fu_N_gt (by omega))
end WAY
theorem e_b_of {a : Nat} (h : a ≠ 0) : e_b a = Int32.ofNat (a - 1) := if_neg h
theorem hd_37 : lw_E_37 dI := by
  intro s1 s2 hI a1 a2 a3
  obtain ⟨D, hv, hC, hR, -⟩ := dI_D hI
  have hp4 := hv.1
  have hr := fun x => dR_s (x := x) hv hR
  have ep := fun x y => r_isPerson (x := y) (hr x) hv
  by_cases h1 : ¬ a1 < 0 ∧ a1 < Int32.ofNat (D 0 4)
  · obtain ⟨p, hp, rfl⟩ := i_is (by omega) h1
    by_cases h2 : ¬ a2 < 0 ∧ a2 < Int32.ofNat (D 0 4)
    · obtain ⟨q, hq, rfl⟩ := i_is (by omega) h2
      have hq7 : q < 7 := by omega
      have hp7 : p < 7 := by omega
      obtain ⟨u, e1, e2, e3⟩ := c_laid (dC_s (x := 0) (by omega : (11 : Nat) ≠ 0) hC) hv (by omega) hq7
      have e4 := r_lay (hr 0) hv hq7
      have hb : ∀ r, d_hl D q 6 r ≤ 7 := fun r => d_hl_le r
      have hn : d_near D (d_hl D q 6) := d_near_l
      have hle := hb p
      have x1 : ∀ r, r < 7 → (wri u 116 7 (fun r => e_b (d_hl D q 6 r))).1 116 r = e_b (d_hl D q 6 r) := fun r hr => wri_r hr
      have x2 : ∀ r, r < 7 → (wri (sR s2 0) 126 7 (fun r => e_b (d_hl D q 6 r))).1 126 r = e_b (d_hl D q 6 r) := fun r hr => wri_r hr
      have x3 : ∀ r, r < 7 → (wri u 116 7 (fun r => e_b (d_hl D q 6 r))).1 115 r = Int32.ofNat (d_kt D r) := fun r hr => by
        rw [wri_n (by omega), e3]; exact wri_r hr
      have x4 := dR_w (f := fun r => e_b (d_hl D q 6 r)) (a := 126) (j := 7) (by omega) hv (hr 0)
      have hc1 : eqC s1 (wri u 116 7 (fun r => e_b (d_hl D q 6 r))) := by
        rw [e3]
        exact eqC_tr eqC_sC (eqC_tr (eqC_w (by omega)) (eqC_w (by omega)))
      have hr1 : eqR s2 (wri (sR s2 0) 126 7 (fun r => e_b (d_hl D q 6 r))) := eqR_tr eqR_sR (eqR_w (by omega))
      have y2 : (wri (sR s2 0) 126 7 (fun r => e_b (d_hl D q 6 r))).1 117 0 = 0 := by rw [wri_n (by omega), sR_st]
      generalize wri u 116 7 (fun r => e_b (d_hl D q 6 r)) = U at *
      generalize wri (sR s2 0) 126 7 (fun r => e_b (d_hl D q 6 r)) = V at *
      have x1p := x1 p hp7
      have x2p := x2 p hp7
      have hn1 := e_b_n1 (a := d_hl D q 6 p) (by omega)
      have fin : ∀ (h5 : ¬ d_hl D q 6 p = 0) (h6 : ¬ (¬ a3 < 0 ∧ a3 ≤ Int32.ofNat (d_hl D q 6 p - 1))), f_X11_way s1 (Int32.ofNat p) (Int32.ofNat q) a3 = some (-1, fu_pi U 0 15 8) ∧ f_X12_way s2 (Int32.ofNat p) (Int32.ofNat q) a3 = some (-1, fu_pi V 117 0 8) := by
        intro h5 h6
        have z3 := e_b_of h5
        rw [z3] at x1p x2p
        have z4 := r_isInN (x := a3) (n := d_hl D q 6 p - 1) (by omega)
        rw [← j_of (by omega), decide_eq_false h6] at z4
        constructor
        · by_cases h7 : a3 < 0
          · simp (maxSteps := 1000000) (disch := omega) only [ne_eq, i_lt0, i_le0, i_eq0, i_n1, i_ltl, i_lel, i_eql, i_lt, i_le, i_eq, i_in, i_tn, i_add, i_addl, i_addr, i_mul, i_mulr, i_mull, if_true, if_false, eq_self, decide_eq_true_eq, decide_true, decide_false, Option.bind_some, Option.bind_none, ↓fu_ltd, ↓reduceIte, ↓ob_ite, ↓ob_asc, Bool.false_eq_true, Bool.true_eq_false, not_true_eq_false, not_false_eq_true, Nat.not_lt_zero, Nat.le_zero_eq, Nat.reduceAdd, Nat.reduceMul, Nat.reduceSub, Nat.reduceEqDiff, Nat.reduceLT, Nat.reduceLeDiff, sC_def, sR_def, sC_1, sC_2, sR_1, sR_2, sC_st, sR_st, sR_no, sR_refuse, and_self, true_and, and_true, false_and, and_false, f_X11_way, f_X11_coupleStatus, c_hasPerson hC, hp, hq, hp7, e1, e2, f_X0_passedBy, f_X0_stepsFrom, x1p, h7]
            try rfl
          · have h8 : ¬ a3 ≤ Int32.ofNat (d_hl D q 6 p - 1) := fun z => h6 ⟨h7, z⟩
            simp (maxSteps := 1000000) (disch := omega) only [ne_eq, i_lt0, i_le0, i_eq0, i_n1, i_ltl, i_lel, i_eql, i_lt, i_le, i_eq, i_in, i_tn, i_add, i_addl, i_addr, i_mul, i_mulr, i_mull, if_true, if_false, eq_self, decide_eq_true_eq, decide_true, decide_false, Option.bind_some, Option.bind_none, ↓fu_ltd, ↓reduceIte, ↓ob_ite, ↓ob_asc, Bool.false_eq_true, Bool.true_eq_false, not_true_eq_false, not_false_eq_true, Nat.not_lt_zero, Nat.le_zero_eq, Nat.reduceAdd, Nat.reduceMul, Nat.reduceSub, Nat.reduceEqDiff, Nat.reduceLT, Nat.reduceLeDiff, sC_def, sR_def, sC_1, sC_2, sR_1, sR_2, sC_st, sR_st, sR_no, sR_refuse, and_self, true_and, and_true, false_and, and_false, f_X11_way, f_X11_coupleStatus, c_hasPerson hC, hp, hq, hp7, e1, e2, f_X0_passedBy, f_X0_stepsFrom, x1p, h7, h8]
            try rfl
        · simp (maxSteps := 1000000) (disch := omega) only [ne_eq, i_lt0, i_le0, i_eq0, i_n1, i_ltl, i_lel, i_eql, i_lt, i_le, i_eq, i_in, i_tn, i_add, i_addl, i_addr, i_mul, i_mulr, i_mull, if_true, if_false, eq_self, decide_eq_true_eq, decide_true, decide_false, Option.bind_some, Option.bind_none, ↓fu_ltd, ↓reduceIte, ↓ob_ite, ↓ob_asc, Bool.false_eq_true, Bool.true_eq_false, not_true_eq_false, not_false_eq_true, Nat.not_lt_zero, Nat.le_zero_eq, Nat.reduceAdd, Nat.reduceMul, Nat.reduceSub, Nat.reduceEqDiff, Nat.reduceLT, Nat.reduceLeDiff, sC_def, sR_def, sC_1, sC_2, sR_1, sR_2, sC_st, sR_st, sR_no, sR_refuse, and_self, true_and, and_true, false_and, and_false, f_X12_way, ep, hp, hq, hp7, e4, x2p, z4, f_X12_refuse]
          try rfl
      by_cases hz : d_hl D q 6 p = 0
      · have z2 := hn1.mpr hz
        have z5 : f_X12_isIn (Int32.toInt64 a3) (0 : Int64) (Int32.toInt64 (-1)) = false := by
          rw [r_isIn, decide_eq_false_iff_not]
          intro ⟨y1, y2⟩
          rw [show (0 : Int64) = Int32.toInt64 (0 : Int32) from rfl, l_lt] at y1
          rw [l_le] at y2
          rw [Int32.lt_iff_toInt_lt, show (0 : Int32).toInt = 0 from rfl] at y1
          rw [Int32.le_iff_toInt_le, show (-1 : Int32).toInt = -1 from rfl] at y2
          omega
        refine ⟨-1, fu_pi U 0 15 8, fu_pi V 117 0 8, ?_, ?_, dI_eq hI (eqC_tr hc1 eqC_st) (eqR_tr hr1 (eqR_st (by omega) (by omega) (by omega) (by omega) (by omega))) (p1.trans p1.symm)⟩
        · simp (maxSteps := 1000000) (disch := omega) only [ne_eq, i_lt0, i_le0, i_eq0, i_n1, i_ltl, i_lel, i_eql, i_lt, i_le, i_eq, i_in, i_tn, i_add, i_addl, i_addr, i_mul, i_mulr, i_mull, if_true, if_false, eq_self, decide_eq_true_eq, decide_true, decide_false, Option.bind_some, Option.bind_none, ↓fu_ltd, ↓reduceIte, ↓ob_ite, ↓ob_asc, Bool.false_eq_true, Bool.true_eq_false, not_true_eq_false, not_false_eq_true, Nat.not_lt_zero, Nat.le_zero_eq, Nat.reduceAdd, Nat.reduceMul, Nat.reduceSub, Nat.reduceEqDiff, Nat.reduceLT, Nat.reduceLeDiff, sC_def, sR_def, sC_1, sC_2, sR_1, sR_2, sC_st, sR_st, sR_no, sR_refuse, and_self, true_and, and_true, false_and, and_false, f_X11_way, f_X11_coupleStatus, c_hasPerson hC, hp, hq, hp7, e1, e2, f_X0_passedBy, f_X0_stepsFrom, x1p, z2]
          try rfl
        · simp (maxSteps := 1000000) (disch := omega) only [ne_eq, i_lt0, i_le0, i_eq0, i_n1, i_ltl, i_lel, i_eql, i_lt, i_le, i_eq, i_in, i_tn, i_add, i_addl, i_addr, i_mul, i_mulr, i_mull, if_true, if_false, eq_self, decide_eq_true_eq, decide_true, decide_false, Option.bind_some, Option.bind_none, ↓fu_ltd, ↓reduceIte, ↓ob_ite, ↓ob_asc, Bool.false_eq_true, Bool.true_eq_false, not_true_eq_false, not_false_eq_true, Nat.not_lt_zero, Nat.le_zero_eq, Nat.reduceAdd, Nat.reduceMul, Nat.reduceSub, Nat.reduceEqDiff, Nat.reduceLT, Nat.reduceLeDiff, sC_def, sR_def, sC_1, sC_2, sR_1, sR_2, sC_st, sR_st, sR_no, sR_refuse, and_self, true_and, and_true, false_and, and_false, f_X12_way, ep, hp, hq, hp7, e4, x2p, z2, z5, f_X12_refuse]
          try rfl
      · by_cases h6 : ¬ a3 < 0 ∧ a3 ≤ Int32.ofNat (d_hl D q 6 p - 1)
        · obtain ⟨k, hk, rfl⟩ := i_upto (by omega) h6
          have z3 := e_b_of hz
          rw [z3] at x1p x2p
          have z4 := r_isInN (x := Int32.ofNat k) (n := d_hl D q 6 p - 1) (by omega)
          rw [← j_of (by omega), decide_eq_true h6] at z4
          have e5 := c_wayL (s := U) hv hn hp x3 x1 hb (k := k) (by omega)
          have e6 := r_wayL (s := V) x4 hv hn hp x2 hb (k := k) (by omega)
          have hpl := (d_pth_ok hv hn hp (i := k) (by omega)).1.1
          generalize d_pth D (d_hl D q 6) p k = B at *
          refine ⟨Int32.ofNat B, fu_pi U 0 15 0, V, ?_, ?_, dI_eq hI (eqC_tr hc1 eqC_st) hr1 (p1.trans y2.symm)⟩
          · simp (maxSteps := 1000000) (disch := omega) only [ne_eq, i_lt0, i_le0, i_eq0, i_n1, i_ltl, i_lel, i_eql, i_lt, i_le, i_eq, i_in, i_tn, i_add, i_addl, i_addr, i_mul, i_mulr, i_mull, if_true, if_false, eq_self, decide_eq_true_eq, decide_true, decide_false, Option.bind_some, Option.bind_none, ↓fu_ltd, ↓reduceIte, ↓ob_ite, ↓ob_asc, Bool.false_eq_true, Bool.true_eq_false, not_true_eq_false, not_false_eq_true, Nat.not_lt_zero, Nat.le_zero_eq, Nat.reduceAdd, Nat.reduceMul, Nat.reduceSub, Nat.reduceEqDiff, Nat.reduceLT, Nat.reduceLeDiff, sC_def, sR_def, sC_1, sC_2, sR_1, sR_2, sC_st, sR_st, sR_no, sR_refuse, and_self, true_and, and_true, false_and, and_false, f_X11_way, f_X11_coupleStatus, c_hasPerson hC, hp, hq, hp7, e1, e2, f_X0_passedBy, f_X0_stepsFrom, x1p, hk, e5]
            try rfl
          · simp (maxSteps := 1000000) (disch := omega) only [ne_eq, i_lt0, i_le0, i_eq0, i_n1, i_ltl, i_lel, i_eql, i_lt, i_le, i_eq, i_in, i_tn, i_add, i_addl, i_addr, i_mul, i_mulr, i_mull, if_true, if_false, eq_self, decide_eq_true_eq, decide_true, decide_false, Option.bind_some, Option.bind_none, ↓fu_ltd, ↓reduceIte, ↓ob_ite, ↓ob_asc, Bool.false_eq_true, Bool.true_eq_false, not_true_eq_false, not_false_eq_true, Nat.not_lt_zero, Nat.le_zero_eq, Nat.reduceAdd, Nat.reduceMul, Nat.reduceSub, Nat.reduceEqDiff, Nat.reduceLT, Nat.reduceLeDiff, sC_def, sR_def, sC_1, sC_2, sR_1, sR_2, sC_st, sR_st, sR_no, sR_refuse, and_self, true_and, and_true, false_and, and_false, f_X12_way, ep, hp, hq, hp7, e4, x2p, z4, e6]
            try rfl
        · obtain ⟨w1, w2⟩ := fin hz h6
          exact ⟨-1, fu_pi U 0 15 8, fu_pi V 117 0 8, w1, w2, dI_eq hI (eqC_tr hc1 eqC_st) (eqR_tr hr1 (eqR_st (by omega) (by omega) (by omega) (by omega) (by omega))) (p1.trans p1.symm)⟩
    · refine ⟨-1, sC s1 2, sR s2 2, ?_, ?_, dI_s hI⟩
      · simp (maxSteps := 1000000) (disch := omega) only [ne_eq, i_lt0, i_le0, i_eq0, i_n1, i_ltl, i_lel, i_eql, i_lt, i_le, i_eq, i_in, i_tn, i_add, i_addl, i_addr, i_mul, i_mulr, i_mull, if_true, if_false, eq_self, decide_eq_true_eq, decide_true, decide_false, Option.bind_some, Option.bind_none, ↓fu_ltd, ↓reduceIte, ↓ob_ite, ↓ob_asc, Bool.false_eq_true, Bool.true_eq_false, not_true_eq_false, not_false_eq_true, Nat.not_lt_zero, Nat.le_zero_eq, Nat.reduceAdd, Nat.reduceMul, Nat.reduceSub, Nat.reduceEqDiff, Nat.reduceLT, Nat.reduceLeDiff, sC_def, sR_def, sC_1, sC_2, sR_1, sR_2, sC_st, sR_st, sR_no, sR_refuse, and_self, true_and, and_true, false_and, and_false, f_X11_way, f_X11_coupleStatus, c_hasPerson hC, hp, h2]
        try rfl
      · simp (maxSteps := 1000000) (disch := omega) only [ne_eq, i_lt0, i_le0, i_eq0, i_n1, i_ltl, i_lel, i_eql, i_lt, i_le, i_eq, i_in, i_tn, i_add, i_addl, i_addr, i_mul, i_mulr, i_mull, if_true, if_false, eq_self, decide_eq_true_eq, decide_true, decide_false, Option.bind_some, Option.bind_none, ↓fu_ltd, ↓reduceIte, ↓ob_ite, ↓ob_asc, Bool.false_eq_true, Bool.true_eq_false, not_true_eq_false, not_false_eq_true, Nat.not_lt_zero, Nat.le_zero_eq, Nat.reduceAdd, Nat.reduceMul, Nat.reduceSub, Nat.reduceEqDiff, Nat.reduceLT, Nat.reduceLeDiff, sC_def, sR_def, sC_1, sC_2, sR_1, sR_2, sC_st, sR_st, sR_no, sR_refuse, and_self, true_and, and_true, false_and, and_false, f_X12_way, ep, hp, h2]
  · refine ⟨-1, sC s1 2, sR s2 2, ?_, ?_, dI_s hI⟩
    · simp (maxSteps := 1000000) (disch := omega) only [ne_eq, i_lt0, i_le0, i_eq0, i_n1, i_ltl, i_lel, i_eql, i_lt, i_le, i_eq, i_in, i_tn, i_add, i_addl, i_addr, i_mul, i_mulr, i_mull, if_true, if_false, eq_self, decide_eq_true_eq, decide_true, decide_false, Option.bind_some, Option.bind_none, ↓fu_ltd, ↓reduceIte, ↓ob_ite, ↓ob_asc, Bool.false_eq_true, Bool.true_eq_false, not_true_eq_false, not_false_eq_true, Nat.not_lt_zero, Nat.le_zero_eq, Nat.reduceAdd, Nat.reduceMul, Nat.reduceSub, Nat.reduceEqDiff, Nat.reduceLT, Nat.reduceLeDiff, sC_def, sR_def, sC_1, sC_2, sR_1, sR_2, sC_st, sR_st, sR_no, sR_refuse, and_self, true_and, and_true, false_and, and_false, f_X11_way, f_X11_coupleStatus, c_hasPerson hC, h1]
      try rfl
    · simp (maxSteps := 1000000) (disch := omega) only [ne_eq, i_lt0, i_le0, i_eq0, i_n1, i_ltl, i_lel, i_eql, i_lt, i_le, i_eq, i_in, i_tn, i_add, i_addl, i_addr, i_mul, i_mulr, i_mull, if_true, if_false, eq_self, decide_eq_true_eq, decide_true, decide_false, Option.bind_some, Option.bind_none, ↓fu_ltd, ↓reduceIte, ↓ob_ite, ↓ob_asc, Bool.false_eq_true, Bool.true_eq_false, not_true_eq_false, not_false_eq_true, Nat.not_lt_zero, Nat.le_zero_eq, Nat.reduceAdd, Nat.reduceMul, Nat.reduceSub, Nat.reduceEqDiff, Nat.reduceLT, Nat.reduceLeDiff, sC_def, sR_def, sC_1, sC_2, sR_1, sR_2, sC_st, sR_st, sR_no, sR_refuse, and_self, true_and, and_true, false_and, and_false, f_X12_way, ep, h1]
