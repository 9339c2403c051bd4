/-! hands -/
def d_kf (D : dD) (p : Nat) : Nat := d_or (fun k => 2 ^ d_by D p k) (D 0 3)
def d_kt (D : dD) (p : Nat) : Nat := if p < D 0 4 then d_kf D p else 0
theorem d_or_bit {f : Nat → Nat} {i : Nat} : ∀ {n}, (d_or f n).testBit i = true ↔ ∃ k, k < n ∧ (f k).testBit i = true
  | 0 => by simp [d_or]
  | n + 1 => by
    rw [d_or_s, Nat.testBit_or, Bool.or_eq_true, d_or_bit]
    constructor
    · rintro (⟨k, hk, h⟩ | h)
      · exact ⟨k, by omega, h⟩
      · exact ⟨n, by omega, h⟩
    · rintro ⟨k, hk, h⟩
      by_cases e : k = n
      · rw [← e]; exact .inr h
      · exact .inl ⟨k, by omega, h⟩
theorem d_kt_bit {D : dD} {p r : Nat} : (d_kt D p).testBit r = true ↔ p < D 0 4 ∧ ∃ k, k < D 0 3 ∧ d_by D p k = r := by
  unfold d_kt d_kf
  by_cases h : p < D 0 4
  · rw [if_pos h, d_or_bit]
    constructor
    · rintro ⟨k, hk, h2⟩
      rw [Nat.testBit_two_pow, decide_eq_true_eq] at h2
      exact ⟨h, k, hk, h2⟩
    · rintro ⟨-, k, hk, h2⟩
      refine ⟨k, hk, ?_⟩
      rw [Nat.testBit_two_pow, decide_eq_true_eq]
      exact h2
  · rw [if_neg h]
    simp [h]
theorem d_kt_lt {D : dD} {p : Nat} (hv : dV D) : d_kt D p < 128 := by
  have hp4 := hv.1
  unfold d_kt d_kf
  split
  · refine d_or_lt (m := 7) fun k _ => ?_
    have := d_by_lt (D := D) (o := p) (k := k) (by assumption)
    exact Nat.pow_lt_pow_right (by omega) (by omega)
  · omega
section HND
variable {s : fu_S} {P : Nat} {D : dD} {t p q o k b A n len : Nat} {h h' : Nat → Nat}
theorem c_draw (hp : p < 7) (hb : b < 7) (hA : s.1 115 p = Int32.ofNat A) : f_X0_draw s (Int32.ofNat p) (Int32.ofNat b) = some (fu_pi s 115 p (Int32.ofNat (A ||| 2 ^ b))) := by
  simp (maxSteps := 1000000) (disch := omega) only [ne_eq, i_lt0, i_le0, i_eq0, i_n1, i_ltl, i_lel, i_eql, i_lt, i_le, i_eq, i_in, i_tn, i_add, i_addl, i_addr, i_mul, i_mulr, i_mull, if_true, if_false, eq_self, decide_eq_true_eq, decide_true, decide_false, Option.bind_some, Option.bind_none, ↓fu_ltd, ↓reduceIte, ↓ob_ite, ↓ob_asc, Bool.false_eq_true, Bool.true_eq_false, not_true_eq_false, not_false_eq_true, Nat.not_lt_zero, Nat.le_zero_eq, Nat.reduceAdd, Nat.reduceMul, Nat.reduceSub, Nat.reduceEqDiff, Nat.reduceLT, Nat.reduceLeDiff, sC_def, sR_def, sC_1, sC_2, sR_1, sR_2, sC_st, sR_st, sR_no, sR_refuse, and_self, true_and, and_true, false_and, and_false, f_X0_draw, hp, hb, hA, i_shl, i_or]
def d_k1 (D : dD) (p k r : Nat) : Nat := if r < p then d_kf D r else if r = p then d_or (fun k => 2 ^ d_by D p k) k else 0
theorem c_drawK1 (h : dC s P D) (hv : dV D) (hP : P + 13 ≤ 115) (hp : p < D 0 4) : l_X0_drawKinds_16 fu_N (wri s 115 7 (fun r => Int32.ofNat (d_k1 D p 0 r))) P (Int32.ofNat p) 0 = some (wri s 115 7 (fun r => Int32.ofNat (d_k1 D p (D 0 3) r))) := by
  have hp4 := hv.1
  exact lp_up (l := fun f σ k => l_X0_drawKinds_16 f σ P (Int32.ofNat p) (Int32.ofNat k)) (N := D 0 3) (S := fun k => wri s 115 7 (fun r => Int32.ofNat (d_k1 D p k r))) (r := wri s 115 7 (fun r => Int32.ofNat (d_k1 D p (D 0 3) r))) (fun n k hk => by
      have hC := dC_w (f := fun r => Int32.ofNat (d_k1 D p k r)) (j := 7) hP h
      have e0 := hC.1.2.2.2.1
      have e1 := c_bearerBy hC hv hp hk
      have hb : d_by D p k < D 0 4 := d_by_lt hp
      have hp7 : p < 7 := by omega
      have e2 := c_draw (s := wri s 115 7 (fun r => Int32.ofNat (d_k1 D p k r))) (b := d_by D p k) hp7 (by omega) (wri_r hp7)
      have e3 : fu_pi (wri s 115 7 (fun r => Int32.ofNat (d_k1 D p k r))) 115 p (Int32.ofNat (d_k1 D p k p ||| 2 ^ d_by D p k)) = wri s 115 7 (fun r => Int32.ofNat (d_k1 D p (k + 1) r)) := by
        rw [wri_u hp7]
        refine wri_c fun r _ => ?_
        unfold d_k1
        by_cases e : r = p
        · rw [if_pos e, e, if_neg (by omega), if_pos rfl, if_neg (by omega), if_pos rfl, d_or_s]
        · rw [if_neg e]
          by_cases e' : r < p
          · rw [if_pos e', if_pos e']
          · rw [if_neg e', if_neg e', if_neg e, if_neg e]
      rw [e3] at e2
      show l_X0_drawKinds_16 (n + 1) (wri s 115 7 (fun r => Int32.ofNat (d_k1 D p k r))) P (Int32.ofNat p) (Int32.ofNat k) = l_X0_drawKinds_16 n (wri s 115 7 (fun r => Int32.ofNat (d_k1 D p (k + 1) r))) P (Int32.ofNat p) (Int32.ofNat (k + 1))
      generalize wri s 115 7 (fun r => Int32.ofNat (d_k1 D p k r)) = u at *
      generalize wri s 115 7 (fun r => Int32.ofNat (d_k1 D p (k + 1) r)) = v at *
      simp (maxSteps := 1000000) (disch := omega) only [ne_eq, i_lt0, i_le0, i_eq0, i_n1, i_ltl, i_lel, i_eql, i_lt, i_le, i_eq, i_in, i_tn, i_add, i_addl, i_addr, i_mul, i_mulr, i_mull, if_true, if_false, eq_self, decide_eq_true_eq, decide_true, decide_false, Option.bind_some, Option.bind_none, ↓fu_ltd, ↓reduceIte, ↓ob_ite, ↓ob_asc, Bool.false_eq_true, Bool.true_eq_false, not_true_eq_false, not_false_eq_true, Nat.not_lt_zero, Nat.le_zero_eq, Nat.reduceAdd, Nat.reduceMul, Nat.reduceSub, Nat.reduceEqDiff, Nat.reduceLT, Nat.reduceLeDiff, sC_def, sR_def, sC_1, sC_2, sR_1, sR_2, sC_st, sR_st, sR_no, sR_refuse, and_self, true_and, and_true, false_and, and_false, l_X0_drawKinds_16, f_X4_kinds, e0, hk, e1, e2, i_add1]) (fun n => by
      have e0 := (dC_w (f := fun r => Int32.ofNat (d_k1 D p (D 0 3) r)) (j := 7) hP h).1.2.2.2.1
      show l_X0_drawKinds_16 (n + 1) (wri s 115 7 (fun r => Int32.ofNat (d_k1 D p (D 0 3) r))) P (Int32.ofNat p) (Int32.ofNat (D 0 3)) = _
      generalize wri s 115 7 (fun r => Int32.ofNat (d_k1 D p (D 0 3) r)) = v at *
      simp (maxSteps := 1000000) (disch := omega) only [ne_eq, i_lt0, i_le0, i_eq0, i_n1, i_ltl, i_lel, i_eql, i_lt, i_le, i_eq, i_in, i_tn, i_add, i_addl, i_addr, i_mul, i_mulr, i_mull, if_true, if_false, eq_self, decide_eq_true_eq, decide_true, decide_false, Option.bind_some, Option.bind_none, ↓fu_ltd, ↓reduceIte, ↓ob_ite, ↓ob_asc, Bool.false_eq_true, Bool.true_eq_false, not_true_eq_false, not_false_eq_true, Nat.not_lt_zero, Nat.le_zero_eq, Nat.reduceAdd, Nat.reduceMul, Nat.reduceSub, Nat.reduceEqDiff, Nat.reduceLT, Nat.reduceLeDiff, sC_def, sR_def, sC_1, sC_2, sR_1, sR_2, sC_st, sR_st, sR_no, sR_refuse, and_self, true_and, and_true, false_and, and_false, l_X0_drawKinds_16, f_X4_kinds, e0, Nat.lt_irrefl]) (f := fu_N) (k := 0) (by omega) (fu_N_gt (by omega))
theorem c_drawK (h : dC s P D) (hv : dV D) (hP : P + 13 ≤ 115) : f_X0_drawKinds s P = some (wri s 115 7 (fun r => Int32.ofNat (d_kt D r))) := by
  have hp4 := hv.1
  have z0 : wri s 115 7 (fun r => Int32.ofNat (d_k1 D 0 0 r)) = wri s 115 7 (fun _ => 0) := wri_c fun r _ => by
    unfold d_k1
    rw [if_neg (by omega)]
    by_cases e : r = 0
    · rw [if_pos e]; rfl
    · rw [if_neg e]; rfl
  have hL := lp_up (l := fun f σ k => l_X0_drawKinds_6 f σ P (Int32.ofNat k)) (N := D 0 4) (S := fun p => wri s 115 7 (fun r => Int32.ofNat (d_k1 D p 0 r))) (r := wri s 115 7 (fun r => Int32.ofNat (d_kt D r))) (fun n k hk => by
      have e0 := (dC_w (f := fun r => Int32.ofNat (d_k1 D k 0 r)) (j := 7) hP h).1.2.2.2.2.1
      have e1 := c_drawK1 h hv hP hk
      have e2 : wri s 115 7 (fun r => Int32.ofNat (d_k1 D k (D 0 3) r)) = wri s 115 7 (fun r => Int32.ofNat (d_k1 D (k + 1) 0 r)) := wri_c fun r _ => by
        unfold d_k1
        by_cases e : r < k
        · rw [if_pos e, if_pos (by omega)]
        · rw [if_neg e]
          by_cases e' : r = k
          · rw [if_pos e', if_pos (by omega), e']; rfl
          · rw [if_neg e', if_neg (by omega)]
            by_cases e2 : r = k + 1
            · rw [if_pos e2]; rfl
            · rw [if_neg e2]
      rw [e2] at e1
      show l_X0_drawKinds_6 (n + 1) (wri s 115 7 (fun r => Int32.ofNat (d_k1 D k 0 r))) P (Int32.ofNat k) = l_X0_drawKinds_6 n (wri s 115 7 (fun r => Int32.ofNat (d_k1 D (k + 1) 0 r))) P (Int32.ofNat (k + 1))
      generalize wri s 115 7 (fun r => Int32.ofNat (d_k1 D k 0 r)) = u at *
      generalize wri s 115 7 (fun r => Int32.ofNat (d_k1 D (k + 1) 0 r)) = v at *
      simp (maxSteps := 1000000) (disch := omega) only [ne_eq, i_lt0, i_le0, i_eq0, i_n1, i_ltl, i_lel, i_eql, i_lt, i_le, i_eq, i_in, i_tn, i_add, i_addl, i_addr, i_mul, i_mulr, i_mull, if_true, if_false, eq_self, decide_eq_true_eq, decide_true, decide_false, Option.bind_some, Option.bind_none, ↓fu_ltd, ↓reduceIte, ↓ob_ite, ↓ob_asc, Bool.false_eq_true, Bool.true_eq_false, not_true_eq_false, not_false_eq_true, Nat.not_lt_zero, Nat.le_zero_eq, Nat.reduceAdd, Nat.reduceMul, Nat.reduceSub, Nat.reduceEqDiff, Nat.reduceLT, Nat.reduceLeDiff, sC_def, sR_def, sC_1, sC_2, sR_1, sR_2, sC_st, sR_st, sR_no, sR_refuse, and_self, true_and, and_true, false_and, and_false, l_X0_drawKinds_6, f_X4_people, e0, hk, e1, i_add1]) (fun n => by
      have e0 := (dC_w (f := fun r => Int32.ofNat (d_k1 D (D 0 4) 0 r)) (j := 7) hP h).1.2.2.2.2.1
      have e2 : wri s 115 7 (fun r => Int32.ofNat (d_k1 D (D 0 4) 0 r)) = wri s 115 7 (fun r => Int32.ofNat (d_kt D r)) := wri_c fun r _ => by
        unfold d_k1 d_kt
        by_cases e : r < D 0 4
        · rw [if_pos e, if_pos e]
        · rw [if_neg e, if_neg e]
          by_cases e2 : r = D 0 4
          · rw [if_pos e2]; rfl
          · rw [if_neg e2]
      show l_X0_drawKinds_6 (n + 1) (wri s 115 7 (fun r => Int32.ofNat (d_k1 D (D 0 4) 0 r))) P (Int32.ofNat (D 0 4)) = _
      rw [← e2]
      generalize wri s 115 7 (fun r => Int32.ofNat (d_k1 D (D 0 4) 0 r)) = v at *
      simp (maxSteps := 1000000) (disch := omega) only [ne_eq, i_lt0, i_le0, i_eq0, i_n1, i_ltl, i_lel, i_eql, i_lt, i_le, i_eq, i_in, i_tn, i_add, i_addl, i_addr, i_mul, i_mulr, i_mull, if_true, if_false, eq_self, decide_eq_true_eq, decide_true, decide_false, Option.bind_some, Option.bind_none, ↓fu_ltd, ↓reduceIte, ↓ob_ite, ↓ob_asc, Bool.false_eq_true, Bool.true_eq_false, not_true_eq_false, not_false_eq_true, Nat.not_lt_zero, Nat.le_zero_eq, Nat.reduceAdd, Nat.reduceMul, Nat.reduceSub, Nat.reduceEqDiff, Nat.reduceLT, Nat.reduceLeDiff, sC_def, sR_def, sC_1, sC_2, sR_1, sR_2, sC_st, sR_st, sR_no, sR_refuse, and_self, true_and, and_true, false_and, and_false, l_X0_drawKinds_6, f_X4_people, e0, Nat.lt_irrefl]) (f := fu_N) (k := 0) (by omega) (fu_N_gt (by omega))
  rw [z0] at hL
  have hL' : l_X0_drawKinds_6 fu_N (wri s 115 7 (fun _ => 0)) P 0 = _ := hL
  simp (maxSteps := 1000000) (disch := omega) only [ne_eq, i_lt0, i_le0, i_eq0, i_n1, i_ltl, i_lel, i_eql, i_lt, i_le, i_eq, i_in, i_tn, i_add, i_addl, i_addr, i_mul, i_mulr, i_mull, if_true, if_false, eq_self, decide_eq_true_eq, decide_true, decide_false, Option.bind_some, Option.bind_none, ↓fu_ltd, ↓reduceIte, ↓ob_ite, ↓ob_asc, Bool.false_eq_true, Bool.true_eq_false, not_true_eq_false, not_false_eq_true, Nat.not_lt_zero, Nat.le_zero_eq, Nat.reduceAdd, Nat.reduceMul, Nat.reduceSub, Nat.reduceEqDiff, Nat.reduceLT, Nat.reduceLeDiff, sC_def, sR_def, sC_1, sC_2, sR_1, sR_2, sC_st, sR_st, sR_no, sR_refuse, and_self, true_and, and_true, false_and, and_false, f_X0_drawKinds, c_clear, hL']
/-! how far one is -/
theorem e_b_eq {a v : Nat} (ha : a < 2147483648) (hv : v + 1 < 2147483648) : (e_b a = Int32.ofNat v) ↔ a = v + 1 := by
  unfold e_b
  by_cases h : a = 0
  · rw [if_pos h]
    constructor
    · intro z
      exact ((i_n1 (a := v) (by omega)).mp z.symm).elim
    · intro z; omega
  · rw [if_neg h, i_eq (by omega) (by omega)]
    omega
theorem e_b_n1 {a : Nat} (ha : a < 2147483648) : (e_b a = -1) ↔ a = 0 := by
  unfold e_b
  by_cases h : a = 0
  · rw [if_pos h]; exact ⟨fun _ => h, fun _ => rfl⟩
  · rw [if_neg h, i_n1 (by omega)]; exact ⟨False.elim, fun z => h z⟩
/-- whether an arrow goes from p to one whose code is len -/
def d_has (D : dD) (h : Nat → Nat) (p len : Nat) : Bool := !d_allb (fun k => !decide (h (d_by D p k) = len)) (D 0 3)
theorem d_has_iff : d_has D h p len = true ↔ ∃ k, k < D 0 3 ∧ h (d_by D p k) = len := by
  unfold d_has
  rw [Bool.not_eq_true', ← Bool.not_eq_true, d_allb_iff]
  constructor
  · intro z
    refine Classical.byContradiction fun w => z fun k hk => ?_
    rw [Bool.not_eq_true', decide_eq_false_iff_not]
    exact fun y => w ⟨k, hk, y⟩
  · rintro ⟨k, hk, y⟩ z
    have := z k hk
    rw [Bool.not_eq_true', decide_eq_false_iff_not] at this
    exact this y
def d_hu (D : dD) (len p : Nat) (h : Nat → Nat) : Nat → Nat := fun r => if r = p ∧ p < D 0 4 ∧ h p = 0 ∧ d_has D h p len = true then len + 1 else h r
def d_hp (D : dD) (len : Nat) (h : Nat → Nat) : Nat → Nat → Nat
  | 0 => h
  | p + 1 => d_hu D len p (d_hp D len h p)
def d_hl (D : dD) (q : Nat) : Nat → Nat → Nat
  | 0 => fun r => if r = q then 1 else 0
  | l + 1 => d_hp D (l + 1) (d_hl D q l) (D 0 4)
theorem d_hp_ext : ∀ {j}, d_hp D len h (D 0 4 + j) = d_hp D len h (D 0 4)
  | 0 => rfl
  | j + 1 => by
    have ih := d_hp_ext (j := j)
    rw [← ih]
    show d_hu D len (D 0 4 + j) (d_hp D len h (D 0 4 + j)) = _
    funext r
    unfold d_hu
    rw [if_neg (by omega)]
theorem d_hp_le {B : Nat} (hB : ∀ r, h r ≤ B) (hl : len + 1 ≤ B) : ∀ {p} r, d_hp D len h p r ≤ B
  | 0, r => hB r
  | p + 1, r => by
    show d_hu D len p (d_hp D len h p) r ≤ B
    unfold d_hu
    split
    · exact hl
    · exact d_hp_le hB hl r
theorem d_hl_le : ∀ {l} r, d_hl D q l r ≤ l + 1
  | 0, r => by
    show (if r = q then 1 else 0) ≤ 1
    split <;> omega
  | l + 1, r => d_hp_le (fun r => by have := d_hl_le (l := l) r; omega) (by omega) r
/-- each has one that is nearer -/
def d_near (D : dD) (h : Nat → Nat) : Prop := ∀ p, p < D 0 4 → 2 ≤ h p → ∃ k, k < D 0 3 ∧ h (d_by D p k) = h p - 1
theorem d_near_u (hl : 1 ≤ len) (hn : d_near D h) : d_near D (d_hu D len p h) := by
  intro w hw h2
  unfold d_hu at h2 ⊢
  by_cases hc : p < D 0 4 ∧ h p = 0 ∧ d_has D h p len = true
  · by_cases e : w = p
    · obtain ⟨k, hk, hk2⟩ := d_has_iff.mp hc.2.2
      refine ⟨k, hk, ?_⟩
      have hne : ¬ d_by D w k = p := by
        intro z
        rw [e] at z
        rw [z, hc.2.1] at hk2
        omega
      rw [if_neg (fun z => hne z.1), if_pos ⟨e, hc⟩, e, hk2]
      omega
    · rw [if_neg (fun z => e z.1)] at h2
      obtain ⟨k, hk, hk2⟩ := hn w hw h2
      refine ⟨k, hk, ?_⟩
      have hne : ¬ d_by D w k = p := by
        intro z
        rw [z, hc.2.1] at hk2
        omega
      rw [if_neg (fun z => hne z.1), if_neg (fun z => e z.1), hk2]
  · rw [if_neg (fun z => hc z.2)] at h2
    obtain ⟨k, hk, hk2⟩ := hn w hw h2
    refine ⟨k, hk, ?_⟩
    rw [if_neg (fun z => hc z.2), if_neg (fun z => hc z.2), hk2]
theorem d_near_p (hl : 1 ≤ len) (hn : d_near D h) : ∀ {p}, d_near D (d_hp D len h p)
  | 0 => hn
  | p + 1 => d_near_u hl (d_near_p hl hn)
theorem d_near_l : ∀ {l}, d_near D (d_hl D q l)
  | 0 => by
    intro p _ h2
    have : d_hl D q 0 p ≤ 1 := d_hl_le p
    omega
  | l + 1 => d_near_p (by omega) d_near_l
/-- whether r is a next one -/
def d_nx (D : dD) (h : Nat → Nat) (p len r : Nat) : Bool := (d_kt D p).testBit r && decide (h r = len)
theorem d_nx_iff {r : Nat} : d_nx D h p len r = true ↔ p < D 0 4 ∧ (∃ k, k < D 0 3 ∧ d_by D p k = r) ∧ h r = len := by
  unfold d_nx
  rw [Bool.and_eq_true, d_kt_bit, decide_eq_true_eq]
  exact ⟨fun z => ⟨z.1.1, z.1.2, z.2⟩, fun z => ⟨⟨z.1, z.2.1⟩, z.2.2⟩⟩
theorem d_nx_has (hv : dV D) : (∃ r, r < 7 ∧ d_nx D h p len r = true) ↔ p < D 0 4 ∧ d_has D h p len = true := by
  have hp4 := hv.1
  rw [d_has_iff]
  constructor
  · rintro ⟨r, hr, z⟩
    obtain ⟨z1, ⟨k, z2, z3⟩, z4⟩ := d_nx_iff.mp z
    exact ⟨z1, k, z2, by rw [z3]; exact z4⟩
  · rintro ⟨z1, k, z2, z3⟩
    have := d_by_lt (D := D) (k := k) z1
    exact ⟨d_by D p k, by omega, d_nx_iff.mpr ⟨z1, ⟨k, z2, rfl⟩, z3⟩⟩
theorem c_next1 (hv : dV D) (hs : ∀ r, r < 7 → s.1 115 r = Int32.ofNat (d_kt D r)) (hh : ∀ r, r < 7 → s.1 116 r = e_b (h r)) (hb : ∀ r, h r ≤ 7) (hp : p < 7) (hl : 1 ≤ len) (hl7 : len ≤ 7) {r : Nat} (hr : r < 7) (h1 : d_nx D h p len r = true) (h2 : ∀ j, j < r → d_nx D h p len j = false) : f_X0_nextOnWay s (Int32.ofNat p) (Int32.ofNat len) = some (Int32.ofNat r) := by
  have e0 : f_X0_from s (Int32.ofNat p) = some (Int32.ofNat (d_kt D p)) := by
    simp (maxSteps := 1000000) (disch := omega) only [ne_eq, i_lt0, i_le0, i_eq0, i_n1, i_ltl, i_lel, i_eql, i_lt, i_le, i_eq, i_in, i_tn, i_add, i_addl, i_addr, i_mul, i_mulr, i_mull, if_true, if_false, eq_self, decide_eq_true_eq, decide_true, decide_false, Option.bind_some, Option.bind_none, ↓fu_ltd, ↓reduceIte, ↓ob_ite, ↓ob_asc, Bool.false_eq_true, Bool.true_eq_false, not_true_eq_false, not_false_eq_true, Nat.not_lt_zero, Nat.le_zero_eq, Nat.reduceAdd, Nat.reduceMul, Nat.reduceSub, Nat.reduceEqDiff, Nat.reduceLT, Nat.reduceLeDiff, sC_def, sR_def, sC_1, sC_2, sR_1, sR_2, sC_st, sR_st, sR_no, sR_refuse, and_self, true_and, and_true, false_and, and_false, f_X0_from, hp, hs p hp]
  have hk := d_kt_lt (D := D) (p := p) hv
  have hL : l_X0_nextOnWay_2 fu_N s (Int32.ofNat p) (Int32.ofNat len) 0 = some (.inl (Int32.ofNat r)) := lp_fr (l := fun f (_ : Unit) k => l_X0_nextOnWay_2 f s (Int32.ofNat p) (Int32.ofNat len) (Int32.ofNat k)) (a := 0) (b := r) (S := fun _ => ()) (r := .inl (Int32.ofNat r)) (fun f k ha hk' => by
      have hk7 : k < 7 := by omega
      have e1 := h2 k hk'
      unfold d_nx at e1
      have e2 := e_b_eq (a := h k) (v := len - 1) (by have := hb k; omega) (by omega)
      cases hz : (d_kt D p).testBit k
      · simp (maxSteps := 1000000) (disch := omega) only [ne_eq, i_lt0, i_le0, i_eq0, i_n1, i_ltl, i_lel, i_eql, i_lt, i_le, i_eq, i_in, i_tn, i_add, i_addl, i_addr, i_mul, i_mulr, i_mull, if_true, if_false, eq_self, decide_eq_true_eq, decide_true, decide_false, Option.bind_some, Option.bind_none, ↓fu_ltd, ↓reduceIte, ↓ob_ite, ↓ob_asc, Bool.false_eq_true, Bool.true_eq_false, not_true_eq_false, not_false_eq_true, Nat.not_lt_zero, Nat.le_zero_eq, Nat.reduceAdd, Nat.reduceMul, Nat.reduceSub, Nat.reduceEqDiff, Nat.reduceLT, Nat.reduceLeDiff, sC_def, sR_def, sC_1, sC_2, sR_1, sR_2, sC_st, sR_st, sR_no, sR_refuse, and_self, true_and, and_true, false_and, and_false, l_X0_nextOnWay_2, hk7, e0, i_bit0, hz, i_add1]
      · rw [hz, Bool.true_and, decide_eq_false_iff_not] at e1
        have e3 : ¬ e_b (h k) = Int32.ofNat (len - 1) := fun z => e1 (by have := e2.mp z; omega)
        simp (maxSteps := 1000000) (disch := omega) only [ne_eq, i_lt0, i_le0, i_eq0, i_n1, i_ltl, i_lel, i_eql, i_lt, i_le, i_eq, i_in, i_tn, i_add, i_addl, i_addr, i_mul, i_mulr, i_mull, if_true, if_false, eq_self, decide_eq_true_eq, decide_true, decide_false, Option.bind_some, Option.bind_none, ↓fu_ltd, ↓reduceIte, ↓ob_ite, ↓ob_asc, Bool.false_eq_true, Bool.true_eq_false, not_true_eq_false, not_false_eq_true, Nat.not_lt_zero, Nat.le_zero_eq, Nat.reduceAdd, Nat.reduceMul, Nat.reduceSub, Nat.reduceEqDiff, Nat.reduceLT, Nat.reduceLeDiff, sC_def, sR_def, sC_1, sC_2, sR_1, sR_2, sC_st, sR_st, sR_no, sR_refuse, and_self, true_and, and_true, false_and, and_false, l_X0_nextOnWay_2, hk7, e0, i_bit0, hz, hh, i_subl, hl, e3, i_add1]) (fun f => by
      unfold d_nx at h1
      rw [Bool.and_eq_true, decide_eq_true_eq] at h1
      have e2 := e_b_eq (a := h r) (v := len - 1) (by have := hb r; omega) (by omega)
      have e3 : e_b (h r) = Int32.ofNat (len - 1) := e2.mpr (by omega)
      have hz := h1.1
      simp (maxSteps := 1000000) (disch := omega) only [ne_eq, i_lt0, i_le0, i_eq0, i_n1, i_ltl, i_lel, i_eql, i_lt, i_le, i_eq, i_in, i_tn, i_add, i_addl, i_addr, i_mul, i_mulr, i_mull, if_true, if_false, eq_self, decide_eq_true_eq, decide_true, decide_false, Option.bind_some, Option.bind_none, ↓fu_ltd, ↓reduceIte, ↓ob_ite, ↓ob_asc, Bool.false_eq_true, Bool.true_eq_false, not_true_eq_false, not_false_eq_true, Nat.not_lt_zero, Nat.le_zero_eq, Nat.reduceAdd, Nat.reduceMul, Nat.reduceSub, Nat.reduceEqDiff, Nat.reduceLT, Nat.reduceLeDiff, sC_def, sR_def, sC_1, sC_2, sR_1, sR_2, sC_st, sR_st, sR_no, sR_refuse, and_self, true_and, and_true, false_and, and_false, l_X0_nextOnWay_2, hr, e0, i_bit0, hz, hh, i_subl, hl, e3]) (f := fu_N) (k := 0) (by omega) (by omega) (fu_N_gt (by omega))
  simp (maxSteps := 1000000) (disch := omega) only [ne_eq, i_lt0, i_le0, i_eq0, i_n1, i_ltl, i_lel, i_eql, i_lt, i_le, i_eq, i_in, i_tn, i_add, i_addl, i_addr, i_mul, i_mulr, i_mull, if_true, if_false, eq_self, decide_eq_true_eq, decide_true, decide_false, Option.bind_some, Option.bind_none, ↓fu_ltd, ↓reduceIte, ↓ob_ite, ↓ob_asc, Bool.false_eq_true, Bool.true_eq_false, not_true_eq_false, not_false_eq_true, Nat.not_lt_zero, Nat.le_zero_eq, Nat.reduceAdd, Nat.reduceMul, Nat.reduceSub, Nat.reduceEqDiff, Nat.reduceLT, Nat.reduceLeDiff, sC_def, sR_def, sC_1, sC_2, sR_1, sR_2, sC_st, sR_st, sR_no, sR_refuse, and_self, true_and, and_true, false_and, and_false, f_X0_nextOnWay, hL, Sum.elim_inl]
theorem c_next0 (hv : dV D) (hs : ∀ r, r < 7 → s.1 115 r = Int32.ofNat (d_kt D r)) (hh : ∀ r, r < 7 → s.1 116 r = e_b (h r)) (hb : ∀ r, h r ≤ 7) (hp : p < 7) (hl : 1 ≤ len) (hl7 : len ≤ 7) (h2 : ∀ j, j < 7 → d_nx D h p len j = false) : f_X0_nextOnWay s (Int32.ofNat p) (Int32.ofNat len) = some (-1) := by
  have e0 : f_X0_from s (Int32.ofNat p) = some (Int32.ofNat (d_kt D p)) := by
    simp (maxSteps := 1000000) (disch := omega) only [ne_eq, i_lt0, i_le0, i_eq0, i_n1, i_ltl, i_lel, i_eql, i_lt, i_le, i_eq, i_in, i_tn, i_add, i_addl, i_addr, i_mul, i_mulr, i_mull, if_true, if_false, eq_self, decide_eq_true_eq, decide_true, decide_false, Option.bind_some, Option.bind_none, ↓fu_ltd, ↓reduceIte, ↓ob_ite, ↓ob_asc, Bool.false_eq_true, Bool.true_eq_false, not_true_eq_false, not_false_eq_true, Nat.not_lt_zero, Nat.le_zero_eq, Nat.reduceAdd, Nat.reduceMul, Nat.reduceSub, Nat.reduceEqDiff, Nat.reduceLT, Nat.reduceLeDiff, sC_def, sR_def, sC_1, sC_2, sR_1, sR_2, sC_st, sR_st, sR_no, sR_refuse, and_self, true_and, and_true, false_and, and_false, f_X0_from, hp, hs p hp]
  have hk := d_kt_lt (D := D) (p := p) hv
  have hL : l_X0_nextOnWay_2 fu_N s (Int32.ofNat p) (Int32.ofNat len) 0 = some (.inr ()) := lp_fr (l := fun f (_ : Unit) k => l_X0_nextOnWay_2 f s (Int32.ofNat p) (Int32.ofNat len) (Int32.ofNat k)) (a := 0) (b := 7) (S := fun _ => ()) (r := .inr ()) (fun f k ha hk7 => by
      have e1 := h2 k hk7
      unfold d_nx at e1
      have e2 := e_b_eq (a := h k) (v := len - 1) (by have := hb k; omega) (by omega)
      cases hz : (d_kt D p).testBit k
      · simp (maxSteps := 1000000) (disch := omega) only [ne_eq, i_lt0, i_le0, i_eq0, i_n1, i_ltl, i_lel, i_eql, i_lt, i_le, i_eq, i_in, i_tn, i_add, i_addl, i_addr, i_mul, i_mulr, i_mull, if_true, if_false, eq_self, decide_eq_true_eq, decide_true, decide_false, Option.bind_some, Option.bind_none, ↓fu_ltd, ↓reduceIte, ↓ob_ite, ↓ob_asc, Bool.false_eq_true, Bool.true_eq_false, not_true_eq_false, not_false_eq_true, Nat.not_lt_zero, Nat.le_zero_eq, Nat.reduceAdd, Nat.reduceMul, Nat.reduceSub, Nat.reduceEqDiff, Nat.reduceLT, Nat.reduceLeDiff, sC_def, sR_def, sC_1, sC_2, sR_1, sR_2, sC_st, sR_st, sR_no, sR_refuse, and_self, true_and, and_true, false_and, and_false, l_X0_nextOnWay_2, hk7, e0, i_bit0, hz, i_add1]
      · rw [hz, Bool.true_and, decide_eq_false_iff_not] at e1
        have e3 : ¬ e_b (h k) = Int32.ofNat (len - 1) := fun z => e1 (by have := e2.mp z; omega)
        simp (maxSteps := 1000000) (disch := omega) only [ne_eq, i_lt0, i_le0, i_eq0, i_n1, i_ltl, i_lel, i_eql, i_lt, i_le, i_eq, i_in, i_tn, i_add, i_addl, i_addr, i_mul, i_mulr, i_mull, if_true, if_false, eq_self, decide_eq_true_eq, decide_true, decide_false, Option.bind_some, Option.bind_none, ↓fu_ltd, ↓reduceIte, ↓ob_ite, ↓ob_asc, Bool.false_eq_true, Bool.true_eq_false, not_true_eq_false, not_false_eq_true, Nat.not_lt_zero, Nat.le_zero_eq, Nat.reduceAdd, Nat.reduceMul, Nat.reduceSub, Nat.reduceEqDiff, Nat.reduceLT, Nat.reduceLeDiff, sC_def, sR_def, sC_1, sC_2, sR_1, sR_2, sC_st, sR_st, sR_no, sR_refuse, and_self, true_and, and_true, false_and, and_false, l_X0_nextOnWay_2, hk7, e0, i_bit0, hz, hh, i_subl, hl, e3, i_add1]) (fun f => by
      simp (maxSteps := 1000000) (disch := omega) only [ne_eq, i_lt0, i_le0, i_eq0, i_n1, i_ltl, i_lel, i_eql, i_lt, i_le, i_eq, i_in, i_tn, i_add, i_addl, i_addr, i_mul, i_mulr, i_mull, if_true, if_false, eq_self, decide_eq_true_eq, decide_true, decide_false, Option.bind_some, Option.bind_none, ↓fu_ltd, ↓reduceIte, ↓ob_ite, ↓ob_asc, Bool.false_eq_true, Bool.true_eq_false, not_true_eq_false, not_false_eq_true, Nat.not_lt_zero, Nat.le_zero_eq, Nat.reduceAdd, Nat.reduceMul, Nat.reduceSub, Nat.reduceEqDiff, Nat.reduceLT, Nat.reduceLeDiff, sC_def, sR_def, sC_1, sC_2, sR_1, sR_2, sC_st, sR_st, sR_no, sR_refuse, and_self, true_and, and_true, false_and, and_false, l_X0_nextOnWay_2, Nat.lt_irrefl]) (f := fu_N) (k := 0) (by omega) (by omega) (fu_N_gt (by omega))
  simp (maxSteps := 1000000) (disch := omega) only [ne_eq, i_lt0, i_le0, i_eq0, i_n1, i_ltl, i_lel, i_eql, i_lt, i_le, i_eq, i_in, i_tn, i_add, i_addl, i_addr, i_mul, i_mulr, i_mull, if_true, if_false, eq_self, decide_eq_true_eq, decide_true, decide_false, Option.bind_some, Option.bind_none, ↓fu_ltd, ↓reduceIte, ↓ob_ite, ↓ob_asc, Bool.false_eq_true, Bool.true_eq_false, not_true_eq_false, not_false_eq_true, Nat.not_lt_zero, Nat.le_zero_eq, Nat.reduceAdd, Nat.reduceMul, Nat.reduceSub, Nat.reduceEqDiff, Nat.reduceLT, Nat.reduceLeDiff, sC_def, sR_def, sC_1, sC_2, sR_1, sR_2, sC_st, sR_st, sR_no, sR_refuse, and_self, true_and, and_true, false_and, and_false, f_X0_nextOnWay, hL, Sum.elim_inr]
theorem c_meas1 (hv : dV D) (hs : ∀ r, r < 7 → s.1 115 r = Int32.ofNat (d_kt D r)) (hb : ∀ r, h r ≤ 7) (hl : 1 ≤ len) (hl7 : len < 7) : l_X0_measureTo_40 fu_N (wri s 116 7 (fun r => e_b (h r))) (Int32.ofNat len) 0 = some (wri s 116 7 (fun r => e_b (d_hp D len h (D 0 4) r))) := by
  have hp4 := hv.1
  have hN : d_hp D len h (D 0 4) = d_hp D len h 7 := by
    have := d_hp_ext (D := D) (len := len) (h := h) (j := 7 - D 0 4)
    rw [show D 0 4 + (7 - D 0 4) = 7 by omega] at this
    exact this.symm
  rw [hN]
  exact lp_up (l := fun f σ k => l_X0_measureTo_40 f σ (Int32.ofNat len) (Int32.ofNat k)) (N := 7) (S := fun p => wri s 116 7 (fun r => e_b (d_hp D len h p r))) (r := wri s 116 7 (fun r => e_b (d_hp D len h 7 r))) (fun n k hk => by
      have hb' : ∀ r, d_hp D len h k r ≤ 7 := d_hp_le hb (by omega)
      generalize hg : d_hp D len h k = g at *
      have hs' : ∀ r, r < 7 → (wri s 116 7 (fun r => e_b (g r))).1 115 r = Int32.ofNat (d_kt D r) := fun r hr => by rw [wri_n (by omega)]; exact hs r hr
      have hh' : ∀ r, r < 7 → (wri s 116 7 (fun r => e_b (g r))).1 116 r = e_b (g r) := fun r hr => wri_r hr
      have e0 := hh' k hk
      have hbk := hb' k
      have hu : d_hp D len h (k + 1) = d_hu D len k g := by rw [← hg]; rfl
      show l_X0_measureTo_40 (n + 1) (wri s 116 7 (fun r => e_b (g r))) (Int32.ofNat len) (Int32.ofNat k) = l_X0_measureTo_40 n (wri s 116 7 (fun r => e_b (d_hp D len h (k + 1) r))) (Int32.ofNat len) (Int32.ofNat (k + 1))
      rw [hu]
      by_cases h0 : g k = 0
      · have z0 : e_b (g k) = -1 := (e_b_n1 (by omega)).mpr h0
        rcases d_fst (d_nx D g k len) 7 with w | ⟨r, w1, w2, w3⟩
        · have e1 := c_next0 (s := wri s 116 7 (fun r => e_b (g r))) hv hs' hh' hb' hk hl (by omega) w
          have e2 : wri s 116 7 (fun r => e_b (d_hu D len k g r)) = wri s 116 7 (fun r => e_b (g r)) := wri_c fun r _ => by
            unfold d_hu
            rw [if_neg]
            rintro ⟨-, y1, -, y2⟩
            obtain ⟨j, y3, y4⟩ := (d_nx_has hv).mpr ⟨y1, y2⟩
            rw [w j y3] at y4
            exact Bool.noConfusion y4
          rw [e2]
          generalize wri s 116 7 (fun r => e_b (g r)) = u at *
          simp (maxSteps := 1000000) (disch := omega) only [ne_eq, i_lt0, i_le0, i_eq0, i_n1, i_ltl, i_lel, i_eql, i_lt, i_le, i_eq, i_in, i_tn, i_add, i_addl, i_addr, i_mul, i_mulr, i_mull, if_true, if_false, eq_self, decide_eq_true_eq, decide_true, decide_false, Option.bind_some, Option.bind_none, ↓fu_ltd, ↓reduceIte, ↓ob_ite, ↓ob_asc, Bool.false_eq_true, Bool.true_eq_false, not_true_eq_false, not_false_eq_true, Nat.not_lt_zero, Nat.le_zero_eq, Nat.reduceAdd, Nat.reduceMul, Nat.reduceSub, Nat.reduceEqDiff, Nat.reduceLT, Nat.reduceLeDiff, sC_def, sR_def, sC_1, sC_2, sR_1, sR_2, sC_st, sR_st, sR_no, sR_refuse, and_self, true_and, and_true, false_and, and_false, l_X0_measureTo_40, hk, e0, z0, e1, i_add1]
        · have e1 := c_next1 (s := wri s 116 7 (fun r => e_b (g r))) hv hs' hh' hb' hk hl (by omega) w1 w2 w3
          have e2 : fu_pi (wri s 116 7 (fun r => e_b (g r))) 116 k (Int32.ofNat len) = wri s 116 7 (fun r => e_b (d_hu D len k g r)) := by
            rw [wri_u hk]
            refine wri_c fun j _ => ?_
            obtain ⟨y1, y2⟩ := (d_nx_has hv).mp ⟨r, w1, w2⟩
            unfold d_hu
            by_cases e : j = k
            · rw [if_pos e, if_pos ⟨e, y1, h0, y2⟩]; rfl
            · rw [if_neg e, if_neg (fun z => e z.1)]
          generalize wri s 116 7 (fun r => e_b (g r)) = u at *
          generalize wri s 116 7 (fun r => e_b (d_hu D len k g r)) = v at *
          simp (maxSteps := 1000000) (disch := omega) only [ne_eq, i_lt0, i_le0, i_eq0, i_n1, i_ltl, i_lel, i_eql, i_lt, i_le, i_eq, i_in, i_tn, i_add, i_addl, i_addr, i_mul, i_mulr, i_mull, if_true, if_false, eq_self, decide_eq_true_eq, decide_true, decide_false, Option.bind_some, Option.bind_none, ↓fu_ltd, ↓reduceIte, ↓ob_ite, ↓ob_asc, Bool.false_eq_true, Bool.true_eq_false, not_true_eq_false, not_false_eq_true, Nat.not_lt_zero, Nat.le_zero_eq, Nat.reduceAdd, Nat.reduceMul, Nat.reduceSub, Nat.reduceEqDiff, Nat.reduceLT, Nat.reduceLeDiff, sC_def, sR_def, sC_1, sC_2, sR_1, sR_2, sC_st, sR_st, sR_no, sR_refuse, and_self, true_and, and_true, false_and, and_false, l_X0_measureTo_40, hk, e0, z0, e1, e2, i_add1]
      · have z0 : ¬ e_b (g k) = -1 := fun z => h0 ((e_b_n1 (by omega)).mp z)
        have e2 : wri s 116 7 (fun r => e_b (d_hu D len k g r)) = wri s 116 7 (fun r => e_b (g r)) := wri_c fun r _ => by
          unfold d_hu
          rw [if_neg (fun z => h0 z.2.2.1)]
        rw [e2]
        generalize wri s 116 7 (fun r => e_b (g r)) = u at *
        simp (maxSteps := 1000000) (disch := omega) only [ne_eq, i_lt0, i_le0, i_eq0, i_n1, i_ltl, i_lel, i_eql, i_lt, i_le, i_eq, i_in, i_tn, i_add, i_addl, i_addr, i_mul, i_mulr, i_mull, if_true, if_false, eq_self, decide_eq_true_eq, decide_true, decide_false, Option.bind_some, Option.bind_none, ↓fu_ltd, ↓reduceIte, ↓ob_ite, ↓ob_asc, Bool.false_eq_true, Bool.true_eq_false, not_true_eq_false, not_false_eq_true, Nat.not_lt_zero, Nat.le_zero_eq, Nat.reduceAdd, Nat.reduceMul, Nat.reduceSub, Nat.reduceEqDiff, Nat.reduceLT, Nat.reduceLeDiff, sC_def, sR_def, sC_1, sC_2, sR_1, sR_2, sC_st, sR_st, sR_no, sR_refuse, and_self, true_and, and_true, false_and, and_false, l_X0_measureTo_40, hk, e0, z0, i_add1]) (fun n => by
      show l_X0_measureTo_40 (n + 1) (wri s 116 7 (fun r => e_b (d_hp D len h 7 r))) (Int32.ofNat len) (Int32.ofNat 7) = _
      simp (maxSteps := 1000000) (disch := omega) only [ne_eq, i_lt0, i_le0, i_eq0, i_n1, i_ltl, i_lel, i_eql, i_lt, i_le, i_eq, i_in, i_tn, i_add, i_addl, i_addr, i_mul, i_mulr, i_mull, if_true, if_false, eq_self, decide_eq_true_eq, decide_true, decide_false, Option.bind_some, Option.bind_none, ↓fu_ltd, ↓reduceIte, ↓ob_ite, ↓ob_asc, Bool.false_eq_true, Bool.true_eq_false, not_true_eq_false, not_false_eq_true, Nat.not_lt_zero, Nat.le_zero_eq, Nat.reduceAdd, Nat.reduceMul, Nat.reduceSub, Nat.reduceEqDiff, Nat.reduceLT, Nat.reduceLeDiff, sC_def, sR_def, sC_1, sC_2, sR_1, sR_2, sC_st, sR_st, sR_no, sR_refuse, and_self, true_and, and_true, false_and, and_false, l_X0_measureTo_40, Nat.lt_irrefl]) (f := fu_N) (k := 0) (by omega) (fu_N_gt (by omega))
theorem c_meas (hv : dV D) (hs : ∀ r, r < 7 → s.1 115 r = Int32.ofNat (d_kt D r)) (hq : q < 7) : f_X0_measureTo s (Int32.ofNat q) = some (wri s 116 7 (fun r => e_b (d_hl D q 6 r))) := by
  have hL0 : l_X0_measureTo_2 fu_N s (Int32.ofNat q) 0 = some (wri s 116 7 (fun r => e_b (d_hl D q 0 r))) := by
    have := lp_up (l := fun f σ k => l_X0_measureTo_2 f σ (Int32.ofNat q) (Int32.ofNat k)) (N := 7) (S := fun k => wri s 116 k (fun r => e_b (d_hl D q 0 r))) (r := wri s 116 7 (fun r => e_b (d_hl D q 0 r))) (fun n k hk => by
      have e1 : fu_pi (wri s 116 k (fun r => e_b (d_hl D q 0 r))) 116 k (e_b (d_hl D q 0 k)) = wri s 116 (k + 1) (fun r => e_b (d_hl D q 0 r)) := wri_s (f := fun r => e_b (d_hl D q 0 r))
      show l_X0_measureTo_2 (n + 1) (wri s 116 k (fun r => e_b (d_hl D q 0 r))) (Int32.ofNat q) (Int32.ofNat k) = l_X0_measureTo_2 n (wri s 116 (k + 1) (fun r => e_b (d_hl D q 0 r))) (Int32.ofNat q) (Int32.ofNat (k + 1))
      by_cases e : k = q
      · have e2 : e_b (d_hl D q 0 k) = 0 := by
          show e_b (if k = q then 1 else 0) = 0
          rw [if_pos e]; rfl
        rw [e2] at e1
        generalize wri s 116 k (fun r => e_b (d_hl D q 0 r)) = u at *
        generalize wri s 116 (k + 1) (fun r => e_b (d_hl D q 0 r)) = v at *
        subst e
        simp (maxSteps := 1000000) (disch := omega) only [ne_eq, i_lt0, i_le0, i_eq0, i_n1, i_ltl, i_lel, i_eql, i_lt, i_le, i_eq, i_in, i_tn, i_add, i_addl, i_addr, i_mul, i_mulr, i_mull, if_true, if_false, eq_self, decide_eq_true_eq, decide_true, decide_false, Option.bind_some, Option.bind_none, ↓fu_ltd, ↓reduceIte, ↓ob_ite, ↓ob_asc, Bool.false_eq_true, Bool.true_eq_false, not_true_eq_false, not_false_eq_true, Nat.not_lt_zero, Nat.le_zero_eq, Nat.reduceAdd, Nat.reduceMul, Nat.reduceSub, Nat.reduceEqDiff, Nat.reduceLT, Nat.reduceLeDiff, sC_def, sR_def, sC_1, sC_2, sR_1, sR_2, sC_st, sR_st, sR_no, sR_refuse, and_self, true_and, and_true, false_and, and_false, l_X0_measureTo_2, hk, e1, i_add1]
      · have e2 : e_b (d_hl D q 0 k) = -1 := by
          show e_b (if k = q then 1 else 0) = -1
          rw [if_neg e]; rfl
        rw [e2] at e1
        generalize wri s 116 k (fun r => e_b (d_hl D q 0 r)) = u at *
        generalize wri s 116 (k + 1) (fun r => e_b (d_hl D q 0 r)) = v at *
        simp (maxSteps := 1000000) (disch := omega) only [ne_eq, i_lt0, i_le0, i_eq0, i_n1, i_ltl, i_lel, i_eql, i_lt, i_le, i_eq, i_in, i_tn, i_add, i_addl, i_addr, i_mul, i_mulr, i_mull, if_true, if_false, eq_self, decide_eq_true_eq, decide_true, decide_false, Option.bind_some, Option.bind_none, ↓fu_ltd, ↓reduceIte, ↓ob_ite, ↓ob_asc, Bool.false_eq_true, Bool.true_eq_false, not_true_eq_false, not_false_eq_true, Nat.not_lt_zero, Nat.le_zero_eq, Nat.reduceAdd, Nat.reduceMul, Nat.reduceSub, Nat.reduceEqDiff, Nat.reduceLT, Nat.reduceLeDiff, sC_def, sR_def, sC_1, sC_2, sR_1, sR_2, sC_st, sR_st, sR_no, sR_refuse, and_self, true_and, and_true, false_and, and_false, l_X0_measureTo_2, hk, e, e1, i_add1]) (fun n => by
      show l_X0_measureTo_2 (n + 1) (wri s 116 7 (fun r => e_b (d_hl D q 0 r))) (Int32.ofNat q) (Int32.ofNat 7) = _
      simp (maxSteps := 1000000) (disch := omega) only [ne_eq, i_lt0, i_le0, i_eq0, i_n1, i_ltl, i_lel, i_eql, i_lt, i_le, i_eq, i_in, i_tn, i_add, i_addl, i_addr, i_mul, i_mulr, i_mull, if_true, if_false, eq_self, decide_eq_true_eq, decide_true, decide_false, Option.bind_some, Option.bind_none, ↓fu_ltd, ↓reduceIte, ↓ob_ite, ↓ob_asc, Bool.false_eq_true, Bool.true_eq_false, not_true_eq_false, not_false_eq_true, Nat.not_lt_zero, Nat.le_zero_eq, Nat.reduceAdd, Nat.reduceMul, Nat.reduceSub, Nat.reduceEqDiff, Nat.reduceLT, Nat.reduceLeDiff, sC_def, sR_def, sC_1, sC_2, sR_1, sR_2, sC_st, sR_st, sR_no, sR_refuse, and_self, true_and, and_true, false_and, and_false, l_X0_measureTo_2, Nat.lt_irrefl]) (f := fu_N) (k := 0) (by omega) (fu_N_gt (by omega))
    simp only [wri_0] at this
    exact this
  have hL : l_X0_measureTo_32 fu_N (wri s 116 7 (fun r => e_b (d_hl D q 0 r))) 1 = some (wri s 116 7 (fun r => e_b (d_hl D q 6 r))) := lp_fr (l := fun f σ k => l_X0_measureTo_32 f σ (Int32.ofNat k)) (a := 1) (b := 7) (S := fun k => wri s 116 7 (fun r => e_b (d_hl D q (k - 1) r))) (r := wri s 116 7 (fun r => e_b (d_hl D q 6 r))) (fun n k ha hk => by
      have e1 := c_meas1 (s := s) (h := d_hl D q (k - 1)) (len := k) hv hs (fun r => by have := d_hl_le (D := D) (q := q) (l := k - 1) r; omega) ha hk
      rw [show d_hp D k (d_hl D q (k - 1)) (D 0 4) = d_hl D q k by
        obtain ⟨j, rfl⟩ : ∃ j, k = j + 1 := ⟨k - 1, by omega⟩
        rfl] at e1
      show l_X0_measureTo_32 (n + 1) (wri s 116 7 (fun r => e_b (d_hl D q (k - 1) r))) (Int32.ofNat k) = l_X0_measureTo_32 n (wri s 116 7 (fun r => e_b (d_hl D q k r))) (Int32.ofNat (k + 1))
      generalize wri s 116 7 (fun r => e_b (d_hl D q (k - 1) r)) = u at *
      generalize wri s 116 7 (fun r => e_b (d_hl D q k r)) = v at *
      simp (maxSteps := 1000000) (disch := omega) only [ne_eq, i_lt0, i_le0, i_eq0, i_n1, i_ltl, i_lel, i_eql, i_lt, i_le, i_eq, i_in, i_tn, i_add, i_addl, i_addr, i_mul, i_mulr, i_mull, if_true, if_false, eq_self, decide_eq_true_eq, decide_true, decide_false, Option.bind_some, Option.bind_none, ↓fu_ltd, ↓reduceIte, ↓ob_ite, ↓ob_asc, Bool.false_eq_true, Bool.true_eq_false, not_true_eq_false, not_false_eq_true, Nat.not_lt_zero, Nat.le_zero_eq, Nat.reduceAdd, Nat.reduceMul, Nat.reduceSub, Nat.reduceEqDiff, Nat.reduceLT, Nat.reduceLeDiff, sC_def, sR_def, sC_1, sC_2, sR_1, sR_2, sC_st, sR_st, sR_no, sR_refuse, and_self, true_and, and_true, false_and, and_false, l_X0_measureTo_32, hk, e1, i_add1]) (fun n => by
      show l_X0_measureTo_32 (n + 1) (wri s 116 7 (fun r => e_b (d_hl D q 6 r))) (Int32.ofNat 7) = _
      simp (maxSteps := 1000000) (disch := omega) only [ne_eq, i_lt0, i_le0, i_eq0, i_n1, i_ltl, i_lel, i_eql, i_lt, i_le, i_eq, i_in, i_tn, i_add, i_addl, i_addr, i_mul, i_mulr, i_mull, if_true, if_false, eq_self, decide_eq_true_eq, decide_true, decide_false, Option.bind_some, Option.bind_none, ↓fu_ltd, ↓reduceIte, ↓ob_ite, ↓ob_asc, Bool.false_eq_true, Bool.true_eq_false, not_true_eq_false, not_false_eq_true, Nat.not_lt_zero, Nat.le_zero_eq, Nat.reduceAdd, Nat.reduceMul, Nat.reduceSub, Nat.reduceEqDiff, Nat.reduceLT, Nat.reduceLeDiff, sC_def, sR_def, sC_1, sC_2, sR_1, sR_2, sC_st, sR_st, sR_no, sR_refuse, and_self, true_and, and_true, false_and, and_false, l_X0_measureTo_32, Nat.lt_irrefl]) (f := fu_N) (k := 1) (by omega) (by omega) (fu_N_gt (by omega))
  simp (maxSteps := 1000000) (disch := omega) only [ne_eq, i_lt0, i_le0, i_eq0, i_n1, i_ltl, i_lel, i_eql, i_lt, i_le, i_eq, i_in, i_tn, i_add, i_addl, i_addr, i_mul, i_mulr, i_mull, if_true, if_false, eq_self, decide_eq_true_eq, decide_true, decide_false, Option.bind_some, Option.bind_none, ↓fu_ltd, ↓reduceIte, ↓ob_ite, ↓ob_asc, Bool.false_eq_true, Bool.true_eq_false, not_true_eq_false, not_false_eq_true, Nat.not_lt_zero, Nat.le_zero_eq, Nat.reduceAdd, Nat.reduceMul, Nat.reduceSub, Nat.reduceEqDiff, Nat.reduceLT, Nat.reduceLeDiff, sC_def, sR_def, sC_1, sC_2, sR_1, sR_2, sC_st, sR_st, sR_no, sR_refuse, and_self, true_and, and_true, false_and, and_false, f_X0_measureTo, hL0, hL]
end HND
