/-! days that are lived: what stands between the two, and one deed -/
def LL (ma : Nat) (c r : Nat → Int32) (m n : Nat) (ov : Bool) : Prop := (∃ x, x < 65536 ∧ c 1 = Int32.ofNat x ∧ r 33 = Int32.ofNat x) ∧ (n ≤ 300 ∧ c 2 = Int32.ofNat n ∧ r 34 = Int32.ofNat n) ∧ c 3 = r 35 ∧ (∃ k, m = ma + k ∧ c 4 = Int32.ofNat k) ∧ r 36 = Int32.ofNat ma ∧ c 5 = r 37 ∧ c 6 = r 38 ∧ c 7 = r 39 ∧ fu_tb (r 32) = ov
def F1 (Q P : Nat) (s t : fu_S) : Prop := (∀ a, ¬ (P ≤ a ∧ a < P + 13) → a ≠ Q → a ≠ Q + 1 → t.1 a = s.1 a ∧ t.2 a = s.2 a) ∧ t.1 Q 8 = s.1 Q 8
def F2 (s t : fu_S) : Prop := t.2 = s.2 ∧ (∀ a, a ≠ 117 → a ≠ 122 → t.1 a = s.1 a) ∧ (∀ q, ¬ (32 ≤ q ∧ q < 40) → t.1 117 q = s.1 117 q) ∧ ∀ i, 83 ≤ i → t.1 122 i = s.1 122 i
def LR (Q P ma : Nat) (D0 : dD) (s1 s2 : fu_S) (D : dD) (n : Nat) (ov : Bool) : Prop := dV D ∧ dC s1 P D ∧ dR s2 0 D ∧ (D 0 3 = D0 0 3 ∧ D 0 4 = D0 0 4) ∧ LL ma (s1.1 Q) (s2.1 117) (D 0 2) n ov
section LF2
variable {s t u s1 s2 t1 t2 : fu_S} {Q P PL ma b p k w i m v n q l N : Nat} {D D0 : dD} {ov : Bool} {x y : Int32}
theorem F1_rf : F1 Q P s s := ⟨fun _ _ _ _ => ⟨rfl, rfl⟩, rfl⟩
theorem F1_tr (h : F1 Q P s t) (g : F1 Q P t u) : F1 Q P s u := ⟨fun a h1 h2 h3 => ⟨(g.1 a h1 h2 h3).1.trans (h.1 a h1 h2 h3).1, (g.1 a h1 h2 h3).2.trans (h.1 a h1 h2 h3).2⟩, g.2.trans h.2⟩
theorem F2_rf : F2 s s := ⟨rfl, fun _ _ _ => rfl, fun _ _ => rfl, fun _ _ => rfl⟩
theorem F2_tr (h : F2 s t) (g : F2 t u) : F2 s u := ⟨g.1.trans h.1, fun a h1 h2 => (g.2.1 a h1 h2).trans (h.2.1 a h1 h2), fun q hq => (g.2.2.1 q hq).trans (h.2.2.1 q hq), fun i hi => (g.2.2.2 i hi).trans (h.2.2.2 i hi)⟩
theorem F1_q (hq : q ≠ 8) : F1 Q P s (fu_pi s Q q x) := ⟨fun a _ h2 _ => ⟨p1n h2, rfl⟩, p1q (Ne.symm hq)⟩
theorem F1_q1 : F1 Q P s (fu_pi s (Q + 1) q x) := ⟨fun a _ _ h3 => ⟨p1n h3, rfl⟩, by rw [p1n (by omega)]⟩
theorem F1_c (hQ : P + 13 ≤ Q) (h : fC P (P + 13) s t) : F1 Q P s t := ⟨fun a h1 _ _ => h a h1, by rw [(h Q (by omega)).1]⟩
theorem F2_q (hq : 32 ≤ q ∧ q < 40) : F2 s (fu_pi s 117 q x) := ⟨rfl, fun a h1 _ => p1n h1, fun r hr => p1q (by omega), fun i _ => by rw [p1n (by omega)]⟩
theorem F2_r (h : fR 0 83 s t) : F2 s t := ⟨h.1, fun a _ h2 => h.2.1 a h2, fun q _ => by rw [h.2.1 117 (by omega)], fun i hi => h.2.2 i (by omega)⟩
theorem dC_q (hQ : P + 13 ≤ Q) (h : dC s P D) : dC (fu_pi s Q q x) P D := dC_congr (fun k hk => ⟨p1n (by omega), rfl⟩) h
/-- a word of the life is written on both sides -/
theorem LR_w (hQ : P + 13 ≤ Q) {q' : Nat} (h : LR Q P ma D0 s1 s2 D n ov) {n' : Nat} {ov' : Bool} (hL : LL ma (fun r => if r = q then x else s1.1 Q r) (fun r => if r = q' then y else s2.1 117 r) (D 0 2) n' ov') : LR Q P ma D0 (fu_pi s1 Q q x) (fu_pi s2 117 q' y) D n' ov' := by
  obtain ⟨hv, hC, hR, he, -⟩ := h
  refine ⟨hv, dC_q hQ hC, dR_q hv hR, he, ?_⟩
  have e1 : (fu_pi s1 Q q x).1 Q = fun r => if r = q then x else s1.1 Q r := by
    funext r
    show (if Q = Q ∧ r = q then x else s1.1 Q r) = _
    by_cases e : r = q
    · rw [if_pos ⟨rfl, e⟩, if_pos e]
    · rw [if_neg (fun z => e z.2), if_neg e]
  have e2 : (fu_pi s2 117 q' y).1 117 = fun r => if r = q' then y else s2.1 117 r := by
    funext r
    show (if 117 = 117 ∧ r = q' then y else s2.1 117 r) = _
    by_cases e : r = q'
    · rw [if_pos ⟨rfl, e⟩, if_pos e]
    · rw [if_neg (fun z => e z.2), if_neg e]
  rw [e1, e2]
  exact hL
/-- a step is counted -/
theorem LR_n (hQ : P + 13 ≤ Q) (h : LR Q P ma D0 s1 s2 D n ov) (hn : n < 300) : LR Q P ma D0 (fu_pi s1 Q 2 (Int32.ofNat (n + 1))) (fu_pi s2 117 34 (Int32.ofNat (n + 1))) D (n + 1) ov := by
  obtain ⟨a1, a2, a3, a4, a5, a6, a7, a8, a9⟩ := h.2.2.2.2
  exact LR_w hQ h ⟨a1, ⟨by omega, rfl, rfl⟩, a3, a4, a5, a6, a7, a8, a9⟩
/-- missed or not -/
theorem LR_m (hQ : P + 13 ≤ Q) (h : LR Q P ma D0 s1 s2 D n ov) : LR Q P ma D0 (fu_pi s1 Q 3 x) (fu_pi s2 117 35 x) D n ov := by
  obtain ⟨a1, a2, a3, a4, a5, a6, a7, a8, a9⟩ := h.2.2.2.2
  exact LR_w hQ h ⟨a1, a2, rfl, a4, a5, a6, a7, a8, a9⟩
theorem LR_l (hQ : P + 13 ≤ Q) (h : LR Q P ma D0 s1 s2 D n ov) : LR Q P ma D0 (fu_pi s1 Q 5 x) (fu_pi s2 117 37 x) D n ov := by
  obtain ⟨a1, a2, a3, a4, a5, a6, a7, a8, a9⟩ := h.2.2.2.2
  exact LR_w hQ h ⟨a1, a2, a3, a4, a5, rfl, a7, a8, a9⟩
theorem LR_s (hQ : P + 13 ≤ Q) (h : LR Q P ma D0 s1 s2 D n ov) : LR Q P ma D0 (fu_pi s1 Q 6 x) (fu_pi s2 117 38 x) D n ov := by
  obtain ⟨a1, a2, a3, a4, a5, a6, a7, a8, a9⟩ := h.2.2.2.2
  exact LR_w hQ h ⟨a1, a2, a3, a4, a5, a6, rfl, a8, a9⟩
theorem i_divl {a n : Nat} (ha : a < 2147483648) (hb : 0 < (OfNat.ofNat n : Nat)) (hb2 : (OfNat.ofNat n : Nat) < 2147483648) : Int32.ofNat a / (no_index (OfNat.ofNat n) : Int32) = Int32.ofNat (a / OfNat.ofNat n) := i_divq ha hb hb2
/-- what is drawn next -/
def d_dr (x : Nat) : Nat := (x * 2971 + 10957) % 65536
theorem L_draw (hQ : P + 13 ≤ Q) (h : LR Q P ma D0 s1 s2 D n ov) (hm : 0 < m) (hm2 : m < 1000) : ∃ x' d, d < m ∧ f_X3_draw s1 Q (Int32.ofNat m) = some (Int32.ofNat d, fu_pi s1 Q 1 x') ∧ f_X12_draw s2 (Int32.ofNat m) = some (Int32.ofNat d, fu_pi s2 117 33 x') ∧ LR Q P ma D0 (fu_pi s1 Q 1 x') (fu_pi s2 117 33 x') D n ov := by
  obtain ⟨⟨x, hx, b1, b2⟩, a2, a3, a4, a5, a6, a7, a8, a9⟩ := h.2.2.2.2
  have hx' : d_dr x < 65536 := Nat.mod_lt _ (by omega)
  refine ⟨Int32.ofNat (d_dr x), d_dr x / 8 % m, Nat.mod_lt _ hm, ?_, ?_, LR_w hQ h ⟨⟨d_dr x, hx', rfl, rfl⟩, a2, a3, a4, a5, a6, a7, a8, a9⟩⟩
  · have hm0 : ¬ m = 0 := by omega
    have e1 : Int32.ofNat (x * 2971 + 10957) - Int32.ofNat (x * 2971 + 10957) / 65536 * 65536 = Int32.ofNat (d_dr x) := i_reml (by omega) (by omega) (by omega)
    have e2 : Int32.ofNat (d_dr x) / 8 = Int32.ofNat (d_dr x / 8) := i_divl (by omega) (by omega) (by omega)
    have e3 := i_rem (a := d_dr x / 8) (b := m) (by omega) hm (by omega)
    generalize d_dr x = z at *
    simp (maxSteps := 1000000) (disch := omega) only [ne_eq, i_lt0, i_le0, i_eq0, i_n1, i_ltl, i_lel, i_eql, i_lt, i_le, i_eq, i_in, i_tn, i_add, i_addl, i_addr, i_mul, i_mulr, i_mull, if_true, if_false, eq_self, decide_eq_true_eq, decide_true, decide_false, Option.bind_some, Option.bind_none, ↓fu_ltd, ↓reduceIte, ↓ob_ite, ↓ob_asc, Bool.false_eq_true, Bool.true_eq_false, not_true_eq_false, not_false_eq_true, Nat.not_lt_zero, Nat.le_zero_eq, Nat.reduceAdd, Nat.reduceMul, Nat.reduceSub, Nat.reduceEqDiff, Nat.reduceLT, Nat.reduceLeDiff, sC_def, sR_def, sC_1, sC_2, sR_1, sR_2, sC_st, sR_st, sR_no, sR_refuse, and_self, true_and, and_true, false_and, and_false, f_X3_draw, b1, e1, p1, hm0, e2, e3]
  · have hm0 : ¬ m = 0 := by omega
    have e1 : Int32.ofNat (x * 2971 + 10957) - Int32.ofNat (x * 2971 + 10957) / 65536 * 65536 = Int32.ofNat (d_dr x) := i_reml (by omega) (by omega) (by omega)
    have e2 : Int32.ofNat (d_dr x) / 8 = Int32.ofNat (d_dr x / 8) := i_divl (by omega) (by omega) (by omega)
    have e3 := i_rem (a := d_dr x / 8) (b := m) (by omega) hm (by omega)
    generalize d_dr x = z at *
    simp (maxSteps := 1000000) (disch := omega) only [ne_eq, i_lt0, i_le0, i_eq0, i_n1, i_ltl, i_lel, i_eql, i_lt, i_le, i_eq, i_in, i_tn, i_add, i_addl, i_addr, i_mul, i_mulr, i_mull, if_true, if_false, eq_self, decide_eq_true_eq, decide_true, decide_false, Option.bind_some, Option.bind_none, ↓fu_ltd, ↓reduceIte, ↓ob_ite, ↓ob_asc, Bool.false_eq_true, Bool.true_eq_false, not_true_eq_false, not_false_eq_true, Nat.not_lt_zero, Nat.le_zero_eq, Nat.reduceAdd, Nat.reduceMul, Nat.reduceSub, Nat.reduceEqDiff, Nat.reduceLT, Nat.reduceLeDiff, sC_def, sR_def, sC_1, sC_2, sR_1, sR_2, sC_st, sR_st, sR_no, sR_refuse, and_self, true_and, and_true, false_and, and_false, f_X12_draw, b2, e1, p1, hm0, e2, e3]
/-- what a deed leaves: both say the same, and stand alike -/
def LO (Q P ma : Nat) (D0 : dD) (s1 s2 : fu_S) (n : Nat) (ov : Bool) (A B : Option (Bool × fu_S)) : Prop := ∃ e t1 t2 D', A = some (e, t1) ∧ B = some (e, t2) ∧ LR Q P ma D0 t1 t2 D' n ov ∧ F1 Q P s1 t1 ∧ F2 s2 t2 ∧ t1.1 (Q + 1) = s1.1 (Q + 1)
theorem L_wait (hQ : P + 13 ≤ Q) (h : LR Q P ma D0 s1 s2 D n ov) (hk : k ≤ 99) : LO Q P ma D0 s1 s2 n ov (f_X3_isDone s1 Q P 112 (Int32.ofNat k) y) (f_X12_waits s2 (Int32.ofNat k)) := by
  have hL := h.2.2.2.2
  obtain ⟨hv, hC, hR, he, -⟩ := id h
  have hp4 := hv.1
  have b2 := hC.1.2.2.1
  have d5 := (dR_0 hR).1.2.2.2.2.2
  have hcw : f_X4_canWait s1 P (Int32.ofNat k) = decide (D 0 2 + k ≤ 9999) := by
    unfold f_X4_canWait fu_lt
    rw [b2, show (9999 : Int32) = Int32.ofNat 9999 from rfl, i_sub (by omega)]
    by_cases z : D 0 2 + k ≤ 9999
    · rw [if_pos ((i_le (by omega) (by omega)).mpr (by omega)), decide_eq_true z]
    · rw [if_neg (fun w => z (by have := (i_le (by omega) (by omega)).mp w; omega)), decide_eq_false z]
  by_cases z : D 0 2 + k ≤ 9999
  · obtain ⟨a1, a2, a3, ⟨j, j1, j2⟩, a5, a6, a7, a8, a9⟩ := hL
    have j3 : (fu_pi s1 P 2 (Int32.ofNat (D 0 2 + k))).1 Q 4 = Int32.ofNat j := by rw [p1n (by omega)]; exact j2
    rw [decide_eq_true z] at hcw
    refine ⟨true, fu_pi (fu_pi s1 P 2 (Int32.ofNat (D 0 2 + k))) Q 4 (Int32.ofNat (j + k)), fu_pi s2 122 5 (Int32.ofNat (D 0 2 + k)), dset D 0 2 (D 0 2 + k), ?_, ?_, ⟨dV_set0 (by omega) hv (by omega) (by omega) (by omega), dC_q hQ (dC_put0 (by omega) hC), dR_put0 hv (j := 2) (by omega) hR, ?_, ?_⟩, ?_, ?_, ?_⟩
    · generalize D 0 2 = m at *
      simp (maxSteps := 1000000) (disch := omega) only [ne_eq, i_lt0, i_le0, i_eq0, i_n1, i_ltl, i_lel, i_eql, i_lt, i_le, i_eq, i_in, i_tn, i_add, i_addl, i_addr, i_mul, i_mulr, i_mull, if_true, if_false, eq_self, decide_eq_true_eq, decide_true, decide_false, Option.bind_some, Option.bind_none, ↓fu_ltd, ↓reduceIte, ↓ob_ite, ↓ob_asc, Bool.false_eq_true, Bool.true_eq_false, not_true_eq_false, not_false_eq_true, Nat.not_lt_zero, Nat.le_zero_eq, Nat.reduceAdd, Nat.reduceMul, Nat.reduceSub, Nat.reduceEqDiff, Nat.reduceLT, Nat.reduceLeDiff, sC_def, sR_def, sC_1, sC_2, sR_1, sR_2, sC_st, sR_st, sR_no, sR_refuse, and_self, true_and, and_true, false_and, and_false, f_X3_isDone, hcw, f_X4_goOn, b2, j3]
    · generalize D 0 2 = m at *
      simp (maxSteps := 1000000) (disch := omega) only [ne_eq, i_lt0, i_le0, i_eq0, i_n1, i_ltl, i_lel, i_eql, i_lt, i_le, i_eq, i_in, i_tn, i_add, i_addl, i_addr, i_mul, i_mulr, i_mull, if_true, if_false, eq_self, decide_eq_true_eq, decide_true, decide_false, Option.bind_some, Option.bind_none, ↓fu_ltd, ↓reduceIte, ↓ob_ite, ↓ob_asc, Bool.false_eq_true, Bool.true_eq_false, not_true_eq_false, not_false_eq_true, Nat.not_lt_zero, Nat.le_zero_eq, Nat.reduceAdd, Nat.reduceMul, Nat.reduceSub, Nat.reduceEqDiff, Nat.reduceLT, Nat.reduceLeDiff, sC_def, sR_def, sC_1, sC_2, sR_1, sR_2, sC_st, sR_st, sR_no, sR_refuse, and_self, true_and, and_true, false_and, and_false, f_X12_waits, d5, z]
    · rw [dset_i (by omega), dset_i (by omega)]; exact he
    · rw [dset_s]
      have e1 : (fu_pi (fu_pi s1 P 2 (Int32.ofNat (D 0 2 + k))) Q 4 (Int32.ofNat (j + k))).1 Q = fun r => if r = 4 then Int32.ofNat (j + k) else s1.1 Q r := by
        funext r
        show (if Q = Q ∧ r = 4 then _ else (if Q = P ∧ r = 2 then _ else s1.1 Q r)) = _
        by_cases e : r = 4
        · rw [if_pos ⟨rfl, e⟩, if_pos e]
        · rw [if_neg (fun z => e z.2), if_neg e, if_neg (fun z => by omega)]
      rw [e1]
      exact ⟨a1, a2, a3, ⟨j + k, by omega, rfl⟩, a5, a6, a7, a8, a9⟩
    · refine F1_tr (t := fu_pi s1 P 2 (Int32.ofNat (D 0 2 + k))) ⟨fun a h1 h2 h3 => ⟨p1n (by omega), rfl⟩, by rw [p1n (by omega)]⟩ (F1_q (by omega))
    · exact F2_r (fR_pi (by omega))
    · rw [p1n (by omega), p1n (by omega)]
  · rw [decide_eq_false z] at hcw
    refine ⟨false, s1, s2, D, ?_, ?_, h, F1_rf, F2_rf, rfl⟩
    · simp (maxSteps := 1000000) (disch := omega) only [ne_eq, i_lt0, i_le0, i_eq0, i_n1, i_ltl, i_lel, i_eql, i_lt, i_le, i_eq, i_in, i_tn, i_add, i_addl, i_addr, i_mul, i_mulr, i_mull, if_true, if_false, eq_self, decide_eq_true_eq, decide_true, decide_false, Option.bind_some, Option.bind_none, ↓fu_ltd, ↓reduceIte, ↓ob_ite, ↓ob_asc, Bool.false_eq_true, Bool.true_eq_false, not_true_eq_false, not_false_eq_true, Nat.not_lt_zero, Nat.le_zero_eq, Nat.reduceAdd, Nat.reduceMul, Nat.reduceSub, Nat.reduceEqDiff, Nat.reduceLT, Nat.reduceLeDiff, sC_def, sR_def, sC_1, sC_2, sR_1, sR_2, sC_st, sR_st, sR_no, sR_refuse, and_self, true_and, and_true, false_and, and_false, f_X3_isDone, hcw]
      simp
    · simp (maxSteps := 1000000) (disch := omega) only [ne_eq, i_lt0, i_le0, i_eq0, i_n1, i_ltl, i_lel, i_eql, i_lt, i_le, i_eq, i_in, i_tn, i_add, i_addl, i_addr, i_mul, i_mulr, i_mull, if_true, if_false, eq_self, decide_eq_true_eq, decide_true, decide_false, Option.bind_some, Option.bind_none, ↓fu_ltd, ↓reduceIte, ↓ob_ite, ↓ob_asc, Bool.false_eq_true, Bool.true_eq_false, not_true_eq_false, not_false_eq_true, Nat.not_lt_zero, Nat.le_zero_eq, Nat.reduceAdd, Nat.reduceMul, Nat.reduceSub, Nat.reduceEqDiff, Nat.reduceLT, Nat.reduceLeDiff, sC_def, sR_def, sC_1, sC_2, sR_1, sR_2, sC_st, sR_st, sR_no, sR_refuse, and_self, true_and, and_true, false_and, and_false, f_X12_waits, d5, z]
theorem L_lose (hQ : P + 13 ≤ Q) (h : LR Q P ma D0 s1 s2 D n ov) (hp : p < D 0 4) (hk : k < D 0 3) : LO Q P ma D0 s1 s2 n ov (f_X3_isDone s1 Q P 111 (Int32.ofNat p) (Int32.ofNat k)) (f_X12_isLost s2 (Int32.ofNat p) (Int32.ofNat k)) := by
  have hL := h.2.2.2.2
  obtain ⟨hv, hC, hR, he, -⟩ := id h
  have hp4 := hv.1
  have g2 := (dR_0 hR).1.2.2.1
  by_cases h5 : D 0 5 < 8
  · obtain ⟨t1, e1, e2, e3⟩ := c_add (w := 1) hC hv h5 (p := p) (k := k) (by omega) (by omega) (by omega)
    obtain ⟨t2, e4, e5, e6⟩ := r_add (b := 0) (w := 1) hR hv (by omega) h5 (by omega) hp hk (by omega)
    have hR' : LR Q P ma D0 t1 t2 (dthing D p k 1) n ov := by
      refine ⟨dV_thing hv h5 hp hk (by omega), e2, e5, ?_, ?_⟩
      · rw [dthing_0 (by omega), dthing_0 (by omega)]; exact he
      · rw [dthing_0 (by omega), (e3 Q (by omega)).1, e6.2.1 117 (by omega)]
        exact hL
    have hn1 : ¬ D 0 5 = 8 := by omega
    obtain ⟨-, -, -, -, -, w5, -⟩ := hR'.2.2.2.2
    have e1' : f_X4_addThing s1 P (Int32.ofNat p) (Int32.ofNat k) 1 = some (Int32.ofNat (D 0 5), t1) := e1
    have e4' : f_X12_loses s2 0 (Int32.ofNat p) (Int32.ofNat k) 1 = some t2 := e4
    refine ⟨true, fu_pi t1 Q 5 (t1.1 Q 5 + 1), fu_pi t2 117 37 (t2.1 117 37 + 1), dthing D p k 1, ?_, ?_, ?_, F1_tr (F1_c hQ e3) (F1_q (by omega)), F2_tr (F2_r e6) (F2_q (by omega)), ?_⟩
    · generalize D 0 5 = m at *
      simp (maxSteps := 1000000) (disch := omega) only [ne_eq, i_lt0, i_le0, i_eq0, i_n1, i_ltl, i_lel, i_eql, i_lt, i_le, i_eq, i_in, i_tn, i_add, i_addl, i_addr, i_mul, i_mulr, i_mull, if_true, if_false, eq_self, decide_eq_true_eq, decide_true, decide_false, Option.bind_some, Option.bind_none, ↓fu_ltd, ↓reduceIte, ↓ob_ite, ↓ob_asc, Bool.false_eq_true, Bool.true_eq_false, not_true_eq_false, not_false_eq_true, Nat.not_lt_zero, Nat.le_zero_eq, Nat.reduceAdd, Nat.reduceMul, Nat.reduceSub, Nat.reduceEqDiff, Nat.reduceLT, Nat.reduceLeDiff, sC_def, sR_def, sC_1, sC_2, sR_1, sR_2, sC_st, sR_st, sR_no, sR_refuse, and_self, true_and, and_true, false_and, and_false, f_X3_isDone, e1', h5]
      simp
    · generalize D 0 5 = m at *
      simp (maxSteps := 1000000) (disch := omega) only [ne_eq, i_lt0, i_le0, i_eq0, i_n1, i_ltl, i_lel, i_eql, i_lt, i_le, i_eq, i_in, i_tn, i_add, i_addl, i_addr, i_mul, i_mulr, i_mull, if_true, if_false, eq_self, decide_eq_true_eq, decide_true, decide_false, Option.bind_some, Option.bind_none, ↓fu_ltd, ↓reduceIte, ↓ob_ite, ↓ob_asc, Bool.false_eq_true, Bool.true_eq_false, not_true_eq_false, not_false_eq_true, Nat.not_lt_zero, Nat.le_zero_eq, Nat.reduceAdd, Nat.reduceMul, Nat.reduceSub, Nat.reduceEqDiff, Nat.reduceLT, Nat.reduceLeDiff, sC_def, sR_def, sC_1, sC_2, sR_1, sR_2, sC_st, sR_st, sR_no, sR_refuse, and_self, true_and, and_true, false_and, and_false, f_X12_isLost, g2, hn1, e4']
    · rw [w5]; exact LR_l hQ hR'
    · rw [p1n (by omega), (e3 (Q + 1) (by omega)).1]
  · have h58 : D 0 5 = 8 := by omega
    have e1 := c_add8 (x := Int32.ofNat p) (y := Int32.ofNat k) (z := 1) hC h5 hv
    refine ⟨false, s1, s2, D, ?_, ?_, h, F1_rf, F2_rf, rfl⟩
    · simp (maxSteps := 1000000) (disch := omega) only [ne_eq, i_lt0, i_le0, i_eq0, i_n1, i_ltl, i_lel, i_eql, i_lt, i_le, i_eq, i_in, i_tn, i_add, i_addl, i_addr, i_mul, i_mulr, i_mull, if_true, if_false, eq_self, decide_eq_true_eq, decide_true, decide_false, Option.bind_some, Option.bind_none, ↓fu_ltd, ↓reduceIte, ↓ob_ite, ↓ob_asc, Bool.false_eq_true, Bool.true_eq_false, not_true_eq_false, not_false_eq_true, Nat.not_lt_zero, Nat.le_zero_eq, Nat.reduceAdd, Nat.reduceMul, Nat.reduceSub, Nat.reduceEqDiff, Nat.reduceLT, Nat.reduceLeDiff, sC_def, sR_def, sC_1, sC_2, sR_1, sR_2, sC_st, sR_st, sR_no, sR_refuse, and_self, true_and, and_true, false_and, and_false, f_X3_isDone, e1]
      simp
    · rw [h58] at g2
      simp (maxSteps := 1000000) (disch := omega) only [ne_eq, i_lt0, i_le0, i_eq0, i_n1, i_ltl, i_lel, i_eql, i_lt, i_le, i_eq, i_in, i_tn, i_add, i_addl, i_addr, i_mul, i_mulr, i_mull, if_true, if_false, eq_self, decide_eq_true_eq, decide_true, decide_false, Option.bind_some, Option.bind_none, ↓fu_ltd, ↓reduceIte, ↓ob_ite, ↓ob_asc, Bool.false_eq_true, Bool.true_eq_false, not_true_eq_false, not_false_eq_true, Nat.not_lt_zero, Nat.le_zero_eq, Nat.reduceAdd, Nat.reduceMul, Nat.reduceSub, Nat.reduceEqDiff, Nat.reduceLT, Nat.reduceLeDiff, sC_def, sR_def, sC_1, sC_2, sR_1, sR_2, sC_st, sR_st, sR_no, sR_refuse, and_self, true_and, and_true, false_and, and_false, f_X12_isLost, g2]
theorem L_scr (hQ : P + 13 ≤ Q) (h : LR Q P ma D0 s1 s2 D n ov) (hp : p < D 0 4) (hi : i < 8) : LO Q P ma D0 s1 s2 n ov (f_X3_isDone s1 Q P 113 (Int32.ofNat p) (Int32.ofNat i)) (f_X12_isDone s2 (Int32.ofNat p) (Int32.ofNat i)) := by
  have hL := h.2.2.2.2
  obtain ⟨hv, hC, hR, he, -⟩ := id h
  have hp4 := hv.1
  have b0 : ∀ x : Int32, x + fu_b false = x := fun x => Int32.add_zero x
  have w0 : ∀ s : fu_S, fu_pi s 117 38 (s.1 117 38) = s := fun s => by
    refine Prod.ext ?_ rfl
    funext a r
    show (if a = 117 ∧ r = 38 then s.1 117 38 else s.1 a r) = s.1 a r
    by_cases e : a = 117 ∧ r = 38
    · rw [if_pos e, e.1, e.2]
    · rw [if_neg e]
  by_cases h5 : i < D 0 5
  · have e1 := c_canScratch hC hv h5 hp
    have e2 := r_scr hR hv hp h5
    by_cases hz : d_isUp D i = true ∧ d_able D p i = true
    · rw [if_pos hz] at e2
      obtain ⟨t2, e2, e3, e4⟩ := e2
      obtain ⟨t1, e5, e6, e7⟩ := c_end hC hv h5
      have hw := d_way_le hv h5
      rw [hz.1, hz.2] at e1
      have hR' : LR Q P ma D0 t1 t2 (dscr D i (D 0 2) (D 0 2 + d_way D i)) n ov := by
        refine ⟨dV_scr hv (by omega) (by omega), e6, e3, ?_, ?_⟩
        · rw [dscr_l (by omega), dscr_l (by omega)]; exact he
        · rw [dscr_l (by omega), (e7 Q (by omega)).1, e4.2.1 117 (by omega)]
          exact hL
      obtain ⟨-, -, -, -, -, -, w6, -⟩ := hR'.2.2.2.2
      refine ⟨true, fu_pi t1 Q 6 (t1.1 Q 6 + 1), fu_pi t2 117 38 (t2.1 117 38 + 1), dscr D i (D 0 2) (D 0 2 + d_way D i), ?_, ?_, ?_, F1_tr (F1_c hQ e7) (F1_q (by omega)), F2_tr (F2_r e4) (F2_q (by omega)), ?_⟩
      · simp (maxSteps := 1000000) (disch := omega) only [ne_eq, i_lt0, i_le0, i_eq0, i_n1, i_ltl, i_lel, i_eql, i_lt, i_le, i_eq, i_in, i_tn, i_add, i_addl, i_addr, i_mul, i_mulr, i_mull, if_true, if_false, eq_self, decide_eq_true_eq, decide_true, decide_false, Option.bind_some, Option.bind_none, ↓fu_ltd, ↓reduceIte, ↓ob_ite, ↓ob_asc, Bool.false_eq_true, Bool.true_eq_false, not_true_eq_false, not_false_eq_true, Nat.not_lt_zero, Nat.le_zero_eq, Nat.reduceAdd, Nat.reduceMul, Nat.reduceSub, Nat.reduceEqDiff, Nat.reduceLT, Nat.reduceLeDiff, sC_def, sR_def, sC_1, sC_2, sR_1, sR_2, sC_st, sR_st, sR_no, sR_refuse, and_self, true_and, and_true, false_and, and_false, f_X3_isDone, e1, Bool.and_self, e5]
        simp
      · have b1 : ∀ x : Int32, x + fu_b true = x + 1 := fun x => rfl
        simp (maxSteps := 1000000) (disch := omega) only [ne_eq, i_lt0, i_le0, i_eq0, i_n1, i_ltl, i_lel, i_eql, i_lt, i_le, i_eq, i_in, i_tn, i_add, i_addl, i_addr, i_mul, i_mulr, i_mull, if_true, if_false, eq_self, decide_eq_true_eq, decide_true, decide_false, Option.bind_some, Option.bind_none, ↓fu_ltd, ↓reduceIte, ↓ob_ite, ↓ob_asc, Bool.false_eq_true, Bool.true_eq_false, not_true_eq_false, not_false_eq_true, Nat.not_lt_zero, Nat.le_zero_eq, Nat.reduceAdd, Nat.reduceMul, Nat.reduceSub, Nat.reduceEqDiff, Nat.reduceLT, Nat.reduceLeDiff, sC_def, sR_def, sC_1, sC_2, sR_1, sR_2, sC_st, sR_st, sR_no, sR_refuse, and_self, true_and, and_true, false_and, and_false, f_X12_isDone, e2, b1]
      · rw [w6]; exact LR_s hQ hR'
      · rw [p1n (by omega), (e7 (Q + 1) (by omega)).1]
    · rw [if_neg hz] at e2
      have hz' : (d_isUp D i && d_able D p i) = false := by
        cases q1 : d_isUp D i
        · rfl
        · cases q2 : d_able D p i
          · rfl
          · exact absurd ⟨q1, q2⟩ hz
      rw [hz'] at e1
      refine ⟨false, s1, s2, D, ?_, ?_, h, F1_rf, F2_rf, rfl⟩
      · simp (maxSteps := 1000000) (disch := omega) only [ne_eq, i_lt0, i_le0, i_eq0, i_n1, i_ltl, i_lel, i_eql, i_lt, i_le, i_eq, i_in, i_tn, i_add, i_addl, i_addr, i_mul, i_mulr, i_mull, if_true, if_false, eq_self, decide_eq_true_eq, decide_true, decide_false, Option.bind_some, Option.bind_none, ↓fu_ltd, ↓reduceIte, ↓ob_ite, ↓ob_asc, Bool.false_eq_true, Bool.true_eq_false, not_true_eq_false, not_false_eq_true, Nat.not_lt_zero, Nat.le_zero_eq, Nat.reduceAdd, Nat.reduceMul, Nat.reduceSub, Nat.reduceEqDiff, Nat.reduceLT, Nat.reduceLeDiff, sC_def, sR_def, sC_1, sC_2, sR_1, sR_2, sC_st, sR_st, sR_no, sR_refuse, and_self, true_and, and_true, false_and, and_false, f_X3_isDone, e1]
        simp
      · simp (maxSteps := 1000000) (disch := omega) only [ne_eq, i_lt0, i_le0, i_eq0, i_n1, i_ltl, i_lel, i_eql, i_lt, i_le, i_eq, i_in, i_tn, i_add, i_addl, i_addr, i_mul, i_mulr, i_mull, if_true, if_false, eq_self, decide_eq_true_eq, decide_true, decide_false, Option.bind_some, Option.bind_none, ↓fu_ltd, ↓reduceIte, ↓ob_ite, ↓ob_asc, Bool.false_eq_true, Bool.true_eq_false, not_true_eq_false, not_false_eq_true, Nat.not_lt_zero, Nat.le_zero_eq, Nat.reduceAdd, Nat.reduceMul, Nat.reduceSub, Nat.reduceEqDiff, Nat.reduceLT, Nat.reduceLeDiff, sC_def, sR_def, sC_1, sC_2, sR_1, sR_2, sC_st, sR_st, sR_no, sR_refuse, and_self, true_and, and_true, false_and, and_false, f_X12_isDone, e2, b0, w0]
  · have e1 := c_isUpF (t := i) hC hv (by omega) (by omega)
    have e2 : f_X4_canScratchNow s1 P (Int32.ofNat p) (Int32.ofNat i) = some false := by
      simp (maxSteps := 1000000) (disch := omega) only [ne_eq, i_lt0, i_le0, i_eq0, i_n1, i_ltl, i_lel, i_eql, i_lt, i_le, i_eq, i_in, i_tn, i_add, i_addl, i_addr, i_mul, i_mulr, i_mull, if_true, if_false, eq_self, decide_eq_true_eq, decide_true, decide_false, Option.bind_some, Option.bind_none, ↓fu_ltd, ↓reduceIte, ↓ob_ite, ↓ob_asc, Bool.false_eq_true, Bool.true_eq_false, not_true_eq_false, not_false_eq_true, Nat.not_lt_zero, Nat.le_zero_eq, Nat.reduceAdd, Nat.reduceMul, Nat.reduceSub, Nat.reduceEqDiff, Nat.reduceLT, Nat.reduceLeDiff, sC_def, sR_def, sC_1, sC_2, sR_1, sR_2, sC_st, sR_st, sR_no, sR_refuse, and_self, true_and, and_true, false_and, and_false, f_X4_canScratchNow, c_hasPerson hC, hp, e1]
    have et := r_isThing (x := Int32.ofNat i) hR hv
    refine ⟨false, s1, s2, D, ?_, ?_, h, F1_rf, F2_rf, rfl⟩
    · simp (maxSteps := 1000000) (disch := omega) only [ne_eq, i_lt0, i_le0, i_eq0, i_n1, i_ltl, i_lel, i_eql, i_lt, i_le, i_eq, i_in, i_tn, i_add, i_addl, i_addr, i_mul, i_mulr, i_mull, if_true, if_false, eq_self, decide_eq_true_eq, decide_true, decide_false, Option.bind_some, Option.bind_none, ↓fu_ltd, ↓reduceIte, ↓ob_ite, ↓ob_asc, Bool.false_eq_true, Bool.true_eq_false, not_true_eq_false, not_false_eq_true, Nat.not_lt_zero, Nat.le_zero_eq, Nat.reduceAdd, Nat.reduceMul, Nat.reduceSub, Nat.reduceEqDiff, Nat.reduceLT, Nat.reduceLeDiff, sC_def, sR_def, sC_1, sC_2, sR_1, sR_2, sC_st, sR_st, sR_no, sR_refuse, and_self, true_and, and_true, false_and, and_false, f_X3_isDone, e2]
      simp
    · simp (maxSteps := 1000000) (disch := omega) only [ne_eq, i_lt0, i_le0, i_eq0, i_n1, i_ltl, i_lel, i_eql, i_lt, i_le, i_eq, i_in, i_tn, i_add, i_addl, i_addr, i_mul, i_mulr, i_mull, if_true, if_false, eq_self, decide_eq_true_eq, decide_true, decide_false, Option.bind_some, Option.bind_none, ↓fu_ltd, ↓reduceIte, ↓ob_ite, ↓ob_asc, Bool.false_eq_true, Bool.true_eq_false, not_true_eq_false, not_false_eq_true, Nat.not_lt_zero, Nat.le_zero_eq, Nat.reduceAdd, Nat.reduceMul, Nat.reduceSub, Nat.reduceEqDiff, Nat.reduceLT, Nat.reduceLeDiff, sC_def, sR_def, sC_1, sC_2, sR_1, sR_2, sC_st, sR_st, sR_no, sR_refuse, and_self, true_and, and_true, false_and, and_false, f_X12_isDone, f_X12_scratches, et, h5, b0, w0]
end LF2
