/-! days that are lived: regions of lines against regions of steps -/
/-- what a run from line l to line e comes to, when the reference answers B -/
def RO (Q P PL ma : Nat) (D0 : dD) (g l e : Nat) (S : Prop) (s1 s2 : fu_S) (n : Nat) (B : Option fu_S) : Prop := ∃ t1 t2 D' n' ov j, B = some t2 ∧ LR Q P ma D0 t1 t2 D' n' ov ∧ F1 Q P s1 t1 ∧ F2 s2 t2 ∧ (∀ i, ¬ (l ≤ i ∧ i < e) → t1.1 (Q + 1) i = s1.1 (Q + 1) i) ∧ n ≤ n' ∧ (S → n < n' ∨ ov = true) ∧
  (ov = false → j ≤ (g + 1) * (n' - n) ∧ ∀ c b, b + j < 1000000 → l_X3_run_46 (c + j) s1 Q PL P (Int32.ofNat l) (Int32.ofNat b) = l_X3_run_46 c t1 Q PL P (Int32.ofNat e) (Int32.ofNat (b + j))) ∧
  (ov = true → j ≤ (g + 1) * (n' - n) + 1 ∧ ∀ c b, b + j < 1000000 → l_X3_run_46 (c + j) s1 Q PL P (Int32.ofNat l) (Int32.ofNat b) = some (.inl t1))
def RG (Q P PL ma : Nat) (D0 : dD) (s10 s20 : fu_S) (g lo hi l e : Nat) : Prop := ∀ F s1 s2 D n lf, g ≤ F → LR Q P ma D0 s1 s2 D n false → F1 Q P s10 s1 → F2 s20 s2 → hi - lo < lf → RO Q P PL ma D0 g l e (lo < hi) s1 s2 n (l_X12_doAll_2 (f_X12_doAll F) lf s2 (Int32.ofNat hi) (Int32.ofNat lo))
def RD (Q P PL ma : Nat) (D0 : dD) (s10 s20 : fu_S) (g lo l e : Nat) : Prop := ∀ F s1 s2 D n, g ≤ F → LR Q P ma D0 s1 s2 D n false → F1 Q P s10 s1 → F2 s20 s2 → RO Q P PL ma D0 g l e True s1 s2 n (f_X12_doOne (f_X12_doAll F) s2 (Int32.ofNat lo))
section RGS
variable {s t u s1 s2 t1 t2 s10 s20 : fu_S} {Q P PL ma b p k w i m v n q l N g lo hi e nx c F : Nat} {D D0 : dD} {ov : Bool} {x y : Int32} {S S' : Prop}
theorem F1_pl (hPL : PL + 5 ≤ Q ∧ (PL + 5 ≤ P ∨ P + 13 ≤ PL)) (h : F1 Q P s t) (hk : k < 5) : t.1 (PL + k) = s.1 (PL + k) := (h.1 (PL + k) (by omega) (by omega) (by omega)).1
theorem F2_st (h : F2 s t) (hi : 83 ≤ i) : t.1 122 i = s.1 122 i := h.2.2.2 i hi
theorem LR_ov (h : LR Q P ma D0 s1 s2 D n ov) : fu_tb (s2.1 117 32) = ov := h.2.2.2.2.2.2.2.2.2.2.2.2
theorem LR_n2 (h : LR Q P ma D0 s1 s2 D n ov) : n ≤ 300 ∧ s1.1 Q 2 = Int32.ofNat n ∧ s2.1 117 34 = Int32.ofNat n := h.2.2.2.2.2.1
/-- nothing to do -/
theorem RG_nil : RG Q P PL ma D0 s10 s20 g lo lo l l := by
  intro F s1 s2 D n lf hg h h1 h2 hf
  obtain ⟨f, rfl⟩ : ∃ f, lf = f + 1 := ⟨lf - 1, by omega⟩
  refine ⟨s1, s2, D, n, false, 0, ?_, h, F1_rf, F2_rf, fun _ _ => rfl, Nat.le_refl _, fun z => absurd z (Nat.lt_irrefl _), fun _ => ⟨Nat.zero_le _, fun c b _ => rfl⟩, fun z => Bool.noConfusion z⟩
  rw [l_X12_doAll_2]
  exact if_neg (fun z => Int32.lt_irrefl z)
theorem RO_j {j1 j2 a a1 a2 : Nat} (h1 : j1 ≤ (g + 1) * a1) (h2 : j2 ≤ (g + 1) * a2 + x.toNatClampNeg) (h : a = a1 + a2) : j1 + j2 ≤ (g + 1) * a + x.toNatClampNeg := by
  subst h
  rw [Nat.mul_add]
  omega
/-- a step, and what is behind it -/
theorem RG_of (hlo : lo < nx) (hnx : nx ≤ hi) (hhi : hi ≤ 30) (hle : l < k) (hke : k ≤ e) (hD : RD Q P PL ma D0 s10 s20 g lo l k) (hw : s20.1 122 (85 + 9 * lo + 8) = Int32.ofNat nx) (hG : RG Q P PL ma D0 s10 s20 g nx hi k e) : RG Q P PL ma D0 s10 s20 g lo hi l e := by
  intro F s1 s2 D n lf hg h h1 h2 hf
  obtain ⟨f, rfl⟩ : ∃ f, lf = f + 1 := ⟨lf - 1, by omega⟩
  obtain ⟨t1, t2, D', n', ov, j, e1, e2, e3, e4, e5, e6, e7, e8, e9⟩ := hD F s1 s2 D n hg h h1 h2
  have hov := LR_ov h
  have hlh : lo < hi := by omega
  have m1 : 85 + 9 * lo + 8 < 1775 := by omega
  have hw' : t2.1 122 (85 + 9 * lo + 8) = Int32.ofNat nx := by rw [F2_st e4 (by omega), F2_st h2 (by omega)]; exact hw
  have st : l_X12_doAll_2 (f_X12_doAll F) (f + 1) s2 (Int32.ofNat hi) (Int32.ofNat lo) = l_X12_doAll_2 (f_X12_doAll F) f t2 (Int32.ofNat hi) (Int32.ofNat nx) := by
    simp (maxSteps := 1000000) (disch := omega) only [ne_eq, i_lt0, i_le0, i_eq0, i_n1, i_ltl, i_lel, i_eql, i_lt, i_le, i_eq, i_in, i_tn, i_add, i_addl, i_addr, i_mul, i_mulr, i_mull, if_true, if_false, eq_self, decide_eq_true_eq, decide_true, decide_false, Option.bind_some, Option.bind_none, ↓fu_ltd, ↓reduceIte, ↓ob_ite, ↓ob_asc, Bool.false_eq_true, Bool.true_eq_false, not_true_eq_false, not_false_eq_true, Nat.not_lt_zero, Nat.le_zero_eq, Nat.reduceAdd, Nat.reduceMul, Nat.reduceSub, Nat.reduceEqDiff, Nat.reduceLT, Nat.reduceLeDiff, sC_def, sR_def, sC_1, sC_2, sR_1, sR_2, sC_st, sR_st, sR_no, sR_refuse, and_self, true_and, and_true, false_and, and_false, l_X12_doAll_2, hlh, hov, e1, m1, hw']
  cases ov
  · obtain ⟨u1, u2, D2, n2, ov2, j2, b1, b2, b3, b4, b5, b6, b7, b8, b9⟩ := hG F t1 t2 D' n' f hg e2 (F1_tr h1 e3) (F2_tr h2 e4) (by omega)
    have hn : n < n' := (e7 trivial).resolve_right (by simp)
    obtain ⟨e8a, e8b⟩ := e8 rfl
    refine ⟨u1, u2, D2, n2, ov2, j + j2, st.trans b1, b2, F1_tr e3 b3, F2_tr e4 b4, fun i hi => ?_, by omega, fun _ => .inl (by omega), fun z => ⟨?_, fun c b hb => ?_⟩, fun z => ⟨?_, fun c b hb => ?_⟩⟩
    · rw [b5 i (by omega), e5 i (by omega)]
    · have := (b8 z).1
      rw [show n2 - n = (n' - n) + (n2 - n') by omega, Nat.mul_add]
      omega
    · rw [show c + (j + j2) = (c + j2) + j by omega, e8b (c + j2) b (by omega), (b8 z).2 c (b + j) (by omega), Nat.add_assoc]
    · have := (b9 z).1
      rw [show n2 - n = (n' - n) + (n2 - n') by omega, Nat.mul_add]
      omega
    · rw [show c + (j + j2) = (c + j2) + j by omega, e8b (c + j2) b (by omega), (b9 z).2 c (b + j) (by omega)]
  · have st2 : l_X12_doAll_2 (f_X12_doAll F) f t2 (Int32.ofNat hi) (Int32.ofNat nx) = some t2 := by
      obtain ⟨f', rfl⟩ : ∃ f', f = f' + 1 := ⟨f - 1, by omega⟩
      have ho := LR_ov e2
      rw [l_X12_doAll_2, if_pos ho]
      exact ite_self _
    refine ⟨t1, t2, D', n', true, j, st.trans st2, e2, e3, e4, fun i hi => e5 i (by omega), e6, fun _ => .inr rfl, fun z => Bool.noConfusion z, fun _ => e9 rfl⟩
/-- the class's loop, a beat at a time -/
theorem R_end (hN : s1.1 PL 4 = Int32.ofNat N) (hN2 : N ≤ 60) (hm : m < N) (hb : b < 1000000) (h120 : s1.1 (PL + 1) m = 120) : l_X3_run_46 (c + 1) s1 Q PL P (Int32.ofNat m) (Int32.ofNat b) = Option.bind (f_X3_behindEnd s1 Q PL (Int32.ofNat m)) fun r => l_X3_run_46 c r.2 Q PL P r.1 (Int32.ofNat (b + 1)) := by
  have a1 := c_deedAt hN hN2 hm
  rw [h120] at a1
  simp (maxSteps := 1000000) (disch := omega) only [ne_eq, i_lt0, i_le0, i_eq0, i_n1, i_ltl, i_lel, i_eql, i_lt, i_le, i_eq, i_in, i_tn, i_add, i_addl, i_addr, i_mul, i_mulr, i_mull, if_true, if_false, eq_self, decide_eq_true_eq, decide_true, decide_false, Option.bind_some, Option.bind_none, ↓fu_ltd, ↓reduceIte, ↓ob_ite, ↓ob_asc, Bool.false_eq_true, Bool.true_eq_false, not_true_eq_false, not_false_eq_true, Nat.not_lt_zero, Nat.le_zero_eq, Nat.reduceAdd, Nat.reduceMul, Nat.reduceSub, Nat.reduceEqDiff, Nat.reduceLT, Nat.reduceLeDiff, sC_def, sR_def, sC_1, sC_2, sR_1, sR_2, sC_st, sR_st, sR_no, sR_refuse, and_self, true_and, and_true, false_and, and_false, l_X3_run_46, hb, f_X5_lines, hN, hm, a1, i_add1]
theorem R_cut (hN : s1.1 PL 4 = Int32.ofNat N) (hN2 : N ≤ 60) (hm : m < N) (hb : b < 1000000) (h120 : s1.1 (PL + 1) m ≠ 120) (hn : s1.1 Q 2 = Int32.ofNat 300) : l_X3_run_46 (c + 1) s1 Q PL P (Int32.ofNat m) (Int32.ofNat b) = some (.inl (fu_pi s1 Q 7 1)) := by
  have a1 := c_deedAt hN hN2 hm
  simp (maxSteps := 1000000) (disch := omega) only [ne_eq, i_lt0, i_le0, i_eq0, i_n1, i_ltl, i_lel, i_eql, i_lt, i_le, i_eq, i_in, i_tn, i_add, i_addl, i_addr, i_mul, i_mulr, i_mull, if_true, if_false, eq_self, decide_eq_true_eq, decide_true, decide_false, Option.bind_some, Option.bind_none, ↓fu_ltd, ↓reduceIte, ↓ob_ite, ↓ob_asc, Bool.false_eq_true, Bool.true_eq_false, not_true_eq_false, not_false_eq_true, Nat.not_lt_zero, Nat.le_zero_eq, Nat.reduceAdd, Nat.reduceMul, Nat.reduceSub, Nat.reduceEqDiff, Nat.reduceLT, Nat.reduceLeDiff, sC_def, sR_def, sC_1, sC_2, sR_1, sR_2, sC_st, sR_st, sR_no, sR_refuse, and_self, true_and, and_true, false_and, and_false, l_X3_run_46, hb, f_X5_lines, hN, hm, a1, h120, hn, Nat.lt_irrefl]
theorem R_stop (hN : s1.1 PL 4 = Int32.ofNat N) (hN2 : N ≤ 60) (hm : m < N) (hb : b < 1000000) (h121 : s1.1 (PL + 1) m = 121) (hn : s1.1 Q 2 = Int32.ofNat n) (hn3 : n < 300) : l_X3_run_46 (c + 1) s1 Q PL P (Int32.ofNat m) (Int32.ofNat b) = some (.inl (fu_pi s1 Q 2 (Int32.ofNat (n + 1)))) := by
  have a1 := c_deedAt hN hN2 hm
  rw [h121] at a1
  have q : ((121 : Int32) = 120) ↔ False := by decide
  simp (maxSteps := 1000000) (disch := omega) only [ne_eq, i_lt0, i_le0, i_eq0, i_n1, i_ltl, i_lel, i_eql, i_lt, i_le, i_eq, i_in, i_tn, i_add, i_addl, i_addr, i_mul, i_mulr, i_mull, if_true, if_false, eq_self, decide_eq_true_eq, decide_true, decide_false, Option.bind_some, Option.bind_none, ↓fu_ltd, ↓reduceIte, ↓ob_ite, ↓ob_asc, Bool.false_eq_true, Bool.true_eq_false, not_true_eq_false, not_false_eq_true, Nat.not_lt_zero, Nat.le_zero_eq, Nat.reduceAdd, Nat.reduceMul, Nat.reduceSub, Nat.reduceEqDiff, Nat.reduceLT, Nat.reduceLeDiff, sC_def, sR_def, sC_1, sC_2, sR_1, sR_2, sC_st, sR_st, sR_no, sR_refuse, and_self, true_and, and_true, false_and, and_false, l_X3_run_46, hb, f_X5_lines, hN, hm, a1, q, hn, hn3, i_add1]
theorem R_step (hN : s1.1 PL 4 = Int32.ofNat N) (hN2 : N ≤ 60) (hm : m < N) (hb : b < 1000000) (h120 : s1.1 (PL + 1) m ≠ 120) (h121 : s1.1 (PL + 1) m ≠ 121) (hn : s1.1 Q 2 = Int32.ofNat n) (hn3 : n < 300) : l_X3_run_46 (c + 1) s1 Q PL P (Int32.ofNat m) (Int32.ofNat b) = Option.bind (f_X3_behindStep (fu_pi s1 Q 2 (Int32.ofNat (n + 1))) Q PL P (Int32.ofNat m)) fun r => l_X3_run_46 c r.2 Q PL P r.1 (Int32.ofNat (b + 1)) := by
  have a1 := c_deedAt hN hN2 hm
  simp (maxSteps := 1000000) (disch := omega) only [ne_eq, i_lt0, i_le0, i_eq0, i_n1, i_ltl, i_lel, i_eql, i_lt, i_le, i_eq, i_in, i_tn, i_add, i_addl, i_addr, i_mul, i_mulr, i_mull, if_true, if_false, eq_self, decide_eq_true_eq, decide_true, decide_false, Option.bind_some, Option.bind_none, ↓fu_ltd, ↓reduceIte, ↓ob_ite, ↓ob_asc, Bool.false_eq_true, Bool.true_eq_false, not_true_eq_false, not_false_eq_true, Nat.not_lt_zero, Nat.le_zero_eq, Nat.reduceAdd, Nat.reduceMul, Nat.reduceSub, Nat.reduceEqDiff, Nat.reduceLT, Nat.reduceLeDiff, sC_def, sR_def, sC_1, sC_2, sR_1, sR_2, sC_st, sR_st, sR_no, sR_refuse, and_self, true_and, and_true, false_and, and_false, l_X3_run_46, hb, f_X5_lines, hN, hm, a1, h120, h121, hn, hn3, i_add1]
theorem R_out (hN : s1.1 PL 4 = Int32.ofNat N) (hN2 : N ≤ 60) (hb : b < 1000000) : l_X3_run_46 (c + 1) s1 Q PL P (Int32.ofNat N) (Int32.ofNat b) = some (.inr s1) := by
  simp (maxSteps := 1000000) (disch := omega) only [ne_eq, i_lt0, i_le0, i_eq0, i_n1, i_ltl, i_lel, i_eql, i_lt, i_le, i_eq, i_in, i_tn, i_add, i_addl, i_addr, i_mul, i_mulr, i_mull, if_true, if_false, eq_self, decide_eq_true_eq, decide_true, decide_false, Option.bind_some, Option.bind_none, ↓fu_ltd, ↓reduceIte, ↓ob_ite, ↓ob_asc, Bool.false_eq_true, Bool.true_eq_false, not_true_eq_false, not_false_eq_true, Nat.not_lt_zero, Nat.le_zero_eq, Nat.reduceAdd, Nat.reduceMul, Nat.reduceSub, Nat.reduceEqDiff, Nat.reduceLT, Nat.reduceLeDiff, sC_def, sR_def, sC_1, sC_2, sR_1, sR_2, sC_st, sR_st, sR_no, sR_refuse, and_self, true_and, and_true, false_and, and_false, l_X3_run_46, hb, f_X5_lines, hN, Nat.lt_irrefl]
/-- a step is begun when 300 are done -/
theorem RO_cut (hQ : P + 13 ≤ Q) (h : LR Q P ma D0 s1 s2 D 300 false) (hN : s1.1 PL 4 = Int32.ofNat N) (hN2 : N ≤ 60) (hl : l < N) (hle : l < e) (h120 : s1.1 (PL + 1) l ≠ 120) {K : fu_S → Int32 → Int32 → Option fu_S} : RO Q P PL ma D0 g l e S s1 s2 300 (f_X12_doOne K s2 y) := by
  obtain ⟨-, h2, h3⟩ := LR_n2 h
  have hL := h.2.2.2.2
  obtain ⟨a1, a2, a3, a4, a5, a6, a7, a8, a9⟩ := hL
  have h7 : LR Q P ma D0 (fu_pi s1 Q 7 1) (fu_pi s2 117 39 1) D 300 false := LR_w hQ h ⟨a1, a2, a3, a4, a5, a6, a7, rfl, a9⟩
  have h8 : LR Q P ma D0 (fu_pi s1 Q 7 1) (fu_pi (fu_pi s2 117 32 (fu_b true)) 117 39 1) D 300 true := by
    obtain ⟨hv, hC, hR, he, b1, b2, b3, b4, b5, b6, b7, b8, b9⟩ := h7
    have z : ∀ r, r ≠ 32 → r ≠ 39 → (fu_pi (fu_pi s2 117 32 (fu_b true)) 117 39 1).1 117 r = (fu_pi s2 117 39 1).1 117 r := fun r x1 x2 => by rw [p1q x2, p1q x1, p1q x2]
    refine ⟨hv, hC, dR_q hv (dR_q hv h.2.2.1), he, ?_, ?_, ?_, b4, ?_, ?_, ?_, ?_, ?_⟩
    · rw [z 33 (by omega) (by omega)]; exact b1
    · rw [z 34 (by omega) (by omega)]; exact b2
    · rw [z 35 (by omega) (by omega)]; exact b3
    · rw [z 36 (by omega) (by omega)]; exact b5
    · rw [z 37 (by omega) (by omega)]; exact b6
    · rw [z 38 (by omega) (by omega)]; exact b7
    · rw [p1, p1]
    · rw [p1q (by omega), p1]; rfl
  refine ⟨_, _, D, 300, true, 1, ?_, h8, F1_q (by omega), F2_tr (F2_q (by omega)) (F2_q (by omega)), fun i _ => by rw [p1n (by omega)], Nat.le_refl _, fun _ => .inr rfl, fun z => Bool.noConfusion z, fun _ => ⟨by omega, fun c b hb => R_cut hN hN2 hl (by omega) h120 h2⟩⟩
  have h3' : s2.1 117 34 = 300 := h3
  unfold f_X12_doOne
  rw [if_pos h3']
  rfl
section DON
variable {K : fu_S → Int32 → Int32 → Option fu_S} {V : fu_S}
theorem doOne_stop (h3 : s2.1 117 34 = Int32.ofNat n) (hn : n < 300) (hlo : lo < 30) (hV : V = fu_pi s2 117 34 (Int32.ofNat (n + 1))) (hk : V.1 122 (85 + 9 * lo) = 6) : f_X12_doOne K s2 (Int32.ofNat lo) = some (fu_pi V 117 32 (fu_b true)) := by
  have m1 : 85 + 9 * lo < 1775 := by omega
  have hn0 : ¬ n = 300 := by omega
  have q1 : ((6 : Int32) < 4) ↔ False := by decide
  have q2 : ((6 : Int32) = 4) ↔ False := by decide
  have q3 : ((6 : Int32) = 5) ↔ False := by decide
  have q4 : ((6 : Int32) ≤ 5) ↔ False := by decide
  simp (maxSteps := 1000000) (disch := omega) only [ne_eq, i_lt0, i_le0, i_eq0, i_n1, i_ltl, i_lel, i_eql, i_lt, i_le, i_eq, i_in, i_tn, i_add, i_addl, i_addr, i_mul, i_mulr, i_mull, if_true, if_false, eq_self, decide_eq_true_eq, decide_true, decide_false, Option.bind_some, Option.bind_none, ↓fu_ltd, ↓reduceIte, ↓ob_ite, ↓ob_asc, ↓Option.bind_some, Bool.false_eq_true, Bool.true_eq_false, not_true_eq_false, not_false_eq_true, Nat.not_lt_zero, Nat.le_zero_eq, Nat.reduceAdd, Nat.reduceMul, Nat.reduceSub, Nat.reduceEqDiff, Nat.reduceLT, Nat.reduceLeDiff, sC_def, sR_def, sC_1, sC_2, sR_1, sR_2, sC_st, sR_st, sR_no, sR_refuse, and_self, true_and, and_true, false_and, and_false, f_X12_doOne, h3, hn0, i_add1, ← hV, m1, hk, q1, q2, q3, q4]
theorem doOne_step {e : Bool} {r2 : fu_S} (h3 : s2.1 117 34 = Int32.ofNat n) (hn : n < 300) (hlo : lo < 30) (hV : V = fu_pi s2 117 34 (Int32.ofNat (n + 1))) (hk : V.1 122 (85 + 9 * lo) < 4) (he : f_X12_does V (Int32.ofNat (85 + 9 * lo)) = some (e, r2)) : f_X12_doOne K s2 (Int32.ofNat lo) = some (fu_pi r2 117 35 (V.1 117 35 + fu_b (!e))) := by
  have m1 : 85 + 9 * lo < 1775 := by omega
  have hn0 : ¬ n = 300 := by omega
  cases e
  · simp (maxSteps := 1000000) (disch := omega) only [ne_eq, i_lt0, i_le0, i_eq0, i_n1, i_ltl, i_lel, i_eql, i_lt, i_le, i_eq, i_in, i_tn, i_add, i_addl, i_addr, i_mul, i_mulr, i_mull, if_true, if_false, eq_self, decide_eq_true_eq, decide_true, decide_false, Option.bind_some, Option.bind_none, ↓fu_ltd, ↓reduceIte, ↓ob_ite, ↓ob_asc, ↓Option.bind_some, Bool.false_eq_true, Bool.true_eq_false, not_true_eq_false, not_false_eq_true, Nat.not_lt_zero, Nat.le_zero_eq, Nat.reduceAdd, Nat.reduceMul, Nat.reduceSub, Nat.reduceEqDiff, Nat.reduceLT, Nat.reduceLeDiff, sC_def, sR_def, sC_1, sC_2, sR_1, sR_2, sC_st, sR_st, sR_no, sR_refuse, and_self, true_and, and_true, false_and, and_false, f_X12_doOne, h3, hn0, i_add1, ← hV, m1, hk, he, Bool.not_false]
  · simp (maxSteps := 1000000) (disch := omega) only [ne_eq, i_lt0, i_le0, i_eq0, i_n1, i_ltl, i_lel, i_eql, i_lt, i_le, i_eq, i_in, i_tn, i_add, i_addl, i_addr, i_mul, i_mulr, i_mull, if_true, if_false, eq_self, decide_eq_true_eq, decide_true, decide_false, Option.bind_some, Option.bind_none, ↓fu_ltd, ↓reduceIte, ↓ob_ite, ↓ob_asc, ↓Option.bind_some, Bool.false_eq_true, Bool.true_eq_false, not_true_eq_false, not_false_eq_true, Nat.not_lt_zero, Nat.le_zero_eq, Nat.reduceAdd, Nat.reduceMul, Nat.reduceSub, Nat.reduceEqDiff, Nat.reduceLT, Nat.reduceLeDiff, sC_def, sR_def, sC_1, sC_2, sR_1, sR_2, sC_st, sR_st, sR_no, sR_refuse, and_self, true_and, and_true, false_and, and_false, f_X12_doOne, h3, hn0, i_add1, ← hV, m1, hk, he, Bool.not_true]
theorem doOne_when (h3 : s2.1 117 34 = Int32.ofNat n) (hn : n < 300) (hlo : lo < 30) (hV : V = fu_pi s2 117 34 (Int32.ofNat (n + 1))) (hk : V.1 122 (85 + 9 * lo) = 4) {z : Bool} (he : f_X12_holds V (Int32.ofNat (85 + 9 * lo)) = some z) : f_X12_doOne K s2 (Int32.ofNat lo) = if z = true then K V (Int32.ofNat (lo + 1)) (V.1 122 (85 + 9 * lo + 8)) else some V := by
  have m1 : 85 + 9 * lo < 1775 := by omega
  have m2 : 85 + 9 * lo + 8 < 1775 := by omega
  have hn0 : ¬ n = 300 := by omega
  have q1 : ((4 : Int32) < 4) ↔ False := by decide
  have q3 : ((4 : Int32) = 5) ↔ False := by decide
  have q4 : ((4 : Int32) ≤ 5) ↔ True := by decide
  cases z
  · simp (maxSteps := 1000000) (disch := omega) only [ne_eq, i_lt0, i_le0, i_eq0, i_n1, i_ltl, i_lel, i_eql, i_lt, i_le, i_eq, i_in, i_tn, i_add, i_addl, i_addr, i_mul, i_mulr, i_mull, if_true, if_false, eq_self, decide_eq_true_eq, decide_true, decide_false, Option.bind_some, Option.bind_none, ↓fu_ltd, ↓reduceIte, ↓ob_ite, ↓ob_asc, ↓Option.bind_some, Bool.false_eq_true, Bool.true_eq_false, not_true_eq_false, not_false_eq_true, Nat.not_lt_zero, Nat.le_zero_eq, Nat.reduceAdd, Nat.reduceMul, Nat.reduceSub, Nat.reduceEqDiff, Nat.reduceLT, Nat.reduceLeDiff, sC_def, sR_def, sC_1, sC_2, sR_1, sR_2, sC_st, sR_st, sR_no, sR_refuse, and_self, true_and, and_true, false_and, and_false, f_X12_doOne, h3, hn0, i_add1, ← hV, m1, hk, he, q1, q3, q4]
  · cases hz : K V (Int32.ofNat (lo + 1)) (V.1 122 (85 + 9 * lo + 8))
    · simp (maxSteps := 1000000) (disch := omega) only [ne_eq, i_lt0, i_le0, i_eq0, i_n1, i_ltl, i_lel, i_eql, i_lt, i_le, i_eq, i_in, i_tn, i_add, i_addl, i_addr, i_mul, i_mulr, i_mull, if_true, if_false, eq_self, decide_eq_true_eq, decide_true, decide_false, Option.bind_some, Option.bind_none, ↓fu_ltd, ↓reduceIte, ↓ob_ite, ↓ob_asc, ↓Option.bind_some, Bool.false_eq_true, Bool.true_eq_false, not_true_eq_false, not_false_eq_true, Nat.not_lt_zero, Nat.le_zero_eq, Nat.reduceAdd, Nat.reduceMul, Nat.reduceSub, Nat.reduceEqDiff, Nat.reduceLT, Nat.reduceLeDiff, sC_def, sR_def, sC_1, sC_2, sR_1, sR_2, sC_st, sR_st, sR_no, sR_refuse, and_self, true_and, and_true, false_and, and_false, f_X12_doOne, h3, hn0, i_add1, ← hV, m1, m2, hk, he, q1, q3, q4, hz]
    · simp (maxSteps := 1000000) (disch := omega) only [ne_eq, i_lt0, i_le0, i_eq0, i_n1, i_ltl, i_lel, i_eql, i_lt, i_le, i_eq, i_in, i_tn, i_add, i_addl, i_addr, i_mul, i_mulr, i_mull, if_true, if_false, eq_self, decide_eq_true_eq, decide_true, decide_false, Option.bind_some, Option.bind_none, ↓fu_ltd, ↓reduceIte, ↓ob_ite, ↓ob_asc, ↓Option.bind_some, Bool.false_eq_true, Bool.true_eq_false, not_true_eq_false, not_false_eq_true, Nat.not_lt_zero, Nat.le_zero_eq, Nat.reduceAdd, Nat.reduceMul, Nat.reduceSub, Nat.reduceEqDiff, Nat.reduceLT, Nat.reduceLeDiff, sC_def, sR_def, sC_1, sC_2, sR_1, sR_2, sC_st, sR_st, sR_no, sR_refuse, and_self, true_and, and_true, false_and, and_false, f_X12_doOne, h3, hn0, i_add1, ← hV, m1, m2, hk, he, q1, q3, q4, hz]
theorem doOne_loop (h3 : s2.1 117 34 = Int32.ofNat n) (hn : n < 300) (hlo : lo < 30) (hV : V = fu_pi s2 117 34 (Int32.ofNat (n + 1))) (hk : V.1 122 (85 + 9 * lo) = 5) : f_X12_doOne K s2 (Int32.ofNat lo) = l_X12_doOne_116 K fu_N V (Int32.ofNat lo) (Int32.ofNat (85 + 9 * lo)) 0 := by
  have m1 : 85 + 9 * lo < 1775 := by omega
  have hn0 : ¬ n = 300 := by omega
  have q1 : ((5 : Int32) < 4) ↔ False := by decide
  have q3 : ((5 : Int32) = 4) ↔ False := by decide
  cases hz : l_X12_doOne_116 K fu_N V (Int32.ofNat lo) (Int32.ofNat (85 + 9 * lo)) 0
  · simp (maxSteps := 1000000) (disch := omega) only [ne_eq, i_lt0, i_le0, i_eq0, i_n1, i_ltl, i_lel, i_eql, i_lt, i_le, i_eq, i_in, i_tn, i_add, i_addl, i_addr, i_mul, i_mulr, i_mull, if_true, if_false, eq_self, decide_eq_true_eq, decide_true, decide_false, Option.bind_some, Option.bind_none, ↓fu_ltd, ↓reduceIte, ↓ob_ite, ↓ob_asc, ↓Option.bind_some, Bool.false_eq_true, Bool.true_eq_false, not_true_eq_false, not_false_eq_true, Nat.not_lt_zero, Nat.le_zero_eq, Nat.reduceAdd, Nat.reduceMul, Nat.reduceSub, Nat.reduceEqDiff, Nat.reduceLT, Nat.reduceLeDiff, sC_def, sR_def, sC_1, sC_2, sR_1, sR_2, sC_st, sR_st, sR_no, sR_refuse, and_self, true_and, and_true, false_and, and_false, f_X12_doOne, h3, hn0, i_add1, ← hV, m1, hk, q1, q3, hz]
  · simp (maxSteps := 1000000) (disch := omega) only [ne_eq, i_lt0, i_le0, i_eq0, i_n1, i_ltl, i_lel, i_eql, i_lt, i_le, i_eq, i_in, i_tn, i_add, i_addl, i_addr, i_mul, i_mulr, i_mull, if_true, if_false, eq_self, decide_eq_true_eq, decide_true, decide_false, Option.bind_some, Option.bind_none, ↓fu_ltd, ↓reduceIte, ↓ob_ite, ↓ob_asc, ↓Option.bind_some, Bool.false_eq_true, Bool.true_eq_false, not_true_eq_false, not_false_eq_true, Nat.not_lt_zero, Nat.le_zero_eq, Nat.reduceAdd, Nat.reduceMul, Nat.reduceSub, Nat.reduceEqDiff, Nat.reduceLT, Nat.reduceLeDiff, sC_def, sR_def, sC_1, sC_2, sR_1, sR_2, sC_st, sR_st, sR_no, sR_refuse, and_self, true_and, and_true, false_and, and_false, f_X12_doOne, h3, hn0, i_add1, ← hV, m1, hk, q1, q3, hz]
end DON
/-- the stop -/
theorem RO_stop (hQ : P + 13 ≤ Q) (h : LR Q P ma D0 s1 s2 D n false) (hn : n < 300) (hN : s1.1 PL 4 = Int32.ofNat N) (hN2 : N ≤ 60) (hl : l < N) (hle : l < e) (hlo : lo < 30) (h121 : s1.1 (PL + 1) l = 121) (hk : s2.1 122 (85 + 9 * lo) = 6) {K : fu_S → Int32 → Int32 → Option fu_S} : RO Q P PL ma D0 g l e S s1 s2 n (f_X12_doOne K s2 (Int32.ofNat lo)) := by
  obtain ⟨-, h2, h3⟩ := LR_n2 h
  have h7 := LR_n hQ h hn
  have h8 : LR Q P ma D0 (fu_pi s1 Q 2 (Int32.ofNat (n + 1))) (fu_pi (fu_pi s2 117 34 (Int32.ofNat (n + 1))) 117 32 (fu_b true)) D (n + 1) true := by
    obtain ⟨hv, hC, hR, he, b1, b2, b3, b4, b5, b6, b7, b8, b9⟩ := h7
    generalize fu_pi s2 117 34 (Int32.ofNat (n + 1)) = V at *
    have z : ∀ r, r ≠ 32 → (fu_pi V 117 32 (fu_b true)).1 117 r = V.1 117 r := fun r x1 => p1q x1
    refine ⟨hv, hC, dR_q hv hR, he, ?_, ?_, ?_, b4, ?_, ?_, ?_, ?_, ?_⟩
    · rw [z 33 (by omega)]; exact b1
    · rw [z 34 (by omega)]; exact b2
    · rw [z 35 (by omega)]; exact b3
    · rw [z 36 (by omega)]; exact b5
    · rw [z 37 (by omega)]; exact b6
    · rw [z 38 (by omega)]; exact b7
    · rw [z 39 (by omega)]; exact b8
    · rw [p1]; rfl
  refine ⟨_, _, D, n + 1, true, 1, ?_, h8, F1_q (by omega), F2_tr (F2_q (by omega)) (F2_q (by omega)), fun i _ => by rw [p1n (by omega)], by omega, fun _ => .inr rfl, fun z => Bool.noConfusion z, fun _ => ⟨by omega, fun c b hb => R_stop hN hN2 hl (by omega) h121 h2 hn⟩⟩
  exact doOne_stop h3 hn hlo rfl (by rw [p1n (by omega)]; exact hk)
/-- a step that is no block -/
theorem RD_step (hQ : P + 13 ≤ Q) (hPL : PL + 5 ≤ Q ∧ (PL + 5 ≤ P ∨ P + 13 ≤ PL)) (hN : s10.1 PL 4 = Int32.ofNat N) (hN2 : N ≤ 60) (hl : l < N) (hlo : lo < 30) (hd : dS s10 PL s20 (85 + 9 * lo) D0 l) : RD Q P PL ma D0 s10 s20 g lo l (l + 1) := by
  intro F s1 s2 D n hg h h1 h2
  have hp := fun k hk => F1_pl (k := k) hPL h1 hk
  have hN' : s1.1 PL 4 = Int32.ofNat N := by rw [show s1.1 PL = s10.1 PL from hp 0 (by omega)]; exact hN
  have h120 : s1.1 (PL + 1) l ≠ 120 := by
    rw [hp 1 (by omega)]
    rcases hd with ⟨z, -⟩ | ⟨z, -⟩ | ⟨z, -⟩ | ⟨z, -⟩ | ⟨z, -⟩ <;> rw [z] <;> decide
  obtain ⟨n3, n4, n5⟩ := LR_n2 h
  by_cases h3 : n = 300
  · subst h3
    exact RO_cut hQ h hN' hN2 hl (by omega) h120
  · have hn : n < 300 := by omega
    have hd1 : dS s1 PL s2 (85 + 9 * lo) D0 l := dS_mv (fun k _ _ => by rw [hp k (by omega)]) (fun i hi => F2_st h2 (by omega)) hd
    have hd2 : dS s1 PL s2 (85 + 9 * lo) D l := dS_mono (Nat.le_of_eq h.2.2.2.1.2.symm) (Nat.le_of_eq h.2.2.2.1.1.symm) hd1
    by_cases h121 : s1.1 (PL + 1) l = 121
    · refine RO_stop hQ h hn hN' hN2 hl (by omega) hlo h121 ?_
      rcases hd2 with ⟨z, -⟩ | ⟨z, -⟩ | ⟨z, -⟩ | ⟨z, -⟩ | ⟨-, z⟩
      · rw [h121] at z; exact absurd z (by decide)
      · rw [h121] at z; exact absurd z (by decide)
      · rw [h121] at z; exact absurd z (by decide)
      · rw [h121] at z; exact absurd z (by decide)
      · exact z
    · have h7 := LR_n hQ h hn
      obtain ⟨U, hU⟩ : ∃ U, U = fu_pi s1 Q 2 (Int32.ofNat (n + 1)) := ⟨_, rfl⟩
      obtain ⟨V, hV⟩ : ∃ V, V = fu_pi s2 117 34 (Int32.ofNat (n + 1)) := ⟨_, rfl⟩
      have f1 : F1 Q P s1 U := by rw [hU]; exact F1_q (by omega)
      have f2 : F2 s2 V := by rw [hV]; exact F2_q (by omega)
      have hq : U.1 (Q + 1) = s1.1 (Q + 1) := by rw [hU, p1n (by omega)]
      rw [← hU, ← hV] at h7
      have hd3 : dS U PL V (85 + 9 * lo) D l := dS_mv (fun k _ _ => by rw [F1_pl hPL f1 (by omega)]) (fun i hi => F2_st f2 (by omega)) hd2
      have hNU : U.1 PL 4 = Int32.ofNat N := by rw [show U.1 PL = s1.1 PL from F1_pl (k := 0) hPL f1 (by omega)]; exact hN'
      have h121' : U.1 (PL + 1) l ≠ 121 := by rw [F1_pl hPL f1 (by omega)]; exact h121
      obtain ⟨k4, e, t1, r2, D', z1, z2, z3, z4, z5, z6⟩ := L_beh hQ h7 hNU hN2 hl (by omega) hd3 h121'
      refine ⟨t1, _, D', n + 1, false, 1, doOne_step n5 hn hlo hV k4 z2, z3, F1_tr f1 z4, F2_tr f2 z5, fun i _ => by rw [z6, hq], by omega, fun _ => .inl (by omega), fun _ => ⟨?_, fun c b hb => ?_⟩, fun z => Bool.noConfusion z⟩
      · rw [show n + 1 - n = 1 by omega]; omega
      · rw [R_step hN' hN2 hl (by omega) h120 h121 n4 hn, ← hU, z1]
        rfl
end RGS
