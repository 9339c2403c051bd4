/-! days that are lived: a step that is no block -/
section LF3
variable {s t u s1 s2 t1 t2 : fu_S} {Q P PL ma b p k w i m v n q l N : Nat} {D D0 : dD} {ov : Bool} {x y : Int32}
theorem c_hasL (hN : s.1 PL 4 = Int32.ofNat N) (hN2 : N ≤ 60) (hl : l < 2147483648) : f_X5_hasLine s PL (Int32.ofNat l) = decide (l < N) := by
  unfold f_X5_hasLine fu_lt
  rw [hN, if_neg (i_neg hl)]
  by_cases h : l < N
  · rw [if_pos ((i_lt hl (by omega)).mpr h), decide_eq_true h]
  · rw [if_neg (fun z => h ((i_lt hl (by omega)).mp z)), decide_eq_false h]
theorem c_deedAt (hN : s.1 PL 4 = Int32.ofNat N) (hN2 : N ≤ 60) (hl : l < N) : f_X5_deedAt s PL (Int32.ofNat l) = some (s.1 (PL + 1) l) := by
  have e := c_hasL (l := l) hN hN2 (by omega)
  have h60 : l < 60 := by omega
  simp (maxSteps := 1000000) (disch := omega) only [ne_eq, i_lt0, i_le0, i_eq0, i_n1, i_ltl, i_lel, i_eql, i_lt, i_le, i_eq, i_in, i_tn, i_add, i_addl, i_addr, i_mul, i_mulr, i_mull, if_true, if_false, eq_self, decide_eq_true_eq, decide_true, decide_false, Option.bind_some, Option.bind_none, ↓fu_ltd, ↓reduceIte, ↓ob_ite, ↓ob_asc, Bool.false_eq_true, Bool.true_eq_false, not_true_eq_false, not_false_eq_true, Nat.not_lt_zero, Nat.le_zero_eq, Nat.reduceAdd, Nat.reduceMul, Nat.reduceSub, Nat.reduceEqDiff, Nat.reduceLT, Nat.reduceLeDiff, sC_def, sR_def, sC_1, sC_2, sR_1, sR_2, sC_st, sR_st, sR_no, sR_refuse, and_self, true_and, and_true, false_and, and_false, f_X5_deedAt, e, hl, h60]
theorem c_firstAt (hN : s.1 PL 4 = Int32.ofNat N) (hN2 : N ≤ 60) (hl : l < N) : f_X5_firstAt s PL (Int32.ofNat l) = some (s.1 (PL + 2) l) := by
  have e := c_hasL (l := l) hN hN2 (by omega)
  have h60 : l < 60 := by omega
  simp (maxSteps := 1000000) (disch := omega) only [ne_eq, i_lt0, i_le0, i_eq0, i_n1, i_ltl, i_lel, i_eql, i_lt, i_le, i_eq, i_in, i_tn, i_add, i_addl, i_addr, i_mul, i_mulr, i_mull, if_true, if_false, eq_self, decide_eq_true_eq, decide_true, decide_false, Option.bind_some, Option.bind_none, ↓fu_ltd, ↓reduceIte, ↓ob_ite, ↓ob_asc, Bool.false_eq_true, Bool.true_eq_false, not_true_eq_false, not_false_eq_true, Nat.not_lt_zero, Nat.le_zero_eq, Nat.reduceAdd, Nat.reduceMul, Nat.reduceSub, Nat.reduceEqDiff, Nat.reduceLT, Nat.reduceLeDiff, sC_def, sR_def, sC_1, sC_2, sR_1, sR_2, sC_st, sR_st, sR_no, sR_refuse, and_self, true_and, and_true, false_and, and_false, f_X5_firstAt, e, hl, h60]
theorem c_secondAt (hN : s.1 PL 4 = Int32.ofNat N) (hN2 : N ≤ 60) (hl : l < N) : f_X5_secondAt s PL (Int32.ofNat l) = some (s.1 (PL + 3) l) := by
  have e := c_hasL (l := l) hN hN2 (by omega)
  have h60 : l < 60 := by omega
  simp (maxSteps := 1000000) (disch := omega) only [ne_eq, i_lt0, i_le0, i_eq0, i_n1, i_ltl, i_lel, i_eql, i_lt, i_le, i_eq, i_in, i_tn, i_add, i_addl, i_addr, i_mul, i_mulr, i_mull, if_true, if_false, eq_self, decide_eq_true_eq, decide_true, decide_false, Option.bind_some, Option.bind_none, ↓fu_ltd, ↓reduceIte, ↓ob_ite, ↓ob_asc, Bool.false_eq_true, Bool.true_eq_false, not_true_eq_false, not_false_eq_true, Nat.not_lt_zero, Nat.le_zero_eq, Nat.reduceAdd, Nat.reduceMul, Nat.reduceSub, Nat.reduceEqDiff, Nat.reduceLT, Nat.reduceLeDiff, sC_def, sR_def, sC_1, sC_2, sR_1, sR_2, sC_st, sR_st, sR_no, sR_refuse, and_self, true_and, and_true, false_and, and_false, f_X5_secondAt, e, hl, h60]
theorem c_mateAt (hN : s.1 PL 4 = Int32.ofNat N) (hN2 : N ≤ 60) (hl : l < N) : f_X5_mateAt s PL (Int32.ofNat l) = some (s.1 (PL + 4) l) := by
  have e := c_hasL (l := l) hN hN2 (by omega)
  have h60 : l < 60 := by omega
  simp (maxSteps := 1000000) (disch := omega) only [ne_eq, i_lt0, i_le0, i_eq0, i_n1, i_ltl, i_lel, i_eql, i_lt, i_le, i_eq, i_in, i_tn, i_add, i_addl, i_addr, i_mul, i_mulr, i_mull, if_true, if_false, eq_self, decide_eq_true_eq, decide_true, decide_false, Option.bind_some, Option.bind_none, ↓fu_ltd, ↓reduceIte, ↓ob_ite, ↓ob_asc, Bool.false_eq_true, Bool.true_eq_false, not_true_eq_false, not_false_eq_true, Nat.not_lt_zero, Nat.le_zero_eq, Nat.reduceAdd, Nat.reduceMul, Nat.reduceSub, Nat.reduceEqDiff, Nat.reduceLT, Nat.reduceLeDiff, sC_def, sR_def, sC_1, sC_2, sR_1, sR_2, sC_st, sR_st, sR_no, sR_refuse, and_self, true_and, and_true, false_and, and_false, f_X5_mateAt, e, hl, h60]
theorem n112a : ((112 : Int32) = 114) ↔ False := by decide
theorem n112b : ((112 : Int32) = 115) ↔ False := by decide
theorem n112c : ((112 : Int32) = 119) ↔ False := by decide
theorem n111a : ((111 : Int32) = 114) ↔ False := by decide
theorem n111b : ((111 : Int32) = 115) ↔ False := by decide
theorem n111c : ((111 : Int32) = 119) ↔ False := by decide
theorem n113a : ((113 : Int32) = 114) ↔ False := by decide
theorem n113b : ((113 : Int32) = 115) ↔ False := by decide
theorem n113c : ((113 : Int32) = 119) ↔ False := by decide
theorem n113d : ((113 : Int32) = 112) ↔ False := by decide
theorem n114b : ((114 : Int32) = 115) ↔ False := by decide
theorem n114c : ((114 : Int32) = 119) ↔ False := by decide
theorem n10 : ((1 : Int32) = 0) ↔ False := by decide
theorem n20 : ((2 : Int32) = 0) ↔ False := by decide
theorem n21 : ((2 : Int32) = 1) ↔ False := by decide
theorem n30 : ((3 : Int32) = 0) ↔ False := by decide
theorem n31 : ((3 : Int32) = 1) ↔ False := by decide
theorem n32 : ((3 : Int32) = 2) ↔ False := by decide
theorem b_f : fu_b false = 0 := rfl
theorem b_t : fu_b true = 1 := rfl
/-- what a step leaves, when it is no block -/
def LB (Q P ma : Nat) (D0 : dD) (s1 s2 : fu_S) (n : Nat) (ov : Bool) (A : Option (Int32 × fu_S)) (l' : Int32) (B : Option (Bool × fu_S)) : Prop := ∃ e t1 r2 D', A = some (l', t1) ∧ B = some (e, r2) ∧ LR Q P ma D0 t1 (fu_pi r2 117 35 (s2.1 117 35 + fu_b (!e))) D' n ov ∧ F1 Q P s1 t1 ∧ F2 s2 (fu_pi r2 117 35 (s2.1 117 35 + fu_b (!e))) ∧ t1.1 (Q + 1) = s1.1 (Q + 1)
theorem LB_of {A' : Option (Bool × fu_S)} {B' : Option (Bool × fu_S)} {A : Option (Int32 × fu_S)} {l' : Int32} {u1 u2 : fu_S} (hQ : P + 13 ≤ Q) (h : LO Q P ma D0 u1 u2 n ov A' B') (h3 : u1.1 Q 3 = s2.1 117 35) (hF1 : F1 Q P s1 u1) (hF2 : F2 s2 u2) (hq : u1.1 (Q + 1) = s1.1 (Q + 1)) (hA : ∀ e t1, A' = some (e, t1) → A = some (l', fu_pi t1 Q 3 (u1.1 Q 3 + fu_b (!e)))) : LB Q P ma D0 s1 s2 n ov A l' B' := by
  obtain ⟨e, t1, t2, D', e1, e2, e3, e4, e5, e6⟩ := h
  refine ⟨e, _, t2, D', hA e t1 e1, e2, ?_, F1_tr hF1 (F1_tr e4 (F1_q (by omega))), F2_tr hF2 (F2_tr e5 (F2_q (by omega))), ?_⟩
  · rw [← h3]; exact LR_m hQ e3
  · rw [p1n (by omega), e6, hq]
/-- what is drawn for an any -/
def bR (s : fu_S) (Q P : Nat) : Option (Int32 × Int32 × Int32 × fu_S) :=
  if (f_X4_people s P) ≤ 0 then some (114, 0, 0, s) else if (f_X4_things s P) ≤ 0 then some (114, 0, 0, s) else
    Option.bind (f_X3_draw s Q (f_X4_people s P)) fun r8 => Option.bind (f_X3_draw r8.2 Q (f_X4_things r8.2 P)) fun r9 => Option.bind (f_X3_draw r9.2 Q (16 : Int32)) fun r10 =>
      Option.bind (if r10.1 < (f_X4_odds r10.2 P) then some (113 : Int32) else some (112 : Int32)) fun (j11 : Int32) => Option.bind (if j11 = (112 : Int32) then some (1 : Int32) else some r8.1) fun (j13 : Int32) => some (j11, j13, r9.1, r10.2)
theorem c_behA {d f i : Int32} {e : Bool} (a1 : f_X5_deedAt s PL (Int32.ofNat l) = some 114) (a2 : f_X5_firstAt s PL (Int32.ofNat l) = some 0) (a3 : f_X5_secondAt s PL (Int32.ofNat l) = some 0) (hb : bR s Q P = some (d, f, i, u)) (hd1 : d ≠ 115) (hd2 : d ≠ 119) (hI : f_X3_isDone u Q P d f i = some (e, t1)) : f_X3_behindStep s Q PL P (Int32.ofNat l) = some (Int32.ofNat (l + 1), fu_pi t1 Q 3 (u.1 Q 3 + fu_b (!e))) := by
  unfold f_X3_behindStep
  rw [a1, a2, a3]
  refine (congrArg (fun z => Option.bind z _) ((if_pos rfl).trans hb)).trans ?_
  show (if d = (115 : Int32) then _ else if d = (119 : Int32) then _ else Option.bind (f_X3_isDone u Q P d f i) _) = _
  rw [if_neg hd1, if_neg hd2, hI, ← i_add1]
  cases e <;> rfl
theorem c_behB {d f i : Int32} {e : Bool} (a1 : f_X5_deedAt s PL (Int32.ofNat l) = some d) (a2 : f_X5_firstAt s PL (Int32.ofNat l) = some f) (a3 : f_X5_secondAt s PL (Int32.ofNat l) = some i) (hd0 : d ≠ 114) (hd1 : d ≠ 115) (hd2 : d ≠ 119) (hI : f_X3_isDone s Q P d f i = some (e, t1)) : f_X3_behindStep s Q PL P (Int32.ofNat l) = some (Int32.ofNat (l + 1), fu_pi t1 Q 3 (s.1 Q 3 + fu_b (!e))) := by
  unfold f_X3_behindStep
  rw [a1, a2, a3]
  refine (congrArg (fun z => Option.bind z _) (if_neg hd0)).trans ?_
  show (if d = (115 : Int32) then _ else if d = (119 : Int32) then _ else Option.bind (f_X3_isDone s Q P d f i) _) = _
  rw [if_neg hd1, if_neg hd2, hI, ← i_add1]
  cases e <;> rfl
section BRR
variable {U1 U2 U3 V1 V2 V3 : fu_S} {j : Nat}
theorem c_bR1 (c4 : s.1 P 4 = Int32.ofNat p) (c5 : s.1 P 5 = Int32.ofNat i) (hp : p < 8) (hi : i < 9) (h4 : ¬ p = 0) (h5 : ¬ i = 0) (b5 : U1.1 P 5 = Int32.ofNat i) (b0 : U3.1 P 0 = Int32.ofNat k) (hk : k ≤ 16) {x1 x2 : Int32} (y2 : f_X3_draw s Q (Int32.ofNat p) = some (x1, U1)) (y6 : f_X3_draw U1 Q (Int32.ofNat i) = some (x2, U2)) (y10 : f_X3_draw U2 Q 16 = some (Int32.ofNat j, U3)) (hj : j < 16) : bR s Q P = if j < k then some (113, x1, x2, U3) else some (112, 1, x2, U3) := by
  unfold bR f_X4_people f_X4_things f_X4_odds
  generalize (16 : Int32) = z16 at *
  rw [c4, c5, if_neg (fun z => h4 ((i_le0 (by omega)).mp z)), if_neg (fun z => h5 ((i_le0 (by omega)).mp z)), y2]
  show Option.bind (f_X3_draw U1 Q (U1.1 P 5)) _ = _
  rw [b5, y6]
  show Option.bind (f_X3_draw U2 Q z16) _ = _
  rw [y10]
  show Option.bind (if Int32.ofNat j < U3.1 P 0 then some (113 : Int32) else some (112 : Int32)) _ = _
  rw [b0]
  by_cases ho : j < k
  · rw [if_pos ((i_lt (by omega) (by omega)).mpr ho), if_pos ho]
    rfl
  · rw [if_neg (fun z => ho ((i_lt (by omega) (by omega)).mp z)), if_neg ho]
    rfl
theorem r_any1 (c4 : s.1 122 1 = Int32.ofNat p) (c5 : s.1 122 2 = Int32.ofNat i) (hp : p < 8) (hi : i < 9) (h4 : ¬ p = 0) (h5 : ¬ i = 0) (b5 : V1.1 122 2 = Int32.ofNat i) (b0 : V3.1 122 3 = Int32.ofNat k) (hk : k ≤ 16) {x1 x2 : Int32} (y2 : f_X12_draw s (Int32.ofNat p) = some (x1, V1)) (y6 : f_X12_draw V1 (Int32.ofNat i) = some (x2, V2)) (y10 : f_X12_draw V2 16 = some (Int32.ofNat j, V3)) (hj : j < 16) {A B : Bool × fu_S} (hA : j < k → f_X12_isDone V3 x1 x2 = some A) (hB : ¬ j < k → f_X12_waits V3 1 = some B) : f_X12_isAny s = some (if j < k then A else B) := by
  unfold f_X12_isAny
  generalize (16 : Int32) = z16 at *
  rw [c4, c5, if_neg (fun z => h4 ((i_eq0 (by omega)).mp z)), if_neg (fun z => h5 ((i_eq0 (by omega)).mp z)), y2, Option.bind_some]
  dsimp only
  rw [b5, y6, Option.bind_some]
  dsimp only
  rw [y10, Option.bind_some]
  dsimp only
  rw [b0]
  by_cases ho : j < k
  · rw [if_pos ((i_lt (by omega) (by omega)).mpr ho), if_pos ho, hA ho, Option.bind_some, Option.bind_some]
  · rw [if_neg (fun z => ho ((i_lt (by omega) (by omega)).mp z)), if_neg ho, hB ho, Option.bind_some, Option.bind_some]
end BRR
theorem L_draw2 (hQ : P + 13 ≤ Q) (h : LR Q P ma D0 s1 s2 D n ov) (hm : 0 < m) (hm2 : m < 1000) : ∃ d u1 u2, d < m ∧ f_X3_draw s1 Q (Int32.ofNat m) = some (Int32.ofNat d, u1) ∧ f_X12_draw s2 (Int32.ofNat m) = some (Int32.ofNat d, u2) ∧ LR Q P ma D0 u1 u2 D n ov ∧ F1 Q P s1 u1 ∧ F2 s2 u2 ∧ u1.1 (Q + 1) = s1.1 (Q + 1) ∧ u2.1 117 35 = s2.1 117 35 := by
  obtain ⟨x1, p, y1, y2, y3, y4⟩ := L_draw hQ h hm hm2
  exact ⟨p, _, _, y1, y2, y3, y4, F1_q (by omega), F2_q (by omega), p1n (by omega), p1q (by omega)⟩
theorem L_any (hQ : P + 13 ≤ Q) (h : LR Q P ma D0 s1 s2 D n ov) (a1 : f_X5_deedAt s1 PL (Int32.ofNat l) = some 114) (a2 : f_X5_firstAt s1 PL (Int32.ofNat l) = some 0) (a3 : f_X5_secondAt s1 PL (Int32.ofNat l) = some 0) : LB Q P ma D0 s1 s2 n ov (f_X3_behindStep s1 Q PL P (Int32.ofNat l)) (Int32.ofNat (l + 1)) (f_X12_isAny s2) := by
  have hL := h.2.2.2.2
  obtain ⟨hv, hC, hR, he, -⟩ := id h
  have hp4 := hv.1
  have q3 := hL.2.2.1
  have c4 := hC.1.2.2.2.2.1
  have c5 := hC.1.2.2.2.2.2
  have g1 := (dR_0 hR).1.2.1
  have g2 := (dR_0 hR).1.2.2.1
  have none : (bR s1 Q P = some (114, 0, 0, s1)) → (f_X12_isAny s2 = some (false, s2)) → LB Q P ma D0 s1 s2 n ov (f_X3_behindStep s1 Q PL P (Int32.ofNat l)) (Int32.ofNat (l + 1)) (f_X12_isAny s2) := fun z1 z2 => by
    have hI : f_X3_isDone s1 Q P 114 0 0 = some (false, s1) := by
      unfold f_X3_isDone
      rw [if_neg (by decide), if_neg (by decide), if_neg (by decide)]
    refine ⟨false, _, s2, D, c_behA a1 a2 a3 z1 (by decide) (by decide) hI, z2, ?_, F1_q (by omega), F2_q (by omega), p1n (by omega)⟩
    rw [q3]; exact LR_m hQ h
  by_cases h4 : D 0 4 = 0
  · refine none ?_ ?_
    · simp (maxSteps := 1000000) (disch := omega) only [ne_eq, i_lt0, i_le0, i_eq0, i_n1, i_ltl, i_lel, i_eql, i_lt, i_le, i_eq, i_in, i_tn, i_add, i_addl, i_addr, i_mul, i_mulr, i_mull, if_true, if_false, eq_self, decide_eq_true_eq, decide_true, decide_false, Option.bind_some, Option.bind_none, ↓fu_ltd, ↓reduceIte, ↓ob_ite, ↓ob_asc, Bool.false_eq_true, Bool.true_eq_false, not_true_eq_false, not_false_eq_true, Nat.not_lt_zero, Nat.le_zero_eq, Nat.reduceAdd, Nat.reduceMul, Nat.reduceSub, Nat.reduceEqDiff, Nat.reduceLT, Nat.reduceLeDiff, sC_def, sR_def, sC_1, sC_2, sR_1, sR_2, sC_st, sR_st, sR_no, sR_refuse, and_self, true_and, and_true, false_and, and_false, bR, f_X4_people, c4, h4]
    · simp (maxSteps := 1000000) (disch := omega) only [ne_eq, i_lt0, i_le0, i_eq0, i_n1, i_ltl, i_lel, i_eql, i_lt, i_le, i_eq, i_in, i_tn, i_add, i_addl, i_addr, i_mul, i_mulr, i_mull, if_true, if_false, eq_self, decide_eq_true_eq, decide_true, decide_false, Option.bind_some, Option.bind_none, ↓fu_ltd, ↓reduceIte, ↓ob_ite, ↓ob_asc, Bool.false_eq_true, Bool.true_eq_false, not_true_eq_false, not_false_eq_true, Nat.not_lt_zero, Nat.le_zero_eq, Nat.reduceAdd, Nat.reduceMul, Nat.reduceSub, Nat.reduceEqDiff, Nat.reduceLT, Nat.reduceLeDiff, sC_def, sR_def, sC_1, sC_2, sR_1, sR_2, sC_st, sR_st, sR_no, sR_refuse, and_self, true_and, and_true, false_and, and_false, f_X12_isAny, g1, h4]
  · by_cases h5 : D 0 5 = 0
    · refine none ?_ ?_
      · simp (maxSteps := 1000000) (disch := omega) only [ne_eq, i_lt0, i_le0, i_eq0, i_n1, i_ltl, i_lel, i_eql, i_lt, i_le, i_eq, i_in, i_tn, i_add, i_addl, i_addr, i_mul, i_mulr, i_mull, if_true, if_false, eq_self, decide_eq_true_eq, decide_true, decide_false, Option.bind_some, Option.bind_none, ↓fu_ltd, ↓reduceIte, ↓ob_ite, ↓ob_asc, Bool.false_eq_true, Bool.true_eq_false, not_true_eq_false, not_false_eq_true, Nat.not_lt_zero, Nat.le_zero_eq, Nat.reduceAdd, Nat.reduceMul, Nat.reduceSub, Nat.reduceEqDiff, Nat.reduceLT, Nat.reduceLeDiff, sC_def, sR_def, sC_1, sC_2, sR_1, sR_2, sC_st, sR_st, sR_no, sR_refuse, and_self, true_and, and_true, false_and, and_false, bR, f_X4_people, f_X4_things, c4, c5, h4, h5]
      · simp (maxSteps := 1000000) (disch := omega) only [ne_eq, i_lt0, i_le0, i_eq0, i_n1, i_ltl, i_lel, i_eql, i_lt, i_le, i_eq, i_in, i_tn, i_add, i_addl, i_addr, i_mul, i_mulr, i_mull, if_true, if_false, eq_self, decide_eq_true_eq, decide_true, decide_false, Option.bind_some, Option.bind_none, ↓fu_ltd, ↓reduceIte, ↓ob_ite, ↓ob_asc, Bool.false_eq_true, Bool.true_eq_false, not_true_eq_false, not_false_eq_true, Nat.not_lt_zero, Nat.le_zero_eq, Nat.reduceAdd, Nat.reduceMul, Nat.reduceSub, Nat.reduceEqDiff, Nat.reduceLT, Nat.reduceLeDiff, sC_def, sR_def, sC_1, sC_2, sR_1, sR_2, sC_st, sR_st, sR_no, sR_refuse, and_self, true_and, and_true, false_and, and_false, f_X12_isAny, g1, g2, h4, h5]
    · obtain ⟨p, U1, V1, y1, y2, y3, y4, f1, f2, k1, kv1⟩ := L_draw2 hQ h (m := D 0 4) (by omega) (by omega)
      obtain ⟨i, U2, V2, y5, y6, y7, y8, f3, f4, k2, kv2⟩ := L_draw2 hQ y4 (m := D 0 5) (by omega) (by omega)
      obtain ⟨j, U3, V3, y9, y10, y11, y12, f5, f6, k3, kv3⟩ := L_draw2 hQ y8 (m := 16) (by omega) (by omega)
      have z3 : U3.1 Q 3 = s2.1 117 35 := by
        rw [y12.2.2.2.2.2.2.1, kv3, kv2, kv1]
      have b5 : U1.1 P 5 = Int32.ofNat (D 0 5) := y4.2.1.1.2.2.2.2.2
      have b0 : U3.1 P 0 = Int32.ofNat (D 0 0) := y12.2.1.1.1
      have b2 : V1.1 122 2 = Int32.ofNat (D 0 5) := (dR_0 y4.2.2.1).1.2.2.1
      have b3 : V3.1 122 3 = Int32.ofNat (D 0 0) := (dR_0 y12.2.2.1).1.2.2.2.1
      have y10' : f_X3_draw U2 Q 16 = some (Int32.ofNat j, U3) := y10
      have y11' : f_X12_draw V2 16 = some (Int32.ofNat j, V3) := y11
      have ff1 : F1 Q P s1 U3 := F1_tr f1 (F1_tr f3 f5)
      have ff2 : F2 s2 V3 := F2_tr f2 (F2_tr f4 f6)
      have kk : U3.1 (Q + 1) = s1.1 (Q + 1) := k3.trans (k2.trans k1)
      have hi8 : i < 8 := by omega
      by_cases ho : j < D 0 0
      · have hb : bR s1 Q P = some (113, Int32.ofNat p, Int32.ofNat i, U3) := by
          rw [c_bR1 c4 c5 (by omega) (by omega) h4 h5 b5 b0 (by omega) y2 y6 y10' y9, if_pos ho]
        refine (LB_of (A := f_X3_behindStep s1 Q PL P (Int32.ofNat l)) (l' := Int32.ofNat (l + 1)) hQ (L_scr hQ y12 y1 hi8) z3 ff1 ff2 kk (fun e t1 e1 => c_behA a1 a2 a3 hb (by decide) (by decide) e1)).elim fun e z => ⟨e, ?_⟩
        obtain ⟨t1, r2, D', w3, w4, w5⟩ := z
        refine ⟨t1, r2, D', w3, ?_, w5⟩
        rw [r_any1 (A := (e, r2)) (B := (e, r2)) g1 g2 (by omega) (by omega) h4 h5 b2 b3 (by omega) y3 y7 y11' y9 (fun _ => w4) (fun z => absurd ho z), if_pos ho]
      · have hb : bR s1 Q P = some (112, 1, Int32.ofNat i, U3) := by
          rw [c_bR1 c4 c5 (by omega) (by omega) h4 h5 b5 b0 (by omega) y2 y6 y10' y9, if_neg ho]
        refine (LB_of (A := f_X3_behindStep s1 Q PL P (Int32.ofNat l)) (l' := Int32.ofNat (l + 1)) hQ (L_wait (k := 1) (y := Int32.ofNat i) hQ y12 (by omega)) z3 ff1 ff2 kk (fun e t1 e1 => c_behA a1 a2 a3 hb (by decide) (by decide) e1)).elim fun e z => ⟨e, ?_⟩
        obtain ⟨t1, r2, D', w3, w4, w5⟩ := z
        refine ⟨t1, r2, D', w3, ?_, w5⟩
        have w4' : f_X12_waits V3 1 = some (e, r2) := w4
        rw [r_any1 (A := (e, r2)) (B := (e, r2)) g1 g2 (by omega) (by omega) h4 h5 b2 b3 (by omega) y3 y7 y11' y9 (fun z => absurd z ho) (fun _ => w4'), if_neg ho]
theorem L_beh (hQ : P + 13 ≤ Q) (h : LR Q P ma D0 s1 s2 D n ov) (hN : s1.1 PL 4 = Int32.ofNat N) (hN2 : N ≤ 60) (hl : l < N) (hw : w + 8 < 1775) (hd : dS s1 PL s2 w D l) (hk : s1.1 (PL + 1) l ≠ 121) : (s2.1 122 w < 4) ∧ LB Q P ma D0 s1 s2 n ov (f_X3_behindStep s1 Q PL P (Int32.ofNat l)) (Int32.ofNat (l + 1)) (f_X12_does s2 (Int32.ofNat w)) := by
  have a1 := c_deedAt hN hN2 hl
  have a2 := c_firstAt hN hN2 hl
  have a3 := c_secondAt hN hN2 hl
  have w0 : w < 1775 := by omega
  have w1 : w + 1 < 1775 := by omega
  have w2 : w + 2 < 1775 := by omega
  have q3 := h.2.2.2.2.2.2.1
  rcases hd with ⟨d1, d2, m, d3, d4, d5, d6⟩ | ⟨d1, d2, p, k, d3, d4, d5, d6, d7, d8⟩ | ⟨d1, d2, p, i, d3, d4, d5, d6, d7, d8⟩ | ⟨d1, d2, d3, d4⟩ | ⟨d1, d2⟩
  · rw [d1] at a1
    rw [d5] at a2
    refine ⟨by rw [d2]; decide, (LB_of (A := f_X3_behindStep s1 Q PL P (Int32.ofNat l)) (l' := Int32.ofNat (l + 1)) hQ (L_wait (y := s1.1 (PL + 3) l) hQ h d4) q3 F1_rf F2_rf rfl (fun e t1 e1 => c_behB a1 a2 a3 (by decide) (by decide) (by decide) e1)).elim fun e z => ⟨e, ?_⟩⟩
    obtain ⟨t1, r2, D', z1, z2, z3⟩ := z
    refine ⟨t1, r2, D', z1, ?_, z3⟩
    simp (maxSteps := 1000000) (disch := omega) only [ne_eq, i_lt0, i_le0, i_eq0, i_n1, i_ltl, i_lel, i_eql, i_lt, i_le, i_eq, i_in, i_tn, i_add, i_addl, i_addr, i_mul, i_mulr, i_mull, if_true, if_false, eq_self, decide_eq_true_eq, decide_true, decide_false, Option.bind_some, Option.bind_none, ↓fu_ltd, ↓reduceIte, ↓ob_ite, ↓ob_asc, Bool.false_eq_true, Bool.true_eq_false, not_true_eq_false, not_false_eq_true, Nat.not_lt_zero, Nat.le_zero_eq, Nat.reduceAdd, Nat.reduceMul, Nat.reduceSub, Nat.reduceEqDiff, Nat.reduceLT, Nat.reduceLeDiff, sC_def, sR_def, sC_1, sC_2, sR_1, sR_2, sC_st, sR_st, sR_no, sR_refuse, and_self, true_and, and_true, false_and, and_false, f_X12_does, w0, w1, d2, d6, z2]
  · rw [d1] at a1
    rw [d5] at a2
    rw [d7] at a3
    refine ⟨by rw [d2]; decide, (LB_of (A := f_X3_behindStep s1 Q PL P (Int32.ofNat l)) (l' := Int32.ofNat (l + 1)) hQ (L_lose hQ h d3 d4) q3 F1_rf F2_rf rfl (fun e t1 e1 => c_behB a1 a2 a3 (by decide) (by decide) (by decide) e1)).elim fun e z => ⟨e, ?_⟩⟩
    obtain ⟨t1, r2, D', z1, z2, z3⟩ := z
    refine ⟨t1, r2, D', z1, ?_, z3⟩
    simp (maxSteps := 1000000) (disch := omega) only [ne_eq, i_lt0, i_le0, i_eq0, i_n1, i_ltl, i_lel, i_eql, i_lt, i_le, i_eq, i_in, i_tn, i_add, i_addl, i_addr, i_mul, i_mulr, i_mull, if_true, if_false, eq_self, decide_eq_true_eq, decide_true, decide_false, Option.bind_some, Option.bind_none, ↓fu_ltd, ↓reduceIte, ↓ob_ite, ↓ob_asc, Bool.false_eq_true, Bool.true_eq_false, not_true_eq_false, not_false_eq_true, Nat.not_lt_zero, Nat.le_zero_eq, Nat.reduceAdd, Nat.reduceMul, Nat.reduceSub, Nat.reduceEqDiff, Nat.reduceLT, Nat.reduceLeDiff, sC_def, sR_def, sC_1, sC_2, sR_1, sR_2, sC_st, sR_st, sR_no, sR_refuse, and_self, true_and, and_true, false_and, and_false, f_X12_does, w0, w1, w2, d2, d6, d8, n10, z2]
  · rw [d1] at a1
    rw [d5] at a2
    rw [d7] at a3
    refine ⟨by rw [d2]; decide, (LB_of (A := f_X3_behindStep s1 Q PL P (Int32.ofNat l)) (l' := Int32.ofNat (l + 1)) hQ (L_scr hQ h d3 d4) q3 F1_rf F2_rf rfl (fun e t1 e1 => c_behB a1 a2 a3 (by decide) (by decide) (by decide) e1)).elim fun e z => ⟨e, ?_⟩⟩
    obtain ⟨t1, r2, D', z1, z2, z3⟩ := z
    refine ⟨t1, r2, D', z1, ?_, z3⟩
    simp (maxSteps := 1000000) (disch := omega) only [ne_eq, i_lt0, i_le0, i_eq0, i_n1, i_ltl, i_lel, i_eql, i_lt, i_le, i_eq, i_in, i_tn, i_add, i_addl, i_addr, i_mul, i_mulr, i_mull, if_true, if_false, eq_self, decide_eq_true_eq, decide_true, decide_false, Option.bind_some, Option.bind_none, ↓fu_ltd, ↓reduceIte, ↓ob_ite, ↓ob_asc, Bool.false_eq_true, Bool.true_eq_false, not_true_eq_false, not_false_eq_true, Nat.not_lt_zero, Nat.le_zero_eq, Nat.reduceAdd, Nat.reduceMul, Nat.reduceSub, Nat.reduceEqDiff, Nat.reduceLT, Nat.reduceLeDiff, sC_def, sR_def, sC_1, sC_2, sR_1, sR_2, sC_st, sR_st, sR_no, sR_refuse, and_self, true_and, and_true, false_and, and_false, f_X12_does, w0, w1, w2, d2, d6, d8, n20, n21, z2]
  · rw [d1] at a1
    rw [d3] at a2
    rw [d4] at a3
    refine ⟨by rw [d2]; decide, (L_any hQ h a1 a2 a3).elim fun e z => ⟨e, ?_⟩⟩
    obtain ⟨t1, r2, D', z1, z2, z3⟩ := z
    refine ⟨t1, r2, D', z1, ?_, z3⟩
    simp (maxSteps := 1000000) (disch := omega) only [ne_eq, i_lt0, i_le0, i_eq0, i_n1, i_ltl, i_lel, i_eql, i_lt, i_le, i_eq, i_in, i_tn, i_add, i_addl, i_addr, i_mul, i_mulr, i_mull, if_true, if_false, eq_self, decide_eq_true_eq, decide_true, decide_false, Option.bind_some, Option.bind_none, ↓fu_ltd, ↓reduceIte, ↓ob_ite, ↓ob_asc, Bool.false_eq_true, Bool.true_eq_false, not_true_eq_false, not_false_eq_true, Nat.not_lt_zero, Nat.le_zero_eq, Nat.reduceAdd, Nat.reduceMul, Nat.reduceSub, Nat.reduceEqDiff, Nat.reduceLT, Nat.reduceLeDiff, sC_def, sR_def, sC_1, sC_2, sR_1, sR_2, sC_st, sR_st, sR_no, sR_refuse, and_self, true_and, and_true, false_and, and_false, f_X12_does, w0, w1, d2, n30, n31, n32, z2]
  · exact absurd d1 hk
end LF3
