/-! who bears what where, in words of a district -/
def d_by (D : dD) (o k : Nat) : Nat := (o + D 1 k) % D 0 4
def d_b (D : dD) (t : Nat) : Nat := d_by D (D 7 t) (D 8 t)
def d_spy (D : dD) (o k : Nat) : Nat := (o + D 2 k) % 10
def d_sp (D : dD) (t : Nat) : Nat := d_spy D (D 7 t) (D 8 t)
def d_far (D : dD) (p q : Nat) : Nat := (D 5 p - D 5 q) + (D 5 q - D 5 p)
def d_way (D : dD) (t : Nat) : Nat := d_far D (d_b D t) (D 7 t)
def d_up (D : dD) (t : Nat) : Nat := D 10 t + d_way D t
def d_isUp (D : dD) (t : Nat) : Bool := decide (D 11 t = 0) && decide (d_up D t ≤ D 0 2)
def d_isF (D : dD) (t : Nat) : Bool := decide (D 11 t ≠ 0) && decide (D 12 t ≤ D 0 2)
def d_able (D : dD) (p t : Nat) : Bool := if p = d_b D t then (D 6 p).testBit (d_sp D t) else decide (d_far D p (d_b D t) ≤ D 0 1)
theorem i_subn {a b : Nat} (h : a < b) (hb : b < 2147483648) : Int32.ofNat a - Int32.ofNat b < 0 ∧ -(Int32.ofNat a - Int32.ofNat b) = Int32.ofNat (b - a) := by
  constructor
  · rw [Int32.lt_iff_toInt_lt, Int32.toInt_sub, i_ti (by omega), i_ti hb, Int.bmod_eq_of_le (by omega) (by omega), show (0 : Int32).toInt = 0 from rfl]
    omega
  · rw [Int32.neg_sub, i_sub (by omega)]
theorem i_abd {a b : Nat} (ha : a < 2147483648) (hb : b < 2147483648) : (if Int32.ofNat a - Int32.ofNat b < 0 then some (-(Int32.ofNat a - Int32.ofNat b)) else some (Int32.ofNat a - Int32.ofNat b)) = some (Int32.ofNat ((a - b) + (b - a))) := by
  by_cases h : a < b
  · obtain ⟨h1, h2⟩ := i_subn h hb
    rw [if_pos h1, h2, show a - b + (b - a) = b - a by omega]
  · rw [i_sub (by omega), if_neg (i_neg (by omega)), show a - b + (b - a) = a - b by omega]
theorem i_fab {a b : Nat} (ha : a < 2147483648) (hb : b < 2147483648) : fu_ab (Int32.ofNat a - Int32.ofNat b) = Int32.ofNat ((a - b) + (b - a)) := by
  unfold fu_ab
  by_cases h : a < b
  · obtain ⟨h1, h2⟩ := i_subn h hb
    have h3 : ¬ (0 ≤ Int32.ofNat a - Int32.ofNat b) := by
      rw [Int32.lt_iff_toInt_lt] at h1
      rw [Int32.le_iff_toInt_le]
      omega
    rw [if_neg h3, Int32.zero_sub, h2, show a - b + (b - a) = b - a by omega]
  · rw [i_sub (by omega), if_pos, show a - b + (b - a) = a - b by omega]
    rw [Int32.le_iff_toInt_le, i_ti (by omega), show (0 : Int32).toInt = 0 from rfl]
    omega
section PAR
variable {s : fu_S} {P : Nat} {D : dD} {t p q o k : Nat}
theorem dV_t (hv : dV D) (ht : t < D 0 5) : t < 8 ∧ D 7 t < D 0 4 ∧ D 8 t < D 0 3 ∧ D 7 t < 7 ∧ D 8 t < 5 ∧ 1 ≤ D 9 t ∧ D 9 t ≤ 9 ∧ D 10 t ≤ 9999 ∧ D 11 t ≤ 10000 ∧ D 12 t ≤ 10100 := by
  obtain ⟨⟨v0, v1, v2, v3, v4, v5⟩, -, -, vt⟩ := hv
  have := vt t ht
  omega
theorem dV_k (hv : dV D) (hk : k < D 0 3) : k < 5 ∧ 1 ≤ D 1 k ∧ D 1 k ≤ 9 ∧ D 2 k ≤ 9 ∧ 1 ≤ D 3 k ∧ D 3 k ≤ 9 := by
  obtain ⟨⟨v0, v1, v2, v3, v4, v5⟩, vk, -, -⟩ := hv
  have := vk k hk
  omega
theorem dV_p (hv : dV D) (hp : p < D 0 4) : p < 7 ∧ D 4 p < 2 ^ 45 ∧ D 5 p ≤ 59 ∧ D 6 p < 1024 := by
  obtain ⟨⟨v0, v1, v2, v3, v4, v5⟩, -, vp, -⟩ := hv
  have := vp p hp
  omega
theorem d_by_lt (ho : o < D 0 4) : d_by D o k < D 0 4 := Nat.mod_lt _ (by omega)
theorem d_b_lt (hv : dV D) (ht : t < D 0 5) : d_b D t < D 0 4 := d_by_lt (dV_t hv ht).2.1
theorem d_spy_lt : d_spy D o k < 10 := Nat.mod_lt _ (by omega)
theorem d_far_le (hv : dV D) (hp : p < D 0 4) (hq : q < D 0 4) : d_far D p q ≤ 59 := by
  have h1 := dV_p hv hp
  have h2 := dV_p hv hq
  unfold d_far
  omega
theorem d_far_comm : d_far D p q = d_far D q p := by unfold d_far; omega
theorem d_way_le (hv : dV D) (ht : t < D 0 5) : d_way D t ≤ 59 := d_far_le hv (d_b_lt hv ht) (dV_t hv ht).2.1
/-! the system's side -/
theorem c_bearerOf (h : dC s P D) (hv : dV D) (ht : t < D 0 5) : f_X4_bearerOf s P (Int32.ofNat t) = some (Int32.ofNat (d_b D t)) := by
  obtain ⟨⟨c0, c1, c2, c3, c4, c5⟩, ck, cp, ct⟩ := h
  obtain ⟨t1, t2, t3, t4, t5, t6⟩ := ct t ht
  have hb := dV_t hv ht
  obtain ⟨k1, k2, k3⟩ := ck _ hb.2.2.1
  have hk := dV_k hv hb.2.2.1
  have hp4 := hv.1
  have h8 : t < 8 := by omega
  have h5 : D 8 t < 5 := by omega
  have hkk := hb.2.2.1
  have hp0 : ¬ D 0 4 = 0 := by omega
  simp (disch := omega) only [ne_eq, i_lt0, i_le0, i_eq0, i_n1, i_ltl, i_lel, i_eql, i_lt, i_le, i_eq, i_in, i_tn, i_add, i_addl, i_addr, i_mul, i_mulr, i_mull, if_true, if_false, eq_self, decide_eq_true_eq, decide_true, decide_false, Option.bind_some, Option.bind_none, fu_lt, Bool.false_eq_true, Bool.true_eq_false, not_true_eq_false, not_false_eq_true, Nat.not_lt_zero, Nat.le_zero_eq, Nat.reduceAdd, Nat.reduceMul, Nat.reduceSub, Nat.reduceEqDiff, Nat.reduceLT, Nat.reduceLeDiff, sC_def, sR_def, sC_1, sC_2, sR_1, sR_2, sC_st, sR_st, sR_no, sR_refuse, and_self, true_and, and_true, false_and, and_false, f_X4_bearerOf, c3, c4, c5, t1, t2, k1, i_rem, ht, h8, h5, hkk, hp0]
  rfl
theorem c_spotOf (h : dC s P D) (hv : dV D) (ht : t < D 0 5) : f_X4_spotOf s P (Int32.ofNat t) = some (Int32.ofNat (d_sp D t)) := by
  obtain ⟨⟨c0, c1, c2, c3, c4, c5⟩, ck, cp, ct⟩ := h
  obtain ⟨t1, t2, t3, t4, t5, t6⟩ := ct t ht
  have hb := dV_t hv ht
  obtain ⟨k1, k2, k3⟩ := ck _ hb.2.2.1
  have hk := dV_k hv hb.2.2.1
  have hp4 := hv.1
  have h8 : t < 8 := by omega
  have h5 : D 8 t < 5 := by omega
  have hkk := hb.2.2.1
  simp (disch := omega) only [ne_eq, i_lt0, i_le0, i_eq0, i_n1, i_ltl, i_lel, i_eql, i_lt, i_le, i_eq, i_in, i_tn, i_add, i_addl, i_addr, i_mul, i_mulr, i_mull, if_true, if_false, eq_self, decide_eq_true_eq, decide_true, decide_false, Option.bind_some, Option.bind_none, fu_lt, Bool.false_eq_true, Bool.true_eq_false, not_true_eq_false, not_false_eq_true, Nat.not_lt_zero, Nat.le_zero_eq, Nat.reduceAdd, Nat.reduceMul, Nat.reduceSub, Nat.reduceEqDiff, Nat.reduceLT, Nat.reduceLeDiff, sC_def, sR_def, sC_1, sC_2, sR_1, sR_2, sC_st, sR_st, sR_no, sR_refuse, and_self, true_and, and_true, false_and, and_false, f_X4_spotOf, c3, c4, c5, t1, t2, k2, i_rem10, ht, h8, h5, hkk]
  rfl
theorem c_apart (h : dC s P D) (hv : dV D) (hp : p < D 0 4) (hq : q < D 0 4) : f_X4_apart s P (Int32.ofNat p) (Int32.ofNat q) = some (Int32.ofNat (d_far D p q)) := by
  obtain ⟨⟨c0, c1, c2, c3, c4, c5⟩, ck, cp, ct⟩ := h
  obtain ⟨p1, p2, p3⟩ := cp p hp
  obtain ⟨q1, q2, q3⟩ := cp q hq
  have hpb := dV_p hv hp
  have hqb := dV_p hv hq
  have hp4 := hv.1
  have h7 : p < 7 := by omega
  have h7' : q < 7 := by omega
  simp (disch := omega) only [ne_eq, i_lt0, i_le0, i_eq0, i_n1, i_ltl, i_lel, i_eql, i_lt, i_le, i_eq, i_in, i_tn, i_add, i_addl, i_addr, i_mul, i_mulr, i_mull, if_true, if_false, eq_self, decide_eq_true_eq, decide_true, decide_false, Option.bind_some, Option.bind_none, fu_lt, Bool.false_eq_true, Bool.true_eq_false, not_true_eq_false, not_false_eq_true, Nat.not_lt_zero, Nat.le_zero_eq, Nat.reduceAdd, Nat.reduceMul, Nat.reduceSub, Nat.reduceEqDiff, Nat.reduceLT, Nat.reduceLeDiff, sC_def, sR_def, sC_1, sC_2, sR_1, sR_2, sC_st, sR_st, sR_no, sR_refuse, and_self, true_and, and_true, false_and, and_false, f_X4_apart, c4, p2, q2, hp, hq, h7, h7', i_abd]
  rfl
theorem c_delayOf (h : dC s P D) (hv : dV D) (ht : t < D 0 5) : f_X4_delayOf s P (Int32.ofNat t) = some (Int32.ofNat (d_way D t)) := by
  have hb := dV_t hv ht
  have hp4 := hv.1
  have h8 : t < 8 := by omega
  have e1 := c_bearerOf h hv ht
  have e2 := c_apart h hv (d_b_lt hv ht) hb.2.1
  have e3 := (h.2.2.2 t ht).1
  simp (disch := omega) only [ne_eq, i_lt0, i_le0, i_eq0, i_n1, i_ltl, i_lel, i_eql, i_lt, i_le, i_eq, i_in, i_tn, i_add, i_addl, i_addr, i_mul, i_mulr, i_mull, if_true, if_false, eq_self, decide_eq_true_eq, decide_true, decide_false, Option.bind_some, Option.bind_none, fu_lt, Bool.false_eq_true, Bool.true_eq_false, not_true_eq_false, not_false_eq_true, Nat.not_lt_zero, Nat.le_zero_eq, Nat.reduceAdd, Nat.reduceMul, Nat.reduceSub, Nat.reduceEqDiff, Nat.reduceLT, Nat.reduceLeDiff, sC_def, sR_def, sC_1, sC_2, sR_1, sR_2, sC_st, sR_st, sR_no, sR_refuse, and_self, true_and, and_true, false_and, and_false, f_X4_delayOf, c_hasThing h, ht, h8, e1, e2, e3]
  rfl
theorem c_upAtOf (h : dC s P D) (hv : dV D) (ht : t < D 0 5) : f_X4_upAtOf s P (Int32.ofNat t) = some (Int32.ofNat (d_up D t)) := by
  have hb := dV_t hv ht
  have hp4 := hv.1
  have h8 : t < 8 := by omega
  have e1 := c_delayOf h hv ht
  have e3 := (h.2.2.2 t ht).2.2.2.1
  simp (disch := omega) only [ne_eq, i_lt0, i_le0, i_eq0, i_n1, i_ltl, i_lel, i_eql, i_lt, i_le, i_eq, i_in, i_tn, i_add, i_addl, i_addr, i_mul, i_mulr, i_mull, if_true, if_false, eq_self, decide_eq_true_eq, decide_true, decide_false, Option.bind_some, Option.bind_none, fu_lt, Bool.false_eq_true, Bool.true_eq_false, not_true_eq_false, not_false_eq_true, Nat.not_lt_zero, Nat.le_zero_eq, Nat.reduceAdd, Nat.reduceMul, Nat.reduceSub, Nat.reduceEqDiff, Nat.reduceLT, Nat.reduceLeDiff, sC_def, sR_def, sC_1, sC_2, sR_1, sR_2, sC_st, sR_st, sR_no, sR_refuse, and_self, true_and, and_true, false_and, and_false, f_X4_upAtOf, c_hasThing h, ht, h8, e1, e3]
  rfl
theorem c_isScratched (h : dC s P D) (hv : dV D) (ht : t < D 0 5) : f_X4_isScratched s P (Int32.ofNat t) = some (decide (D 11 t ≠ 0)) := by
  have hb := dV_t hv ht
  have hp4 := hv.1
  have h8 : t < 8 := by omega
  have e3 := (h.2.2.2 t ht).2.2.2.2.1
  by_cases h0 : D 11 t = 0
  · simp (disch := omega) only [ne_eq, i_lt0, i_le0, i_eq0, i_n1, i_ltl, i_lel, i_eql, i_lt, i_le, i_eq, i_in, i_tn, i_add, i_addl, i_addr, i_mul, i_mulr, i_mull, if_true, if_false, eq_self, decide_eq_true_eq, decide_true, decide_false, Option.bind_some, Option.bind_none, fu_lt, Bool.false_eq_true, Bool.true_eq_false, not_true_eq_false, not_false_eq_true, Nat.not_lt_zero, Nat.le_zero_eq, Nat.reduceAdd, Nat.reduceMul, Nat.reduceSub, Nat.reduceEqDiff, Nat.reduceLT, Nat.reduceLeDiff, sC_def, sR_def, sC_1, sC_2, sR_1, sR_2, sC_st, sR_st, sR_no, sR_refuse, and_self, true_and, and_true, false_and, and_false, f_X4_isScratched, c_hasThing h, ht, h8, e3, h0]
    try simp
  · simp (disch := omega) only [ne_eq, i_lt0, i_le0, i_eq0, i_n1, i_ltl, i_lel, i_eql, i_lt, i_le, i_eq, i_in, i_tn, i_add, i_addl, i_addr, i_mul, i_mulr, i_mull, if_true, if_false, eq_self, decide_eq_true_eq, decide_true, decide_false, Option.bind_some, Option.bind_none, fu_lt, Bool.false_eq_true, Bool.true_eq_false, not_true_eq_false, not_false_eq_true, Nat.not_lt_zero, Nat.le_zero_eq, Nat.reduceAdd, Nat.reduceMul, Nat.reduceSub, Nat.reduceEqDiff, Nat.reduceLT, Nat.reduceLeDiff, sC_def, sR_def, sC_1, sC_2, sR_1, sR_2, sC_st, sR_st, sR_no, sR_refuse, and_self, true_and, and_true, false_and, and_false, f_X4_isScratched, c_hasThing h, ht, h8, e3, h0]
    try simp [h0]
theorem c_isUp (h : dC s P D) (hv : dV D) (ht : t < D 0 5) : f_X4_isUp s P (Int32.ofNat t) = some (d_isUp D t) := by
  have hb := dV_t hv ht
  have hp4 := hv.1
  have h8 : t < 8 := by omega
  have hw := d_way_le hv ht
  have e1 := c_bearerOf h hv ht
  have e2 := c_apart h hv (d_b_lt hv ht) hb.2.1
  have e3 := (h.2.2.2 t ht).2.2.2.2.1
  have e4 := (h.2.2.2 t ht).1
  have e5 := (h.2.2.2 t ht).2.2.2.1
  have e6 := h.1.2.2.1
  unfold d_isUp d_up
  unfold d_way at hw ⊢
  by_cases h0 : D 11 t = 0
  · simp (disch := omega) only [ne_eq, i_lt0, i_le0, i_eq0, i_n1, i_ltl, i_lel, i_eql, i_lt, i_le, i_eq, i_in, i_tn, i_add, i_addl, i_addr, i_mul, i_mulr, i_mull, if_true, if_false, eq_self, decide_eq_true_eq, decide_true, decide_false, Option.bind_some, Option.bind_none, fu_lt, Bool.false_eq_true, Bool.true_eq_false, not_true_eq_false, not_false_eq_true, Nat.not_lt_zero, Nat.le_zero_eq, Nat.reduceAdd, Nat.reduceMul, Nat.reduceSub, Nat.reduceEqDiff, Nat.reduceLT, Nat.reduceLeDiff, sC_def, sR_def, sC_1, sC_2, sR_1, sR_2, sC_st, sR_st, sR_no, sR_refuse, and_self, true_and, and_true, false_and, and_false, f_X4_isUp, c_hasThing h, ht, h8, e1, e2, e3, e4, e5, e6, h0]
    by_cases h1 : D 0 2 < D 10 t + d_far D (d_b D t) (D 7 t)
    · simp [h1, Nat.not_le.mpr h1]
    · simp [h1, Nat.not_lt.mp h1]
  · simp (disch := omega) only [ne_eq, i_lt0, i_le0, i_eq0, i_n1, i_ltl, i_lel, i_eql, i_lt, i_le, i_eq, i_in, i_tn, i_add, i_addl, i_addr, i_mul, i_mulr, i_mull, if_true, if_false, eq_self, decide_eq_true_eq, decide_true, decide_false, Option.bind_some, Option.bind_none, fu_lt, Bool.false_eq_true, Bool.true_eq_false, not_true_eq_false, not_false_eq_true, Nat.not_lt_zero, Nat.le_zero_eq, Nat.reduceAdd, Nat.reduceMul, Nat.reduceSub, Nat.reduceEqDiff, Nat.reduceLT, Nat.reduceLeDiff, sC_def, sR_def, sC_1, sC_2, sR_1, sR_2, sC_st, sR_st, sR_no, sR_refuse, and_self, true_and, and_true, false_and, and_false, f_X4_isUp, c_hasThing h, ht, h8, e3, h0]
    try simp [h0]
theorem c_isFound (h : dC s P D) (hv : dV D) (ht : t < D 0 5) : f_X4_isFound s P (Int32.ofNat t) = some (d_isF D t) := by
  have hb := dV_t hv ht
  have hp4 := hv.1
  have h8 : t < 8 := by omega
  have e1 := c_isScratched h hv ht
  have e2 := (h.2.2.2 t ht).2.2.2.2.2
  have e6 := h.1.2.2.1
  unfold d_isF
  by_cases h0 : D 11 t = 0
  · simp (disch := omega) only [ne_eq, i_lt0, i_le0, i_eq0, i_n1, i_ltl, i_lel, i_eql, i_lt, i_le, i_eq, i_in, i_tn, i_add, i_addl, i_addr, i_mul, i_mulr, i_mull, if_true, if_false, eq_self, decide_eq_true_eq, decide_true, decide_false, Option.bind_some, Option.bind_none, fu_lt, Bool.false_eq_true, Bool.true_eq_false, not_true_eq_false, not_false_eq_true, Nat.not_lt_zero, Nat.le_zero_eq, Nat.reduceAdd, Nat.reduceMul, Nat.reduceSub, Nat.reduceEqDiff, Nat.reduceLT, Nat.reduceLeDiff, sC_def, sR_def, sC_1, sC_2, sR_1, sR_2, sC_st, sR_st, sR_no, sR_refuse, and_self, true_and, and_true, false_and, and_false, f_X4_isFound, e1, h0]
    try simp
  · have e3 := e2 h0
    simp (disch := omega) only [ne_eq, i_lt0, i_le0, i_eq0, i_n1, i_ltl, i_lel, i_eql, i_lt, i_le, i_eq, i_in, i_tn, i_add, i_addl, i_addr, i_mul, i_mulr, i_mull, if_true, if_false, eq_self, decide_eq_true_eq, decide_true, decide_false, Option.bind_some, Option.bind_none, fu_lt, Bool.false_eq_true, Bool.true_eq_false, not_true_eq_false, not_false_eq_true, Nat.not_lt_zero, Nat.le_zero_eq, Nat.reduceAdd, Nat.reduceMul, Nat.reduceSub, Nat.reduceEqDiff, Nat.reduceLT, Nat.reduceLeDiff, sC_def, sR_def, sC_1, sC_2, sR_1, sR_2, sC_st, sR_st, sR_no, sR_refuse, and_self, true_and, and_true, false_and, and_false, f_X4_isFound, e1, h0, ne_eq, e3, e6, h8]
    by_cases h1 : D 0 2 < D 12 t
    · simp [h1, Nat.not_le.mpr h1]
    · simp [h1, Nat.not_lt.mp h1]
theorem c_reaches (h : dC s P D) (hv : dV D) (hp : p < D 0 4) (hq : q < 10) : f_X4_reaches s P (Int32.ofNat p) (Int32.ofNat q) = some ((D 6 p).testBit q) := by
  have hb := dV_p hv hp
  have hp4 := hv.1
  have h7 : p < 7 := by omega
  have e1 := (h.2.2.1 p hp).2.2
  have e2 : f_X4_isSpot P (Int32.ofNat q) = true := by simp (disch := omega) only [ne_eq, i_lt0, i_le0, i_eq0, i_n1, i_ltl, i_lel, i_eql, i_lt, i_le, i_eq, i_in, i_tn, i_add, i_addl, i_addr, i_mul, i_mulr, i_mull, if_true, if_false, eq_self, decide_eq_true_eq, decide_true, decide_false, Option.bind_some, Option.bind_none, fu_lt, Bool.false_eq_true, Bool.true_eq_false, not_true_eq_false, not_false_eq_true, Nat.not_lt_zero, Nat.le_zero_eq, Nat.reduceAdd, Nat.reduceMul, Nat.reduceSub, Nat.reduceEqDiff, Nat.reduceLT, Nat.reduceLeDiff, sC_def, sR_def, sC_1, sC_2, sR_1, sR_2, sC_st, sR_st, sR_no, sR_refuse, and_self, true_and, and_true, false_and, and_false, f_X4_isSpot, hq]
  simp (disch := omega) only [ne_eq, i_lt0, i_le0, i_eq0, i_n1, i_ltl, i_lel, i_eql, i_lt, i_le, i_eq, i_in, i_tn, i_add, i_addl, i_addr, i_mul, i_mulr, i_mull, if_true, if_false, eq_self, decide_eq_true_eq, decide_true, decide_false, Option.bind_some, Option.bind_none, fu_lt, Bool.false_eq_true, Bool.true_eq_false, not_true_eq_false, not_false_eq_true, Nat.not_lt_zero, Nat.le_zero_eq, Nat.reduceAdd, Nat.reduceMul, Nat.reduceSub, Nat.reduceEqDiff, Nat.reduceLT, Nat.reduceLeDiff, sC_def, sR_def, sC_1, sC_2, sR_1, sR_2, sC_st, sR_st, sR_no, sR_refuse, and_self, true_and, and_true, false_and, and_false, f_X4_reaches, c_hasPerson h, hp, h7, e1, e2, i_bit0]
  cases (D 6 p).testBit q <;> simp
theorem c_isAble (h : dC s P D) (hv : dV D) (ht : t < D 0 5) (hp : p < D 0 4) : f_X4_isAble s P (Int32.ofNat p) (Int32.ofNat t) = some (d_able D p t) := by
  have hp4 := hv.1
  have hbl := d_b_lt hv ht
  have e1 := c_bearerOf h hv ht
  have e2 := c_spotOf h hv ht
  have e3 : f_X4_reaches s P (Int32.ofNat p) (Int32.ofNat (d_sp D t)) = some ((D 6 p).testBit (d_sp D t)) := c_reaches h hv hp d_spy_lt
  have e4 := c_apart h hv hp hbl
  have e5 := h.1.2.1
  have hf := d_far_le hv hp hbl
  unfold d_able
  by_cases h0 : p = d_b D t
  · rw [if_pos h0]
    subst h0
    simp (disch := omega) only [ne_eq, i_lt0, i_le0, i_eq0, i_n1, i_ltl, i_lel, i_eql, i_lt, i_le, i_eq, i_in, i_tn, i_add, i_addl, i_addr, i_mul, i_mulr, i_mull, if_true, if_false, eq_self, decide_eq_true_eq, decide_true, decide_false, Option.bind_some, Option.bind_none, fu_lt, Bool.false_eq_true, Bool.true_eq_false, not_true_eq_false, not_false_eq_true, Nat.not_lt_zero, Nat.le_zero_eq, Nat.reduceAdd, Nat.reduceMul, Nat.reduceSub, Nat.reduceEqDiff, Nat.reduceLT, Nat.reduceLeDiff, sC_def, sR_def, sC_1, sC_2, sR_1, sR_2, sC_st, sR_st, sR_no, sR_refuse, and_self, true_and, and_true, false_and, and_false, f_X4_isAble, e1, e2, e3]
  · simp (disch := omega) only [ne_eq, i_lt0, i_le0, i_eq0, i_n1, i_ltl, i_lel, i_eql, i_lt, i_le, i_eq, i_in, i_tn, i_add, i_addl, i_addr, i_mul, i_mulr, i_mull, if_true, if_false, eq_self, decide_eq_true_eq, decide_true, decide_false, Option.bind_some, Option.bind_none, fu_lt, Bool.false_eq_true, Bool.true_eq_false, not_true_eq_false, not_false_eq_true, Nat.not_lt_zero, Nat.le_zero_eq, Nat.reduceAdd, Nat.reduceMul, Nat.reduceSub, Nat.reduceEqDiff, Nat.reduceLT, Nat.reduceLeDiff, sC_def, sR_def, sC_1, sC_2, sR_1, sR_2, sC_st, sR_st, sR_no, sR_refuse, and_self, true_and, and_true, false_and, and_false, f_X4_isAble, e1, h0, e4, e5]
    by_cases h1 : d_far D p (d_b D t) ≤ D 0 1 <;> simp [h1]
theorem c_canScratch (h : dC s P D) (hv : dV D) (ht : t < D 0 5) (hp : p < D 0 4) : f_X4_canScratchNow s P (Int32.ofNat p) (Int32.ofNat t) = some (d_isUp D t && d_able D p t) := by
  have hp4 := hv.1
  have e1 := c_isUp h hv ht
  have e2 := c_isAble h hv ht hp
  simp (disch := omega) only [ne_eq, i_lt0, i_le0, i_eq0, i_n1, i_ltl, i_lel, i_eql, i_lt, i_le, i_eq, i_in, i_tn, i_add, i_addl, i_addr, i_mul, i_mulr, i_mull, if_true, if_false, eq_self, decide_eq_true_eq, decide_true, decide_false, Option.bind_some, Option.bind_none, fu_lt, Bool.false_eq_true, Bool.true_eq_false, not_true_eq_false, not_false_eq_true, Nat.not_lt_zero, Nat.le_zero_eq, Nat.reduceAdd, Nat.reduceMul, Nat.reduceSub, Nat.reduceEqDiff, Nat.reduceLT, Nat.reduceLeDiff, sC_def, sR_def, sC_1, sC_2, sR_1, sR_2, sC_st, sR_st, sR_no, sR_refuse, and_self, true_and, and_true, false_and, and_false, f_X4_canScratchNow, c_hasPerson h, hp, e1, e2]
  cases d_isUp D t <;> cases d_able D p t <;> simp
end PAR
