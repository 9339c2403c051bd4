/-! what is done: scratch -/
/-- a thing scratched -/
def dscr (D : dD) (i m v : Nat) : dD := fun a b => if a = 11 ∧ b = i then m + 1 else if a = 12 ∧ b = i then v else D a b
section SCR
variable {D : dD} {i m v : Nat}
theorem dscr_l {a b : Nat} (h : a ≠ 11 ∧ a ≠ 12) : dscr D i m v a b = D a b := by simp [dscr, h]
theorem dscr_o {a b : Nat} (hb : b ≠ i) : dscr D i m v a b = D a b := by simp [dscr, hb]
theorem dscr_11 : dscr D i m v 11 i = m + 1 := by simp [dscr]
theorem dscr_12 : dscr D i m v 12 i = v := by simp [dscr]
theorem dV_scr (hv : dV D) (hm : m ≤ 9999) (hvv : v ≤ 10100) : dV (dscr D i m v) := by
  obtain ⟨v0, vk, vp, vt⟩ := hv
  refine ⟨?_, ?_, ?_, ?_⟩
  · rw [dscr_l (by omega), dscr_l (by omega), dscr_l (by omega), dscr_l (by omega), dscr_l (by omega), dscr_l (by omega)]; exact v0
  · intro j hj
    rw [dscr_l (by omega)] at hj
    rw [dscr_l (by omega), dscr_l (by omega), dscr_l (by omega)]
    exact vk j hj
  · intro t ht
    rw [dscr_l (by omega)] at ht
    rw [dscr_l (by omega), dscr_l (by omega), dscr_l (by omega)]
    exact vp t ht
  · intro j hj
    rw [dscr_l (by omega)] at hj
    rw [dscr_l (a := 0) (by omega), dscr_l (a := 0) (by omega), dscr_l (a := 7) (by omega), dscr_l (a := 8) (by omega), dscr_l (a := 9) (by omega), dscr_l (a := 10) (by omega)]
    have := vt j hj
    by_cases e : j = i
    · subst e; rw [dscr_11, dscr_12]; omega
    · rw [dscr_o e, dscr_o e]; exact this
theorem dC_scr {s t : fu_S} (h : dC s 11 D) (ho : ∀ a, a ≠ 22 → a ≠ 23 → t.1 a = s.1 a) (h2 : t.2 = s.2) (hs : ∀ q, q ≠ i → t.1 22 q = s.1 22 q ∧ t.1 23 q = s.1 23 q) (h22 : t.1 22 i = Int32.ofNat m) (h23 : t.1 23 i = Int32.ofNat v) : dC t 11 (dscr D i m v) := by
  obtain ⟨⟨c0, c1, c2, c3, c4, c5⟩, ck, cp, ct⟩ := dC_11 h
  have o11 := ho 11 (by omega) (by omega)
  refine ⟨⟨?_, ?_, ?_, ?_, ?_, ?_⟩, fun j hj => ?_, fun j hj => ?_, fun j hj => ?_⟩
  · rw [dscr_l (by omega), o11]; exact c0
  · rw [dscr_l (by omega), o11]; exact c1
  · rw [dscr_l (by omega), o11]; exact c2
  · rw [dscr_l (by omega), o11]; exact c3
  · rw [dscr_l (by omega), o11]; exact c4
  · rw [dscr_l (by omega), o11]; exact c5
  · rw [dscr_l (by omega)] at hj
    rw [dscr_l (by omega), dscr_l (by omega), dscr_l (by omega), ho _ (by omega) (by omega), ho _ (by omega) (by omega), ho _ (by omega) (by omega)]
    exact ck j hj
  · rw [dscr_l (by omega)] at hj
    rw [dscr_l (by omega), dscr_l (by omega), dscr_l (by omega), h2, ho _ (by omega) (by omega), ho _ (by omega) (by omega)]
    exact cp j hj
  · rw [dscr_l (by omega)] at hj
    obtain ⟨a7, a8, a9, a10, a11, a12⟩ := ct j hj
    rw [dscr_l (a := 7) (by omega), dscr_l (a := 8) (by omega), dscr_l (a := 9) (by omega), dscr_l (a := 10) (by omega), ho (11 + 7) (by omega) (by omega), ho (11 + 8) (by omega) (by omega), ho (11 + 9) (by omega) (by omega), ho (11 + 10) (by omega) (by omega)]
    refine ⟨a7, a8, a9, a10, ?_, ?_⟩
    · by_cases e : j = i
      · subst e; rw [dscr_11, if_neg (by omega), Nat.add_sub_cancel]; exact h22
      · rw [dscr_o e]; exact ((hs j e).1).trans a11
    · by_cases e : j = i
      · subst e; rw [dscr_12]; exact fun _ => h23
      · rw [dscr_o e, dscr_o e]; exact fun z => ((hs j e).2).trans (a12 z)
theorem dR_scr {s t : fu_S} (h : dR s 0 D) (hv : dV D) (hi : i < 8) (h2 : t.2 = s.2) (hs : ∀ q, q ≠ 67 + i → q ≠ 75 + i → t.1 122 q = s.1 122 q) (h22 : t.1 122 (67 + i) = Int32.ofNat (m + 1)) (h23 : t.1 122 (75 + i) = Int32.ofNat v) : dR t 0 (dscr D i m v) := by
  obtain ⟨⟨c0, c1, c2, c3, c4, c5⟩, ck, cp, ct⟩ := dR_0 h
  obtain ⟨⟨v0, v1, v2, v3, v4, v5⟩, -⟩ := hv
  unfold dR
  simp only [Nat.mul_zero, Nat.zero_add]
  have hq : ∀ q, q < 67 → t.1 122 q = s.1 122 q := fun q h1 => hs q (by omega) (by omega)
  refine ⟨⟨?_, ?_, ?_, ?_, ?_, ?_⟩, fun j hj => ?_, fun j hj => ?_, fun j hj => ?_⟩
  · rw [dscr_l (by omega), hq _ (by omega)]; exact c0
  · rw [dscr_l (by omega), hq _ (by omega)]; exact c1
  · rw [dscr_l (by omega), hq _ (by omega)]; exact c2
  · rw [dscr_l (by omega), hq _ (by omega)]; exact c3
  · rw [dscr_l (by omega), hq _ (by omega)]; exact c4
  · rw [dscr_l (by omega), hq _ (by omega)]; exact c5
  · rw [dscr_l (by omega)] at hj
    rw [dscr_l (by omega), dscr_l (by omega), dscr_l (by omega), hq _ (by omega), hq _ (by omega), hq _ (by omega)]
    exact ck j hj
  · rw [dscr_l (by omega)] at hj
    rw [dscr_l (by omega), dscr_l (by omega), dscr_l (by omega), h2, hq _ (by omega), hq _ (by omega)]
    exact cp j hj
  · rw [dscr_l (by omega)] at hj
    obtain ⟨a7, a8, a9, a10, a11, a12⟩ := ct j hj
    rw [dscr_l (a := 7) (by omega), dscr_l (a := 8) (by omega), dscr_l (a := 9) (by omega), dscr_l (a := 10) (by omega), hq (35 + j) (by omega), hq (43 + j) (by omega), hq (51 + j) (by omega), hq (59 + j) (by omega)]
    refine ⟨a7, a8, a9, a10, ?_, ?_⟩
    · by_cases e : j = i
      · subst e; rw [dscr_11]; exact h22
      · rw [dscr_o e, hs _ (by omega) (by omega)]; exact a11
    · by_cases e : j = i
      · subst e; rw [dscr_12]; exact fun _ => h23
      · rw [dscr_o e, dscr_o e, hs _ (by omega) (by omega)]; exact a12
end SCR
theorem c_delay_fr {s : fu_S} {q : Nat} {x a : Int32} : f_X4_delayOf (fu_pi s 22 q x) 11 a = f_X4_delayOf s 11 a := by rfl
theorem r_way_fr {s u : fu_S} {D : dD} {t : Nat} (h : dR s 0 D) (hv : dV D) (ht : t < D 0 5) (hq : ∀ q, q < 67 → u.1 122 q = s.1 122 q) : f_X12_wayOf u (Int32.ofNat t) = some (Int32.ofNat (d_way D t)) := by
  rw [← r_wayOf h hv ht]
  have hb := dV_t hv ht
  have hp4 := hv.1
  have hk := dV_k hv hb.2.2.1
  have hl := d_b_lt hv ht
  obtain ⟨t1, t2, t3, t4, t5, t6⟩ := (dR_0 h).2.2.2 t ht
  obtain ⟨k1, k2, k3⟩ := (dR_0 h).2.1 _ hb.2.2.1
  have e1 : f_X12_bearerOf u (Int32.ofNat t) = f_X12_bearerOf s (Int32.ofNat t) := by
    simp (disch := omega) only [ne_eq, i_lt0, i_le0, i_eq0, i_n1, i_ltl, i_lel, i_eql, i_lt, i_le, i_eq, i_in, i_tn, i_add, i_addl, i_addr, i_mul, i_mulr, i_mull, if_true, if_false, eq_self, decide_eq_true_eq, decide_true, decide_false, Option.bind_some, Option.bind_none, fu_lt, Bool.false_eq_true, Bool.true_eq_false, not_true_eq_false, not_false_eq_true, Nat.not_lt_zero, Nat.le_zero_eq, Nat.reduceAdd, Nat.reduceMul, Nat.reduceSub, Nat.reduceEqDiff, Nat.reduceLT, Nat.reduceLeDiff, sC_def, sR_def, sC_1, sC_2, sR_1, sR_2, sC_st, sR_st, sR_no, sR_refuse, and_self, true_and, and_true, false_and, and_false, f_X12_bearerOf, f_X12_bearerBy, hq, t1, t2, k1]
  have e2 : f_X12_farBy u (Int32.ofNat (D 7 t)) (Int32.ofNat (d_b D t)) = f_X12_farBy s (Int32.ofNat (D 7 t)) (Int32.ofNat (d_b D t)) := by
    simp (disch := omega) only [ne_eq, i_lt0, i_le0, i_eq0, i_n1, i_ltl, i_lel, i_eql, i_lt, i_le, i_eq, i_in, i_tn, i_add, i_addl, i_addr, i_mul, i_mulr, i_mull, if_true, if_false, eq_self, decide_eq_true_eq, decide_true, decide_false, Option.bind_some, Option.bind_none, fu_lt, Bool.false_eq_true, Bool.true_eq_false, not_true_eq_false, not_false_eq_true, Nat.not_lt_zero, Nat.le_zero_eq, Nat.reduceAdd, Nat.reduceMul, Nat.reduceSub, Nat.reduceEqDiff, Nat.reduceLT, Nat.reduceLeDiff, sC_def, sR_def, sC_1, sC_2, sR_1, sR_2, sC_st, sR_st, sR_no, sR_refuse, and_self, true_and, and_true, false_and, and_false, f_X12_farBy, hq]
  have e3 := r_bearerOf h hv ht
  have t1' := (hq (35 + t) (by omega)).trans t1
  simp (disch := omega) only [ne_eq, i_lt0, i_le0, i_eq0, i_n1, i_ltl, i_lel, i_eql, i_lt, i_le, i_eq, i_in, i_tn, i_add, i_addl, i_addr, i_mul, i_mulr, i_mull, if_true, if_false, eq_self, decide_eq_true_eq, decide_true, decide_false, Option.bind_some, Option.bind_none, fu_lt, Bool.false_eq_true, Bool.true_eq_false, not_true_eq_false, not_false_eq_true, Nat.not_lt_zero, Nat.le_zero_eq, Nat.reduceAdd, Nat.reduceMul, Nat.reduceSub, Nat.reduceEqDiff, Nat.reduceLT, Nat.reduceLeDiff, sC_def, sR_def, sC_1, sC_2, sR_1, sR_2, sC_st, sR_st, sR_no, sR_refuse, and_self, true_and, and_true, false_and, and_false, f_X12_wayOf, e1, e2, e3, t1, t1']
