/-! days that are lived: what one thing done does, to any district of the class's and to the reference's -/
theorem bits_ofB {b : Bool} : fu_b b = if b = true then 1 else 0 := by cases b <;> rfl
section LFE
variable {s t s1 s2 t1 t2 : fu_S} {P Q b p k w i m v n : Nat} {D : dD}
/-- the class's district at P, brought to 11 -/
def shf (s : fu_S) (P : Nat) : fu_S := (fun a => s.1 (P + (a - 11)), fun a => s.2 (P + (a - 11)))
theorem dC_shf : dC (shf s P) 11 D ↔ dC s P D := Iff.rfl
theorem dC_thP (h : dC s P D) (hv : dV D) (ho : ∀ j, 1 ≤ j → j < 7 → t.1 (P + j) = s.1 (P + j) ∧ t.2 (P + j) = s.2 (P + j)) (h0 : ∀ q, q < 5 → t.1 P q = s.1 P q) (h5 : t.1 P 5 = Int32.ofNat (D 0 5 + 1))
    (hs : ∀ j, 7 ≤ j → j < 13 → ∀ q, q ≠ D 0 5 → t.1 (P + j) q = s.1 (P + j) q) (h7 : t.1 (P + 7) (D 0 5) = Int32.ofNat p) (h8 : t.1 (P + 8) (D 0 5) = Int32.ofNat k) (h9 : t.1 (P + 9) (D 0 5) = Int32.ofNat w) (h10 : t.1 (P + 10) (D 0 5) = Int32.ofNat (D 0 2)) (h11 : t.1 (P + 11) (D 0 5) = -1) : dC t P (dthing D p k w) := by
  rw [← dC_shf] at h ⊢
  refine dC_thing h hv (fun a h1 h2 => ho (a - 11) (by omega) (by omega)) (fun q hq => h0 q hq) h5 (fun a h1 h2 q hq => hs (a - 11) (by omega) (by omega) q hq) h7 h8 h9 h10 h11
theorem dC_scP (h : dC s P D) (ho : ∀ j, j < 13 → j ≠ 11 → j ≠ 12 → t.1 (P + j) = s.1 (P + j)) (h2 : t.2 = s.2) (hs : ∀ q, q ≠ i → t.1 (P + 11) q = s.1 (P + 11) q ∧ t.1 (P + 12) q = s.1 (P + 12) q) (h22 : t.1 (P + 11) i = Int32.ofNat m) (h23 : t.1 (P + 12) i = Int32.ofNat v) : dC t P (dscr D i m v) := by
  have hA : dC (shf s P) 11 D := h
  let t' : fu_S := (fun a => if a < 24 then (shf t P).1 a else (shf s P).1 a, (shf s P).2)
  have hB : dC t' 11 (dscr D i m v) := dC_scr hA (fun a h1 h2 => by
    by_cases ha : a < 24
    · show (if a < 24 then (shf t P).1 a else (shf s P).1 a) = _
      rw [if_pos ha]
      exact ho (a - 11) (by omega) (by omega) (by omega)
    · exact if_neg ha) rfl (fun q hq => hs q hq) h22 h23
  have hC : dC (shf t P) 11 (dscr D i m v) := dC_congr (fun k hk => ⟨by show _ = (if 11 + k < 24 then _ else _); rw [if_pos (by omega)], by show t.2 _ = s.2 _; rw [h2]⟩) hB
  exact hC
/-- a thing more: the class -/
theorem c_add (h : dC s P D) (hv : dV D) (h5 : D 0 5 < 8) (hp : p < 2147483648) (hk : k < 2147483648) (hw : w < 2147483648) : ∃ t, f_X4_addThing s P (Int32.ofNat p) (Int32.ofNat k) (Int32.ofNat w) = some (Int32.ofNat (D 0 5), t) ∧ dC t P (dthing D p k w) ∧ fC P (P + 13) s t := by
  have hp4 := hv.1
  have b5 := h.1.2.2.2.2.2
  have b2 := h.1.2.2.1
  refine ⟨fu_pi (fu_pi (fu_pi (fu_pi (fu_pi (fu_pi (fu_pi s (P + 7) (D 0 5) (Int32.ofNat p)) (P + 8) (D 0 5) (Int32.ofNat k)) (P + 9) (D 0 5) (Int32.ofNat w)) (P + 10) (D 0 5) (Int32.ofNat (D 0 2))) (P + 11) (D 0 5) (-1)) (P + 12) (D 0 5) (-1)) P 5 (Int32.ofNat (D 0 5 + 1)), ?_, ?_, ?_⟩
  · generalize hn : D 0 5 = n at *
    generalize hm : D 0 2 = m at *
    simp (disch := omega) only [ne_eq, i_lt0, i_le0, i_eq0, i_n1, i_ltl, i_lel, i_eql, i_lt, i_le, i_eq, i_in, i_tn, i_add, i_addl, i_addr, i_mul, i_mulr, i_mull, if_true, if_false, eq_self, decide_eq_true_eq, decide_true, decide_false, Option.bind_some, Option.bind_none, fu_lt, Bool.false_eq_true, Bool.true_eq_false, not_true_eq_false, not_false_eq_true, Nat.not_lt_zero, Nat.le_zero_eq, Nat.reduceAdd, Nat.reduceMul, Nat.reduceSub, Nat.reduceEqDiff, Nat.reduceLT, Nat.reduceLeDiff, sC_def, sR_def, sC_1, sC_2, sR_1, sR_2, sC_st, sR_st, sR_no, sR_refuse, and_self, true_and, and_true, false_and, and_false, f_X4_addThing, b5, b2, h5, p1, p1n, i_add1, i_add1s]
  · refine dC_thP h hv (fun j h1 h2 => ⟨?_, rfl⟩) (fun q hq => ?_) p1 (fun j h1 h2 q hq => ?_) ?_ ?_ ?_ ?_ ?_
    · rw [p1n (by omega), p1n (by omega), p1n (by omega), p1n (by omega), p1n (by omega), p1n (by omega), p1n (by omega)]
    · rw [p1q (by omega), p1n (by omega), p1n (by omega), p1n (by omega), p1n (by omega), p1n (by omega), p1n (by omega)]
    · rw [p1n (by omega), p1q hq, p1q hq, p1q hq, p1q hq, p1q hq, p1q hq]
    · rw [p1n (by omega), p1n (by omega), p1n (by omega), p1n (by omega), p1n (by omega), p1n (by omega), p1]
    · rw [p1n (by omega), p1n (by omega), p1n (by omega), p1n (by omega), p1n (by omega), p1]
    · rw [p1n (by omega), p1n (by omega), p1n (by omega), p1n (by omega), p1]
    · rw [p1n (by omega), p1n (by omega), p1n (by omega), p1]
    · rw [p1n (by omega), p1n (by omega), p1]
  · exact fC_tr (fC_tr (fC_tr (fC_tr (fC_tr (fC_tr (fC_pi (by omega)) (fC_pi (by omega))) (fC_pi (by omega))) (fC_pi (by omega))) (fC_pi (by omega))) (fC_pi (by omega))) (fC_pi (by omega))
theorem c_add8 (h : dC s P D) (h5 : ¬ D 0 5 < 8) (hv : dV D) {x y z : Int32} : f_X4_addThing s P x y z = some (-1, s) := by
  have hp4 := hv.1
  have b5 := h.1.2.2.2.2.2
  simp (disch := omega) only [ne_eq, i_lt0, i_le0, i_eq0, i_n1, i_ltl, i_lel, i_eql, i_lt, i_le, i_eq, i_in, i_tn, i_add, i_addl, i_addr, i_mul, i_mulr, i_mull, if_true, if_false, eq_self, decide_eq_true_eq, decide_true, decide_false, Option.bind_some, Option.bind_none, fu_lt, Bool.false_eq_true, Bool.true_eq_false, not_true_eq_false, not_false_eq_true, Nat.not_lt_zero, Nat.le_zero_eq, Nat.reduceAdd, Nat.reduceMul, Nat.reduceSub, Nat.reduceEqDiff, Nat.reduceLT, Nat.reduceLeDiff, sC_def, sR_def, sC_1, sC_2, sR_1, sR_2, sC_st, sR_st, sR_no, sR_refuse, and_self, true_and, and_true, false_and, and_false, f_X4_addThing, b5, h5]
/-- the reference's block b, brought to 0 -/
def shr (s : fu_S) (b : Nat) : fu_S := (fun a r => s.1 a (355 * b + r), fun a r => s.2 a (7 * b + r))
theorem dR_shr1 (hv : dV D) (h : dR s b D) : dR (shr s b) 0 D := dR_mv hv (fun i _ => by rw [Nat.mul_zero, Nat.zero_add]; rfl) (fun i _ => by rw [Nat.mul_zero, Nat.zero_add]; rfl) h
theorem dR_shr2 (hv : dV D) (h : dR (shr s b) 0 D) : dR s b D := dR_mv hv (fun i _ => by rw [Nat.mul_zero, Nat.zero_add]; rfl) (fun i _ => by rw [Nat.mul_zero, Nat.zero_add]; rfl) h
/-- all of 122 but the places lo .. hi, and all else, is as it was -/
def fR (lo hi : Nat) (s t : fu_S) : Prop := t.2 = s.2 ∧ (∀ a, a ≠ 122 → t.1 a = s.1 a) ∧ ∀ i, ¬ (lo ≤ i ∧ i < hi) → t.1 122 i = s.1 122 i
theorem fR_rf {lo hi : Nat} : fR lo hi s s := ⟨rfl, fun _ _ => rfl, fun _ _ => rfl⟩
theorem fR_tr {u : fu_S} {lo hi : Nat} (h : fR lo hi s t) (g : fR lo hi t u) : fR lo hi s u := ⟨g.1.trans h.1, fun a ha => (g.2.1 a ha).trans (h.2.1 a ha), fun i hi => (g.2.2 i hi).trans (h.2.2 i hi)⟩
theorem fR_pi {lo hi q : Nat} {x : Int32} (h : lo ≤ q ∧ q < hi) : fR lo hi s (fu_pi s 122 q x) := ⟨rfl, fun a ha => p1n ha, fun i hi => p1q (by omega)⟩
theorem r_add (h : dR s b D) (hv : dV D) (hb : b < 5) (h5 : D 0 5 < 8) (hk3 : D 0 3 ≤ 5) (hp : p < D 0 4) (hk : k < D 0 3) (hw : 1 ≤ w ∧ w ≤ 9) : ∃ t, f_X12_loses s (Int32.ofNat b) (Int32.ofNat p) (Int32.ofNat k) (Int32.ofNat w) = some t ∧ dR t b (dthing D p k w) ∧ fR (355 * b) (355 * b + 83) s t := by
  have hp4 := hv.1
  have d2 := h.1.2.2.1
  have d5 := h.1.2.2.2.2.2
  have hv' := dV_thing (w := w) hv h5 hp hk hw
  generalize hn : D 0 5 = n at *
  generalize hm : D 0 2 = m at *
  refine ⟨fu_pi (fu_pi (fu_pi (fu_pi (fu_pi (fu_pi (fu_pi s 122 (355 * b + 35 + n) (Int32.ofNat p)) 122 (355 * b + 43 + n) (Int32.ofNat k)) 122 (355 * b + 51 + n) (Int32.ofNat w)) 122 (355 * b + 59 + n) (Int32.ofNat m)) 122 (355 * b + 67 + n) 0) 122 (355 * b + 75 + n) 0) 122 (355 * b + 2) (Int32.ofNat (n + 1)), ?_, ?_, ?_⟩
  · have m1 : 355 * b + 2 < 1775 := by omega
    have m2 : 355 * b + 5 < 1775 := by omega
    have m3 : ∀ x, x < 76 → 355 * b + x + n < 1775 := fun x hx => by omega
    unfold f_X12_loses
    simp (disch := omega) only [i_mulr, i_addl, i_add, i_in, i_tn, decide_eq_true_eq, m1, m2, m3, if_true, d2]
    dsimp only [fu_lt]
    simp (disch := omega) only [p1q, d5, d2, i_add1]
  · refine dR_shr2 hv' (dR_thing (s := shr s b) (dR_shr1 hv h) hv (by omega) rfl ?_ (fun q x0 x1 x2 x3 x4 x5 x6 => ?_) ?_ ?_ ?_ ?_ ?_)
    · rw [hn]; exact p1
    · rw [hn] at x1 x2 x3 x4 x5 x6
      show (fu_pi _ _ _ _).1 122 (355 * b + q) = s.1 122 (355 * b + q)
      rw [p1q (by omega), p1q (by omega), p1q (by omega), p1q (by omega), p1q (by omega), p1q (by omega), p1q (by omega)]
    · rw [hn]
      show (fu_pi _ _ _ _).1 122 (355 * b + (35 + n)) = _
      rw [← Nat.add_assoc, p1q (by omega), p1q (by omega), p1q (by omega), p1q (by omega), p1q (by omega), p1q (by omega), p1]
    · rw [hn]
      show (fu_pi _ _ _ _).1 122 (355 * b + (43 + n)) = _
      rw [← Nat.add_assoc, p1q (by omega), p1q (by omega), p1q (by omega), p1q (by omega), p1q (by omega), p1]
    · rw [hn]
      show (fu_pi _ _ _ _).1 122 (355 * b + (51 + n)) = _
      rw [← Nat.add_assoc, p1q (by omega), p1q (by omega), p1q (by omega), p1q (by omega), p1]
    · rw [hn, hm]
      show (fu_pi _ _ _ _).1 122 (355 * b + (59 + n)) = _
      rw [← Nat.add_assoc, p1q (by omega), p1q (by omega), p1q (by omega), p1]
    · rw [hn]
      show (fu_pi _ _ _ _).1 122 (355 * b + (67 + n)) = _
      rw [← Nat.add_assoc, p1q (by omega), p1q (by omega), p1]
  · exact fR_tr (fR_tr (fR_tr (fR_tr (fR_tr (fR_tr (fR_pi (by omega)) (fR_pi (by omega))) (fR_pi (by omega))) (fR_pi (by omega))) (fR_pi (by omega))) (fR_pi (by omega))) (fR_pi (by omega))
/-- a thing scratched -/
theorem c_end (h : dC s P D) (hv : dV D) (hi : i < D 0 5) : ∃ t, f_X4_endItch s P (Int32.ofNat i) = some t ∧ dC t P (dscr D i (D 0 2) (D 0 2 + d_way D i)) ∧ fC P (P + 13) s t := by
  have hp4 := hv.1
  have b2 := h.1.2.2.1
  have hi8 : i < 8 := by omega
  have hw := d_way_le hv hi
  have hT := c_hasThing (x := Int32.ofNat i) h
  have e7 : f_X4_delayOf (fu_pi s (P + 11) i (Int32.ofNat (D 0 2))) P (Int32.ofNat i) = some (Int32.ofNat (d_way D i)) := by
    have hC' : dC (fu_pi (fu_pi s (P + 11) i (Int32.ofNat (D 0 2))) (P + 12) i (Int32.ofNat (D 0 2 + d_way D i))) P (dscr D i (D 0 2) (D 0 2 + d_way D i)) := dC_scP h (fun j h1 h2 h3 => by rw [p1n (by omega), p1n (by omega)]) rfl (fun q hq => ⟨by rw [p1n (by omega), p1q hq], by rw [p1q hq, p1n (by omega)]⟩) (by rw [p1n (by omega), p1]) p1
    have := c_delayOf hC' (dV_scr hv (by omega) (by omega)) (t := i) (by rw [dscr_l (by omega)]; exact hi)
    rw [show d_way (dscr D i (D 0 2) (D 0 2 + d_way D i)) i = d_way D i by
      unfold d_way d_far d_b d_by
      rw [dscr_l (by omega), dscr_l (by omega), dscr_l (by omega), dscr_l (by omega), dscr_l (by omega), dscr_l (by omega)]] at this
    refine Eq.trans ?_ this
    unfold f_X4_delayOf f_X4_hasThing f_X4_bearerOf f_X4_apart
    have n0 : ∀ x, (fu_pi (fu_pi s (P + 11) i (Int32.ofNat (D 0 2))) (P + 12) i x).1 P = (fu_pi s (P + 11) i (Int32.ofNat (D 0 2))).1 P := fun x => p1n (by omega)
    have n1 : ∀ x, (fu_pi (fu_pi s (P + 11) i (Int32.ofNat (D 0 2))) (P + 12) i x).1 (P + 1) = (fu_pi s (P + 11) i (Int32.ofNat (D 0 2))).1 (P + 1) := fun x => p1n (by omega)
    have n5 : ∀ x, (fu_pi (fu_pi s (P + 11) i (Int32.ofNat (D 0 2))) (P + 12) i x).1 (P + 5) = (fu_pi s (P + 11) i (Int32.ofNat (D 0 2))).1 (P + 5) := fun x => p1n (by omega)
    have n7 : ∀ x, (fu_pi (fu_pi s (P + 11) i (Int32.ofNat (D 0 2))) (P + 12) i x).1 (P + 7) = (fu_pi s (P + 11) i (Int32.ofNat (D 0 2))).1 (P + 7) := fun x => p1n (by omega)
    have n8 : ∀ x, (fu_pi (fu_pi s (P + 11) i (Int32.ofNat (D 0 2))) (P + 12) i x).1 (P + 8) = (fu_pi s (P + 11) i (Int32.ofNat (D 0 2))).1 (P + 8) := fun x => p1n (by omega)
    simp only [n0, n1, n5, n7, n8]
  refine ⟨fu_pi (fu_pi s (P + 11) i (Int32.ofNat (D 0 2))) (P + 12) i (Int32.ofNat (D 0 2 + d_way D i)), ?_, ?_, fC_tr (fC_pi (by omega)) (fC_pi (by omega))⟩
  · generalize D 0 2 = m at *
    generalize d_way D i = v at *
    simp (disch := omega) only [ne_eq, i_lt0, i_le0, i_eq0, i_n1, i_ltl, i_lel, i_eql, i_lt, i_le, i_eq, i_in, i_tn, i_add, i_addl, i_addr, i_mul, i_mulr, i_mull, if_true, if_false, eq_self, decide_eq_true_eq, decide_true, decide_false, Option.bind_some, Option.bind_none, fu_lt, Bool.false_eq_true, Bool.true_eq_false, not_true_eq_false, not_false_eq_true, Nat.not_lt_zero, Nat.le_zero_eq, Nat.reduceAdd, Nat.reduceMul, Nat.reduceSub, Nat.reduceEqDiff, Nat.reduceLT, Nat.reduceLeDiff, sC_def, sR_def, sC_1, sC_2, sR_1, sR_2, sC_st, sR_st, sR_no, sR_refuse, and_self, true_and, and_true, false_and, and_false, f_X4_endItch, hT, hi, hi8, b2, e7, p1n]
  · exact dC_scP h (fun j h1 h2 h3 => by rw [p1n (by omega), p1n (by omega)]) rfl (fun q hq => ⟨by rw [p1n (by omega), p1q hq], by rw [p1q hq, p1n (by omega)]⟩) (by rw [p1n (by omega), p1]) p1
theorem r_scr (h : dR s 0 D) (hv : dV D) (hp : p < D 0 4) (hi : i < D 0 5) : if d_isUp D i = true ∧ d_able D p i = true then ∃ t, f_X12_scratches s (Int32.ofNat p) (Int32.ofNat i) = some (true, t) ∧ dR t 0 (dscr D i (D 0 2) (D 0 2 + d_way D i)) ∧ fR 0 83 s t else f_X12_scratches s (Int32.ofNat p) (Int32.ofNat i) = some (false, s) := by
  have hp4 := hv.1
  have f1 := r_isUp h hv hi
  have f2 := r_could h hv hi hp
  have et := r_isThing (x := Int32.ofNat i) h hv
  have d5 := (dR_0 h).1.2.2.2.2.2
  have m1 : 67 + i < 1775 := by omega
  have m2 : 75 + i < 1775 := by omega
  have hw := d_way_le hv hi
  have f7 : f_X12_wayOf (fu_pi s 122 (67 + i) (Int32.ofNat (D 0 2 + 1))) (Int32.ofNat i) = some (Int32.ofNat (d_way D i)) := r_way_fr h hv hi (fun q hq => p1q (by omega))
  by_cases h3 : d_isUp D i = true
  · by_cases h4 : d_able D p i = true
    · rw [if_pos ⟨h3, h4⟩]
      refine ⟨fu_pi (fu_pi s 122 (67 + i) (Int32.ofNat (D 0 2 + 1))) 122 (75 + i) (Int32.ofNat (D 0 2 + d_way D i)), ?_, dR_scr h hv (by omega) rfl (fun q x0 x1 => by rw [p1q (by omega), p1q (by omega)]) (by rw [p1q (by omega), p1]) p1, fR_tr (fR_pi (by omega)) (fR_pi (by omega))⟩
      generalize D 0 2 = m at *
      simp (disch := omega) only [ne_eq, i_lt0, i_le0, i_eq0, i_n1, i_ltl, i_lel, i_eql, i_lt, i_le, i_eq, i_in, i_tn, i_add, i_addl, i_addr, i_mul, i_mulr, i_mull, if_true, if_false, eq_self, decide_eq_true_eq, decide_true, decide_false, Option.bind_some, Option.bind_none, fu_lt, Bool.false_eq_true, Bool.true_eq_false, not_true_eq_false, not_false_eq_true, Nat.not_lt_zero, Nat.le_zero_eq, Nat.reduceAdd, Nat.reduceMul, Nat.reduceSub, Nat.reduceEqDiff, Nat.reduceLT, Nat.reduceLeDiff, sC_def, sR_def, sC_1, sC_2, sR_1, sR_2, sC_st, sR_st, sR_no, sR_refuse, and_self, true_and, and_true, false_and, and_false, f_X12_scratches, et, hi, f1, h3, f2, h4, m1, m2, d5, i_add1, f7, p1q]
    · rw [if_neg (fun z => h4 z.2)]
      rw [Bool.not_eq_true] at h4
      simp (disch := omega) only [ne_eq, i_lt0, i_le0, i_eq0, i_n1, i_ltl, i_lel, i_eql, i_lt, i_le, i_eq, i_in, i_tn, i_add, i_addl, i_addr, i_mul, i_mulr, i_mull, if_true, if_false, eq_self, decide_eq_true_eq, decide_true, decide_false, Option.bind_some, Option.bind_none, fu_lt, Bool.false_eq_true, Bool.true_eq_false, not_true_eq_false, not_false_eq_true, Nat.not_lt_zero, Nat.le_zero_eq, Nat.reduceAdd, Nat.reduceMul, Nat.reduceSub, Nat.reduceEqDiff, Nat.reduceLT, Nat.reduceLeDiff, sC_def, sR_def, sC_1, sC_2, sR_1, sR_2, sC_st, sR_st, sR_no, sR_refuse, and_self, true_and, and_true, false_and, and_false, f_X12_scratches, et, hi, f1, h3, f2, h4]
  · rw [if_neg (fun z => h3 z.1)]
    rw [Bool.not_eq_true] at h3
    simp (disch := omega) only [ne_eq, i_lt0, i_le0, i_eq0, i_n1, i_ltl, i_lel, i_eql, i_lt, i_le, i_eq, i_in, i_tn, i_add, i_addl, i_addr, i_mul, i_mulr, i_mull, if_true, if_false, eq_self, decide_eq_true_eq, decide_true, decide_false, Option.bind_some, Option.bind_none, fu_lt, Bool.false_eq_true, Bool.true_eq_false, not_true_eq_false, not_false_eq_true, Nat.not_lt_zero, Nat.le_zero_eq, Nat.reduceAdd, Nat.reduceMul, Nat.reduceSub, Nat.reduceEqDiff, Nat.reduceLT, Nat.reduceLeDiff, sC_def, sR_def, sC_1, sC_2, sR_1, sR_2, sC_st, sR_st, sR_no, sR_refuse, and_self, true_and, and_true, false_and, and_false, f_X12_scratches, et, hi, f1, h3]
end LFE
