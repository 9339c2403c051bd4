/-! what is done: soonest, come -/
theorem hd_25 : lw_E_25 dI := by
  intro s1 s2 hI a1
  obtain ⟨D, hv, hC, hR, -⟩ := dI_D hI
  have hp4 := hv.1
  have hc := fun x => dC_s (x := x) (by omega : (11 : Nat) ≠ 0) hC
  have hr := fun x => dR_s (x := x) hv hR
  have ep := fun x y => r_isThing (x := y) (hr x) hv
  by_cases h1 : ¬ a1 < 0 ∧ a1 < Int32.ofNat (D 0 5)
  · obtain ⟨t, ht, rfl⟩ := i_is (by omega) h1
    have hb := dV_t hv ht
    have ht8 : t < 8 := by omega
    have e0 := fun x => c_hasThing (x := Int32.ofNat t) (hc x)
    have es := c_isScratched hC hv ht
    have es' := fun x => c_isScratched (hc x) hv ht
    have fs := fun x => r_isScratched (hr x) hv ht
    have m8 : 75 + t < 1775 := by omega
    by_cases h2 : D 11 t = 0
    · have e9 := c_ableSet hC hv ht
      have f9 := fun x => r_who (hr x) hv ht
      have e6 := fun x => c_upAtOf (hc x) hv ht
      have e7 := fun x => c_delayOf (hc x) hv ht
      have f6 := fun x => r_comesUp (hr x) hv ht
      have f7 := fun x => r_wayOf (hr x) hv ht
      have k2 := (dC_11 hC).1.2.2.1
      have g2 := (dR_0 hR).1.2.2.2.2.2
      generalize Int32.ofNat (d_set (fun p => d_able D p t) (D 0 4)) = S at e9 f9
      by_cases h3 : S = 0
      · refine ⟨-1, sC s1 8, sR s2 8, ?_, ?_, dI_s hI⟩
        · simp (disch := omega) only [ne_eq, i_lt0, i_le0, i_eq0, i_n1, i_ltl, i_lel, i_eql, i_lt, i_le, i_eq, i_in, i_tn, i_add, i_addl, i_addr, i_mul, i_mulr, i_mull, if_true, if_false, eq_self, decide_eq_true_eq, decide_true, decide_false, Option.bind_some, Option.bind_none, fu_lt, Bool.false_eq_true, Bool.true_eq_false, not_true_eq_false, not_false_eq_true, Nat.not_lt_zero, Nat.le_zero_eq, Nat.reduceAdd, Nat.reduceMul, Nat.reduceSub, Nat.reduceEqDiff, Nat.reduceLT, Nat.reduceLeDiff, sC_def, sR_def, sC_1, sC_2, sR_1, sR_2, sC_st, sR_st, sR_no, sR_refuse, and_self, true_and, and_true, false_and, and_false, f_X11_soonest, c_hasThing hC, ht, es, h2, e9, h3]
          try rfl
        · simp (disch := omega) only [ne_eq, i_lt0, i_le0, i_eq0, i_n1, i_ltl, i_lel, i_eql, i_lt, i_le, i_eq, i_in, i_tn, i_add, i_addl, i_addr, i_mul, i_mulr, i_mull, if_true, if_false, eq_self, decide_eq_true_eq, decide_true, decide_false, Option.bind_some, Option.bind_none, fu_lt, Bool.false_eq_true, Bool.true_eq_false, not_true_eq_false, not_false_eq_true, Nat.not_lt_zero, Nat.le_zero_eq, Nat.reduceAdd, Nat.reduceMul, Nat.reduceSub, Nat.reduceEqDiff, Nat.reduceLT, Nat.reduceLeDiff, sC_def, sR_def, sC_1, sC_2, sR_1, sR_2, sC_st, sR_st, sR_no, sR_refuse, and_self, true_and, and_true, false_and, and_false, f_X12_soonest, ep, ht, fs, h2, f9, h3]
      · refine ⟨fu_mx (Int32.ofNat (D 0 2)) (Int32.ofNat (d_up D t)) + Int32.ofNat (d_way D t), sC s1 0, sR s2 0, ?_, ?_, dI_s hI⟩
        · simp (disch := omega) only [ne_eq, i_lt0, i_le0, i_eq0, i_n1, i_ltl, i_lel, i_eql, i_lt, i_le, i_eq, i_in, i_tn, i_add, i_addl, i_addr, i_mul, i_mulr, i_mull, if_true, if_false, eq_self, decide_eq_true_eq, decide_true, decide_false, Option.bind_some, Option.bind_none, fu_lt, Bool.false_eq_true, Bool.true_eq_false, not_true_eq_false, not_false_eq_true, Nat.not_lt_zero, Nat.le_zero_eq, Nat.reduceAdd, Nat.reduceMul, Nat.reduceSub, Nat.reduceEqDiff, Nat.reduceLT, Nat.reduceLeDiff, sC_def, sR_def, sC_1, sC_2, sR_1, sR_2, sC_st, sR_st, sR_no, sR_refuse, and_self, true_and, and_true, false_and, and_false, f_X11_soonest, f_X4_soonestFound, c_hasThing hC, ht, es, es', h2, e9, h3, e6, e7, k2]
        · simp (disch := omega) only [ne_eq, i_lt0, i_le0, i_eq0, i_n1, i_ltl, i_lel, i_eql, i_lt, i_le, i_eq, i_in, i_tn, i_add, i_addl, i_addr, i_mul, i_mulr, i_mull, if_true, if_false, eq_self, decide_eq_true_eq, decide_true, decide_false, Option.bind_some, Option.bind_none, fu_lt, Bool.false_eq_true, Bool.true_eq_false, not_true_eq_false, not_false_eq_true, Nat.not_lt_zero, Nat.le_zero_eq, Nat.reduceAdd, Nat.reduceMul, Nat.reduceSub, Nat.reduceEqDiff, Nat.reduceLT, Nat.reduceLeDiff, sC_def, sR_def, sC_1, sC_2, sR_1, sR_2, sC_st, sR_st, sR_no, sR_refuse, and_self, true_and, and_true, false_and, and_false, f_X12_soonest, ep, ht, fs, h2, f9, h3, f6, f7, g2]
    · have k8 := ((dC_11 hC).2.2.2 t ht).2.2.2.2.2 h2
      have g8 := ((dR_0 hR).2.2.2 t ht).2.2.2.2.2 h2
      refine ⟨Int32.ofNat (D 12 t), sC s1 0, sR s2 0, ?_, ?_, dI_s hI⟩
      · simp (disch := omega) only [ne_eq, i_lt0, i_le0, i_eq0, i_n1, i_ltl, i_lel, i_eql, i_lt, i_le, i_eq, i_in, i_tn, i_add, i_addl, i_addr, i_mul, i_mulr, i_mull, if_true, if_false, eq_self, decide_eq_true_eq, decide_true, decide_false, Option.bind_some, Option.bind_none, fu_lt, Bool.false_eq_true, Bool.true_eq_false, not_true_eq_false, not_false_eq_true, Nat.not_lt_zero, Nat.le_zero_eq, Nat.reduceAdd, Nat.reduceMul, Nat.reduceSub, Nat.reduceEqDiff, Nat.reduceLT, Nat.reduceLeDiff, sC_def, sR_def, sC_1, sC_2, sR_1, sR_2, sC_st, sR_st, sR_no, sR_refuse, and_self, true_and, and_true, false_and, and_false, f_X11_soonest, f_X4_soonestFound, f_X4_foundAtOf, c_hasThing hC, e0, ht, ht8, es, es', h2, k8]
      · simp (disch := omega) only [ne_eq, i_lt0, i_le0, i_eq0, i_n1, i_ltl, i_lel, i_eql, i_lt, i_le, i_eq, i_in, i_tn, i_add, i_addl, i_addr, i_mul, i_mulr, i_mull, if_true, if_false, eq_self, decide_eq_true_eq, decide_true, decide_false, Option.bind_some, Option.bind_none, fu_lt, Bool.false_eq_true, Bool.true_eq_false, not_true_eq_false, not_false_eq_true, Nat.not_lt_zero, Nat.le_zero_eq, Nat.reduceAdd, Nat.reduceMul, Nat.reduceSub, Nat.reduceEqDiff, Nat.reduceLT, Nat.reduceLeDiff, sC_def, sR_def, sC_1, sC_2, sR_1, sR_2, sC_st, sR_st, sR_no, sR_refuse, and_self, true_and, and_true, false_and, and_false, f_X12_soonest, ep, ht, fs, h2, m8, g8]
  · refine ⟨-1, sC s1 2, sR s2 2, ?_, ?_, dI_s hI⟩
    · simp (disch := omega) only [ne_eq, i_lt0, i_le0, i_eq0, i_n1, i_ltl, i_lel, i_eql, i_lt, i_le, i_eq, i_in, i_tn, i_add, i_addl, i_addr, i_mul, i_mulr, i_mull, if_true, if_false, eq_self, decide_eq_true_eq, decide_true, decide_false, Option.bind_some, Option.bind_none, fu_lt, Bool.false_eq_true, Bool.true_eq_false, not_true_eq_false, not_false_eq_true, Nat.not_lt_zero, Nat.le_zero_eq, Nat.reduceAdd, Nat.reduceMul, Nat.reduceSub, Nat.reduceEqDiff, Nat.reduceLT, Nat.reduceLeDiff, sC_def, sR_def, sC_1, sC_2, sR_1, sR_2, sC_st, sR_st, sR_no, sR_refuse, and_self, true_and, and_true, false_and, and_false, f_X11_soonest, c_hasThing hC, h1]
      try rfl
    · simp (disch := omega) only [ne_eq, i_lt0, i_le0, i_eq0, i_n1, i_ltl, i_lel, i_eql, i_lt, i_le, i_eq, i_in, i_tn, i_add, i_addl, i_addr, i_mul, i_mulr, i_mull, if_true, if_false, eq_self, decide_eq_true_eq, decide_true, decide_false, Option.bind_some, Option.bind_none, fu_lt, Bool.false_eq_true, Bool.true_eq_false, not_true_eq_false, not_false_eq_true, Nat.not_lt_zero, Nat.le_zero_eq, Nat.reduceAdd, Nat.reduceMul, Nat.reduceSub, Nat.reduceEqDiff, Nat.reduceLT, Nat.reduceLeDiff, sC_def, sR_def, sC_1, sC_2, sR_1, sR_2, sC_st, sR_st, sR_no, sR_refuse, and_self, true_and, and_true, false_and, and_false, f_X12_soonest, ep, h1]
/-- a person more -/
def dperson (D : dD) (w : Nat) : dD := fun a b => if a = 0 ∧ b = 4 then D 0 4 + 1 else if a = 4 ∧ b = D 0 4 then 0 else if a = 5 ∧ b = D 0 4 then w else if a = 6 ∧ b = D 0 4 then 0 else D a b
section PRS
variable {D : dD} {w : Nat}
theorem dperson_0 {b : Nat} (h : b ≠ 4) : dperson D w 0 b = D 0 b := by simp [dperson, h]
theorem dperson_04 : dperson D w 0 4 = D 0 4 + 1 := by simp [dperson]
theorem dperson_l {a b : Nat} (h : a ≠ 0 ∧ a ≠ 4 ∧ a ≠ 5 ∧ a ≠ 6) : dperson D w a b = D a b := by simp [dperson, h]
theorem dperson_o {a b : Nat} (h : a ≠ 0) (hb : b ≠ D 0 4) : dperson D w a b = D a b := by simp [dperson, h, hb]
theorem dperson_4 : dperson D w 4 (D 0 4) = 0 := by simp [dperson]
theorem dperson_5 : dperson D w 5 (D 0 4) = w := by simp [dperson]
theorem dperson_6 : dperson D w 6 (D 0 4) = 0 := by simp [dperson]
theorem dV_person (hv : dV D) (hn : D 0 4 < 7) (hw : w ≤ 59) : dV (dperson D w) := by
  obtain ⟨v0, vk, vp, vt⟩ := hv
  refine ⟨?_, ?_, ?_, ?_⟩
  · rw [dperson_0 (by omega), dperson_0 (by omega), dperson_0 (by omega), dperson_0 (by omega), dperson_04, dperson_0 (by omega)]; omega
  · intro j hj
    rw [dperson_0 (by omega)] at hj
    rw [dperson_l (by omega), dperson_l (by omega), dperson_l (by omega)]
    exact vk j hj
  · intro t ht
    rw [dperson_04] at ht
    by_cases e : t = D 0 4
    · subst e
      rw [dperson_4, dperson_5, dperson_6]
      omega
    · rw [dperson_o (by omega) e, dperson_o (by omega) e, dperson_o (by omega) e]
      exact vp t (by omega)
  · intro j hj
    rw [dperson_0 (by omega)] at hj
    rw [dperson_04, dperson_0 (by omega), dperson_l (by omega), dperson_l (by omega), dperson_l (by omega), dperson_l (by omega), dperson_l (by omega), dperson_l (by omega)]
    have := vt j hj
    omega
theorem dC_person {s t : fu_S} (h : dC s 11 D) (ho : ∀ a, ((12 ≤ a ∧ a < 15) ∨ (18 ≤ a ∧ a < 24)) → t.1 a = s.1 a) (h0 : ∀ q, q ≠ 4 → t.1 11 q = s.1 11 q) (h4 : t.1 11 4 = Int32.ofNat (D 0 4 + 1))
    (hs : ∀ q, q ≠ D 0 4 → t.2 15 q = s.2 15 q ∧ t.1 16 q = s.1 16 q ∧ t.1 17 q = s.1 17 q) (h7 : t.2 15 (D 0 4) = 0) (h8 : t.1 16 (D 0 4) = Int32.ofNat w) (h9 : t.1 17 (D 0 4) = 0) : dC t 11 (dperson D w) := by
  obtain ⟨⟨c0, c1, c2, c3, c4, c5⟩, ck, cp, ct⟩ := dC_11 h
  refine ⟨⟨?_, ?_, ?_, ?_, ?_, ?_⟩, fun j hj => ?_, fun j hj => ?_, fun j hj => ?_⟩
  · rw [dperson_0 (by omega), h0 _ (by omega)]; exact c0
  · rw [dperson_0 (by omega), h0 _ (by omega)]; exact c1
  · rw [dperson_0 (by omega), h0 _ (by omega)]; exact c2
  · rw [dperson_0 (by omega), h0 _ (by omega)]; exact c3
  · rw [dperson_04]; exact h4
  · rw [dperson_0 (by omega), h0 _ (by omega)]; exact c5
  · rw [dperson_0 (by omega)] at hj
    rw [dperson_l (by omega), dperson_l (by omega), dperson_l (by omega), ho _ (by omega), ho _ (by omega), ho _ (by omega)]
    exact ck j hj
  · rw [dperson_04] at hj
    by_cases e : j = D 0 4
    · subst e
      rw [dperson_4, dperson_5, dperson_6]
      exact ⟨h7, h8, h9⟩
    · rw [dperson_o (by omega) e, dperson_o (by omega) e, dperson_o (by omega) e]
      obtain ⟨q1, q2, q3⟩ := hs j e
      obtain ⟨p1, p2, p3⟩ := cp j (by omega)
      exact ⟨q1.trans p1, q2.trans p2, q3.trans p3⟩
  · rw [dperson_0 (by omega)] at hj
    rw [dperson_l (by omega), dperson_l (by omega), dperson_l (by omega), dperson_l (by omega), dperson_l (by omega), dperson_l (by omega), ho _ (by omega), ho _ (by omega), ho _ (by omega), ho _ (by omega), ho _ (by omega), ho _ (by omega)]
    exact ct j hj
theorem dR_person {s t : fu_S} (h : dR s 0 D) (hv : dV D) (hn : D 0 4 < 7) (h4 : t.1 122 1 = Int32.ofNat (D 0 4 + 1))
    (hs : ∀ q, q ≠ 1 → q ≠ 21 + D 0 4 → q ≠ 28 + D 0 4 → t.1 122 q = s.1 122 q) (h2 : ∀ q, q ≠ D 0 4 → t.2 124 q = s.2 124 q) (h7 : t.2 124 (D 0 4) = 0) (h8 : t.1 122 (21 + D 0 4) = Int32.ofNat w) (h9 : t.1 122 (28 + D 0 4) = 0) : dR t 0 (dperson D w) := by
  obtain ⟨⟨c0, c1, c2, c3, c4, c5⟩, ck, cp, ct⟩ := dR_0 h
  obtain ⟨⟨v0, v1, v2, v3, v4, v5⟩, -⟩ := hv
  unfold dR
  simp only [Nat.mul_zero, Nat.zero_add]
  have hq : ∀ q, (q < 21 ∨ 35 ≤ q) → q ≠ 1 → t.1 122 q = s.1 122 q := fun q h1 h2 => hs q h2 (by omega) (by omega)
  refine ⟨⟨?_, ?_, ?_, ?_, ?_, ?_⟩, fun j hj => ?_, fun j hj => ?_, fun j hj => ?_⟩
  · rw [dperson_0 (by omega), hq _ (by omega) (by omega)]; exact c0
  · rw [dperson_04]; exact h4
  · rw [dperson_0 (by omega), hq _ (by omega) (by omega)]; exact c2
  · rw [dperson_0 (by omega), hq _ (by omega) (by omega)]; exact c3
  · rw [dperson_0 (by omega), hq _ (by omega) (by omega)]; exact c4
  · rw [dperson_0 (by omega), hq _ (by omega) (by omega)]; exact c5
  · rw [dperson_0 (by omega)] at hj
    rw [dperson_l (by omega), dperson_l (by omega), dperson_l (by omega), hq _ (by omega) (by omega), hq _ (by omega) (by omega), hq _ (by omega) (by omega)]
    exact ck j hj
  · rw [dperson_04] at hj
    by_cases e : j = D 0 4
    · subst e
      rw [dperson_4, dperson_5, dperson_6]
      exact ⟨h7, h8, h9⟩
    · rw [dperson_o (by omega) e, dperson_o (by omega) e, dperson_o (by omega) e, h2 _ e, hs _ (by omega) (by omega) (by omega), hs _ (by omega) (by omega) (by omega)]
      exact cp j (by omega)
  · rw [dperson_0 (by omega)] at hj
    rw [dperson_l (by omega), dperson_l (by omega), dperson_l (by omega), dperson_l (by omega), dperson_l (by omega), dperson_l (by omega), hq _ (by omega) (by omega), hq _ (by omega) (by omega), hq _ (by omega) (by omega), hq _ (by omega) (by omega), hq _ (by omega) (by omega), hq _ (by omega) (by omega)]
    exact ct j hj
end PRS
theorem eqC2_pl' {s u : fu_S} {a q : Nat} {x : Int64} (h : 11 ≤ a ∧ a < 24) (hu : eqC2 s u) : eqC2 s (fu_pl u a q x) := eqC2_tr hu (eqC2_pl h)
theorem eqR2_pl' {s u : fu_S} {q : Nat} {x : Int64} (h : q < 7) (hu : eqR2 s u) : eqR2 s (fu_pl u 124 q x) := eqR2_tr hu (eqR2_pl h)
theorem hd_22 : lw_E_22 dI := by
  intro s1 s2 hI a1
  obtain ⟨D, hv, hC, hR, hQ⟩ := dI_D hI
  have hp4 := hv.1
  have hc := fun x => dC_s (x := x) (by omega : (11 : Nat) ≠ 0) hC
  have hr := fun x => dR_s (x := x) hv hR
  have c4 := (dC_11 hC).1.2.2.2.2.1
  have g1 := (dR_0 hR).1.2.1
  by_cases h2 : ¬ a1 < 0 ∧ a1 ≤ 59
  · obtain ⟨w, hw, rfl⟩ := i_upto (n := 59) (by omega) h2
    by_cases h4 : D 0 4 < 7
    · have b4 : (sC s1 0).1 11 4 = Int32.ofNat (D 0 4) := by rw [sC_1 (by omega)]; exact c4
      have d1 : (sR s2 0).1 122 1 = Int32.ofNat (D 0 4) := by rw [sR_1 (by omega)]; exact g1
      have hne : ¬ D 0 4 = 7 := by omega
      generalize hn : D 0 4 = n at *
      have m1 : 21 + n < 1775 := by omega
      have m2 : 28 + n < 1775 := by omega
      have m3 : n < 35 := by omega
      refine ⟨Int32.ofNat n, fu_pi (fu_pi (fu_pi (fu_pl (sC s1 0) 15 n 0) 16 n (Int32.ofNat w)) 17 n 0) 11 4 (Int32.ofNat (n + 1)),
        fu_pi (fu_pi (fu_pi (fu_pl (sR s2 0) 124 n 0) 122 (21 + n) (Int32.ofNat w)) 122 (28 + n) 0) 122 1 (Int32.ofNat (n + 1)), ?_, ?_, dI_upd (D' := dperson D w) hI hQ ?_ ?_ ?_ (dV_person hv (by omega) hw) (dC_person (hc 0) ?_ ?_ ?_ ?_ ?_ ?_ ?_) (dR_person (hr 0) hv (by omega) ?_ ?_ ?_ ?_ ?_ ?_) ?_ ?_⟩
      · simp (disch := omega) only [ne_eq, i_lt0, i_le0, i_eq0, i_n1, i_ltl, i_lel, i_eql, i_lt, i_le, i_eq, i_in, i_tn, i_add, i_addl, i_addr, i_mul, i_mulr, i_mull, if_true, if_false, eq_self, decide_eq_true_eq, decide_true, decide_false, Option.bind_some, Option.bind_none, fu_lt, Bool.false_eq_true, Bool.true_eq_false, not_true_eq_false, not_false_eq_true, Nat.not_lt_zero, Nat.le_zero_eq, Nat.reduceAdd, Nat.reduceMul, Nat.reduceSub, Nat.reduceEqDiff, Nat.reduceLT, Nat.reduceLeDiff, sC_def, sR_def, sC_1, sC_2, sR_1, sR_2, sC_st, sR_st, sR_no, sR_refuse, and_self, true_and, and_true, false_and, and_false, f_X11_come, f_X4_people, f_X4_addPerson, c_isHome, h2, c4, b4, h4, p1, p1n, l1, i_add1, i_add1s]
      · simp (disch := omega) only [ne_eq, i_lt0, i_le0, i_eq0, i_n1, i_ltl, i_lel, i_eql, i_lt, i_le, i_eq, i_in, i_tn, i_add, i_addl, i_addr, i_mul, i_mulr, i_mull, if_true, if_false, eq_self, decide_eq_true_eq, decide_true, decide_false, Option.bind_some, Option.bind_none, fu_lt, Bool.false_eq_true, Bool.true_eq_false, not_true_eq_false, not_false_eq_true, Nat.not_lt_zero, Nat.le_zero_eq, Nat.reduceAdd, Nat.reduceMul, Nat.reduceSub, Nat.reduceEqDiff, Nat.reduceLT, Nat.reduceLeDiff, sC_def, sR_def, sC_1, sC_2, sR_1, sR_2, sC_st, sR_st, sR_no, sR_refuse, and_self, true_and, and_true, false_and, and_false, f_X12_come, r_isInl59, h2, d1, h4, hne, p1q, l1, i_add1, m1, m2, m3]
      · exact eqC2_pi' (by omega) (eqC2_pi' (by omega) (eqC2_pi' (by omega) (eqC2_pl' (by omega) (eqC2_of eqC_sC))))
      · exact eqR2_pi' (by omega) (eqR2_pi' (by omega) (eqR2_pi' (by omega) (eqR2_pl' (by omega) (eqR2_of eqR_sR))))
      · rw [p1n (by omega), p1n (by omega), p1n (by omega), l1, sC_st, p1n (by omega), p1n (by omega), p1n (by omega), l1, sR_st]
      · exact fun a ha => by rw [p1n (by omega), p1n (by omega), p1n (by omega), l1]
      · exact fun q hq => by rw [p1q hq, p1n (by omega), p1n (by omega), l1]
      · rw [hn]; exact p1
      · rw [hn]; exact fun q hq => ⟨l2q hq, by rw [p1n (by omega), p1n (by omega), p1q hq, l1], by rw [p1n (by omega), p1q hq, p1n (by omega), l1]⟩
      · rw [hn]; exact l2
      · rw [hn, p1n (by omega), p1n (by omega), p1]
      · rw [hn, p1n (by omega), p1]
      · rw [hn]; exact p1
      · rw [hn]; exact fun q x0 x1 x2 => by rw [p1q (by omega), p1q (by omega), p1q (by omega), l1]
      · rw [hn]; exact fun q hq => l2q hq
      · rw [hn]; exact l2
      · rw [hn, p1q (by omega), p1q (by omega), p1]
      · rw [hn, p1q (by omega), p1]
      · rw [dperson_04]; omega
      · rw [dperson_0 (by omega)]; exact Nat.le_refl _
    · have h47 : D 0 4 = 7 := by omega
      refine ⟨-1, sC s1 7, sR s2 7, ?_, ?_, dI_s hI⟩
      · simp (disch := omega) only [ne_eq, i_lt0, i_le0, i_eq0, i_n1, i_ltl, i_lel, i_eql, i_lt, i_le, i_eq, i_in, i_tn, i_add, i_addl, i_addr, i_mul, i_mulr, i_mull, if_true, if_false, eq_self, decide_eq_true_eq, decide_true, decide_false, Option.bind_some, Option.bind_none, fu_lt, Bool.false_eq_true, Bool.true_eq_false, not_true_eq_false, not_false_eq_true, Nat.not_lt_zero, Nat.le_zero_eq, Nat.reduceAdd, Nat.reduceMul, Nat.reduceSub, Nat.reduceEqDiff, Nat.reduceLT, Nat.reduceLeDiff, sC_def, sR_def, sC_1, sC_2, sR_1, sR_2, sC_st, sR_st, sR_no, sR_refuse, and_self, true_and, and_true, false_and, and_false, f_X11_come, f_X4_people, c_isHome, h2, c4, h4]
        try rfl
      · simp (disch := omega) only [ne_eq, i_lt0, i_le0, i_eq0, i_n1, i_ltl, i_lel, i_eql, i_lt, i_le, i_eq, i_in, i_tn, i_add, i_addl, i_addr, i_mul, i_mulr, i_mull, if_true, if_false, eq_self, decide_eq_true_eq, decide_true, decide_false, Option.bind_some, Option.bind_none, fu_lt, Bool.false_eq_true, Bool.true_eq_false, not_true_eq_false, not_false_eq_true, Nat.not_lt_zero, Nat.le_zero_eq, Nat.reduceAdd, Nat.reduceMul, Nat.reduceSub, Nat.reduceEqDiff, Nat.reduceLT, Nat.reduceLeDiff, sC_def, sR_def, sC_1, sC_2, sR_1, sR_2, sC_st, sR_st, sR_no, sR_refuse, and_self, true_and, and_true, false_and, and_false, f_X12_come, r_isInl59, h2, g1, h47]
  · refine ⟨-1, sC s1 5, sR s2 5, ?_, ?_, dI_s hI⟩
    · simp (disch := omega) only [ne_eq, i_lt0, i_le0, i_eq0, i_n1, i_ltl, i_lel, i_eql, i_lt, i_le, i_eq, i_in, i_tn, i_add, i_addl, i_addr, i_mul, i_mulr, i_mull, if_true, if_false, eq_self, decide_eq_true_eq, decide_true, decide_false, Option.bind_some, Option.bind_none, fu_lt, Bool.false_eq_true, Bool.true_eq_false, not_true_eq_false, not_false_eq_true, Nat.not_lt_zero, Nat.le_zero_eq, Nat.reduceAdd, Nat.reduceMul, Nat.reduceSub, Nat.reduceEqDiff, Nat.reduceLT, Nat.reduceLeDiff, sC_def, sR_def, sC_1, sC_2, sR_1, sR_2, sC_st, sR_st, sR_no, sR_refuse, and_self, true_and, and_true, false_and, and_false, f_X11_come, c_isHome, h2]
      try rfl
    · simp (disch := omega) only [ne_eq, i_lt0, i_le0, i_eq0, i_n1, i_ltl, i_lel, i_eql, i_lt, i_le, i_eq, i_in, i_tn, i_add, i_addl, i_addr, i_mul, i_mulr, i_mull, if_true, if_false, eq_self, decide_eq_true_eq, decide_true, decide_false, Option.bind_some, Option.bind_none, fu_lt, Bool.false_eq_true, Bool.true_eq_false, not_true_eq_false, not_false_eq_true, Nat.not_lt_zero, Nat.le_zero_eq, Nat.reduceAdd, Nat.reduceMul, Nat.reduceSub, Nat.reduceEqDiff, Nat.reduceLT, Nat.reduceLeDiff, sC_def, sR_def, sC_1, sC_2, sR_1, sR_2, sC_st, sR_st, sR_no, sR_refuse, and_self, true_and, and_true, false_and, and_false, f_X12_come, r_isInl59, h2]
