/-! many, person, thing -/
section T2
variable {s : fu_S} {P : Nat} {D : dD} {t p q o k : Nat}
theorem c_homeOf (h : dC s P D) (hv : dV D) (hp : p < D 0 4) : f_X4_homeOf s P (Int32.ofNat p) = some (Int32.ofNat (D 5 p)) := by
  have hp4 := hv.1
  have h7 : p < 7 := by omega
  simp (disch := omega) only [ne_eq, i_lt0, i_le0, i_eq0, i_n1, i_ltl, i_lel, i_eql, i_lt, i_le, i_eq, i_in, i_tn, i_add, i_addl, i_addr, i_mul, i_mulr, i_mull, if_true, if_false, eq_self, decide_eq_true_eq, decide_true, decide_false, Option.bind_some, Option.bind_none, fu_lt, Bool.false_eq_true, Bool.true_eq_false, not_true_eq_false, not_false_eq_true, Nat.not_lt_zero, Nat.le_zero_eq, Nat.reduceAdd, Nat.reduceMul, Nat.reduceSub, Nat.reduceEqDiff, Nat.reduceLT, Nat.reduceLeDiff, sC_def, sR_def, sC_1, sC_2, sR_1, sR_2, sC_st, sR_st, sR_no, sR_refuse, and_self, true_and, and_true, false_and, and_false, f_X4_homeOf, c_hasPerson h, hp, h7, (h.2.2.1 p hp).2.1]
theorem c_reachOf (h : dC s P D) (hv : dV D) (hp : p < D 0 4) : f_X4_reachOf s P (Int32.ofNat p) = some (Int32.ofNat (D 6 p)) := by
  have hp4 := hv.1
  have h7 : p < 7 := by omega
  simp (disch := omega) only [ne_eq, i_lt0, i_le0, i_eq0, i_n1, i_ltl, i_lel, i_eql, i_lt, i_le, i_eq, i_in, i_tn, i_add, i_addl, i_addr, i_mul, i_mulr, i_mull, if_true, if_false, eq_self, decide_eq_true_eq, decide_true, decide_false, Option.bind_some, Option.bind_none, fu_lt, Bool.false_eq_true, Bool.true_eq_false, not_true_eq_false, not_false_eq_true, Nat.not_lt_zero, Nat.le_zero_eq, Nat.reduceAdd, Nat.reduceMul, Nat.reduceSub, Nat.reduceEqDiff, Nat.reduceLT, Nat.reduceLeDiff, sC_def, sR_def, sC_1, sC_2, sR_1, sR_2, sC_st, sR_st, sR_no, sR_refuse, and_self, true_and, and_true, false_and, and_false, f_X4_reachOf, c_hasPerson h, hp, h7, (h.2.2.1 p hp).2.2]
theorem c_ownerOf (h : dC s P D) (hv : dV D) (ht : t < D 0 5) : f_X4_ownerOf s P (Int32.ofNat t) = some (Int32.ofNat (D 7 t)) := by
  have hp4 := hv.1
  have h8 : t < 8 := by omega
  simp (disch := omega) only [ne_eq, i_lt0, i_le0, i_eq0, i_n1, i_ltl, i_lel, i_eql, i_lt, i_le, i_eq, i_in, i_tn, i_add, i_addl, i_addr, i_mul, i_mulr, i_mull, if_true, if_false, eq_self, decide_eq_true_eq, decide_true, decide_false, Option.bind_some, Option.bind_none, fu_lt, Bool.false_eq_true, Bool.true_eq_false, not_true_eq_false, not_false_eq_true, Nat.not_lt_zero, Nat.le_zero_eq, Nat.reduceAdd, Nat.reduceMul, Nat.reduceSub, Nat.reduceEqDiff, Nat.reduceLT, Nat.reduceLeDiff, sC_def, sR_def, sC_1, sC_2, sR_1, sR_2, sC_st, sR_st, sR_no, sR_refuse, and_self, true_and, and_true, false_and, and_false, f_X4_ownerOf, c_hasThing h, ht, h8, (h.2.2.2 t ht).1]
theorem c_kindOf (h : dC s P D) (hv : dV D) (ht : t < D 0 5) : f_X4_kindOf s P (Int32.ofNat t) = some (Int32.ofNat (D 8 t)) := by
  have hp4 := hv.1
  have h8 : t < 8 := by omega
  simp (disch := omega) only [ne_eq, i_lt0, i_le0, i_eq0, i_n1, i_ltl, i_lel, i_eql, i_lt, i_le, i_eq, i_in, i_tn, i_add, i_addl, i_addr, i_mul, i_mulr, i_mull, if_true, if_false, eq_self, decide_eq_true_eq, decide_true, decide_false, Option.bind_some, Option.bind_none, fu_lt, Bool.false_eq_true, Bool.true_eq_false, not_true_eq_false, not_false_eq_true, Nat.not_lt_zero, Nat.le_zero_eq, Nat.reduceAdd, Nat.reduceMul, Nat.reduceSub, Nat.reduceEqDiff, Nat.reduceLT, Nat.reduceLeDiff, sC_def, sR_def, sC_1, sC_2, sR_1, sR_2, sC_st, sR_st, sR_no, sR_refuse, and_self, true_and, and_true, false_and, and_false, f_X4_kindOf, c_hasThing h, ht, h8, (h.2.2.2 t ht).2.1]
theorem c_worthOf (h : dC s P D) (hv : dV D) (ht : t < D 0 5) : f_X4_worthOf s P (Int32.ofNat t) = some (Int32.ofNat (D 9 t)) := by
  have hp4 := hv.1
  have h8 : t < 8 := by omega
  simp (disch := omega) only [ne_eq, i_lt0, i_le0, i_eq0, i_n1, i_ltl, i_lel, i_eql, i_lt, i_le, i_eq, i_in, i_tn, i_add, i_addl, i_addr, i_mul, i_mulr, i_mull, if_true, if_false, eq_self, decide_eq_true_eq, decide_true, decide_false, Option.bind_some, Option.bind_none, fu_lt, Bool.false_eq_true, Bool.true_eq_false, not_true_eq_false, not_false_eq_true, Nat.not_lt_zero, Nat.le_zero_eq, Nat.reduceAdd, Nat.reduceMul, Nat.reduceSub, Nat.reduceEqDiff, Nat.reduceLT, Nat.reduceLeDiff, sC_def, sR_def, sC_1, sC_2, sR_1, sR_2, sC_st, sR_st, sR_no, sR_refuse, and_self, true_and, and_true, false_and, and_false, f_X4_worthOf, c_hasThing h, ht, h8, (h.2.2.2 t ht).2.2.1]
theorem c_lostAtOf (h : dC s P D) (hv : dV D) (ht : t < D 0 5) : f_X4_lostAtOf s P (Int32.ofNat t) = some (Int32.ofNat (D 10 t)) := by
  have hp4 := hv.1
  have h8 : t < 8 := by omega
  simp (disch := omega) only [ne_eq, i_lt0, i_le0, i_eq0, i_n1, i_ltl, i_lel, i_eql, i_lt, i_le, i_eq, i_in, i_tn, i_add, i_addl, i_addr, i_mul, i_mulr, i_mull, if_true, if_false, eq_self, decide_eq_true_eq, decide_true, decide_false, Option.bind_some, Option.bind_none, fu_lt, Bool.false_eq_true, Bool.true_eq_false, not_true_eq_false, not_false_eq_true, Nat.not_lt_zero, Nat.le_zero_eq, Nat.reduceAdd, Nat.reduceMul, Nat.reduceSub, Nat.reduceEqDiff, Nat.reduceLT, Nat.reduceLeDiff, sC_def, sR_def, sC_1, sC_2, sR_1, sR_2, sC_st, sR_st, sR_no, sR_refuse, and_self, true_and, and_true, false_and, and_false, f_X4_lostAtOf, c_hasThing h, ht, h8, (h.2.2.2 t ht).2.2.2.1]
theorem c_scrAt (h : dC s P D) (hv : dV D) (ht : t < D 0 5) (h0 : D 11 t ≠ 0) : f_X4_scratchedAtOf s P (Int32.ofNat t) = some (Int32.ofNat (D 11 t - 1)) := by
  have hp4 := hv.1
  have h8 : t < 8 := by omega
  have e := (h.2.2.2 t ht).2.2.2.2.1
  rw [if_neg h0] at e
  simp (disch := omega) only [ne_eq, i_lt0, i_le0, i_eq0, i_n1, i_ltl, i_lel, i_eql, i_lt, i_le, i_eq, i_in, i_tn, i_add, i_addl, i_addr, i_mul, i_mulr, i_mull, if_true, if_false, eq_self, decide_eq_true_eq, decide_true, decide_false, Option.bind_some, Option.bind_none, fu_lt, Bool.false_eq_true, Bool.true_eq_false, not_true_eq_false, not_false_eq_true, Nat.not_lt_zero, Nat.le_zero_eq, Nat.reduceAdd, Nat.reduceMul, Nat.reduceSub, Nat.reduceEqDiff, Nat.reduceLT, Nat.reduceLeDiff, sC_def, sR_def, sC_1, sC_2, sR_1, sR_2, sC_st, sR_st, sR_no, sR_refuse, and_self, true_and, and_true, false_and, and_false, f_X4_scratchedAtOf, c_hasThing h, ht, h8, e]
theorem c_fndAt (h : dC s P D) (hv : dV D) (ht : t < D 0 5) (h0 : D 11 t ≠ 0) : f_X4_foundAtOf s P (Int32.ofNat t) = some (Int32.ofNat (D 12 t)) := by
  have hp4 := hv.1
  have h8 : t < 8 := by omega
  have e := (h.2.2.2 t ht).2.2.2.2.2 h0
  simp (disch := omega) only [ne_eq, i_lt0, i_le0, i_eq0, i_n1, i_ltl, i_lel, i_eql, i_lt, i_le, i_eq, i_in, i_tn, i_add, i_addl, i_addr, i_mul, i_mulr, i_mull, if_true, if_false, eq_self, decide_eq_true_eq, decide_true, decide_false, Option.bind_some, Option.bind_none, fu_lt, Bool.false_eq_true, Bool.true_eq_false, not_true_eq_false, not_false_eq_true, Nat.not_lt_zero, Nat.le_zero_eq, Nat.reduceAdd, Nat.reduceMul, Nat.reduceSub, Nat.reduceEqDiff, Nat.reduceLT, Nat.reduceLeDiff, sC_def, sR_def, sC_1, sC_2, sR_1, sR_2, sC_st, sR_st, sR_no, sR_refuse, and_self, true_and, and_true, false_and, and_false, f_X4_foundAtOf, c_hasThing h, ht, h8, e]
end T2
theorem hd_11 : lw_E_11 dI := by
  intro s1 s2 hI a1
  obtain ⟨D, hv, hC, hR, -⟩ := dI_D hI
  have hp4 := hv.1
  have hc := fun x => dC_s (x := x) (by omega : (11 : Nat) ≠ 0) hC
  have hr := fun x => dR_s (x := x) hv hR
  obtain ⟨c0, c1, c2, c3, c4, c5⟩ := (dC_11 hC).1
  obtain ⟨r0, r1, r2, r3, r4, r5⟩ := (dR_0 hR).1
  by_cases h1 : ¬ a1 < 0 ∧ a1 ≤ 8
  · obtain ⟨w, hw, rfl⟩ := i_upto (n := 8) (by omega) h1
    have u6 := fun x => c_upSet (hc x) hv
    have u7 := fun x => c_scrSet (hc x) hv
    have u8 := fun x => c_fndSet (hc x) hv
    have g6 : ∀ x, f_X12_things (sR s2 x) (Int32.ofNat 0) = _ := fun x => r_things0 (hr x) hv
    have g7 : ∀ x, f_X12_things (sR s2 x) (Int32.ofNat 1) = _ := fun x => r_things1 (hr x) hv
    have g8 : ∀ x, f_X12_things (sR s2 x) (Int32.ofNat 2) = _ := fun x => r_things2 (hr x) hv
    have hw' : w = 0 ∨ w = 1 ∨ w = 2 ∨ w = 3 ∨ w = 4 ∨ w = 5 ∨ w = 6 ∨ w = 7 ∨ w = 8 := by omega
    refine ⟨Int32.ofNat (if w = 0 then D 0 3 else if w = 1 then D 0 4 else if w = 2 then D 0 5 else if w = 3 then D 0 0 else if w = 4 then D 0 1 else if w = 5 then D 0 2 else if w = 6 then d_set (fun t => d_isUp D t) (D 0 5) else if w = 7 then d_set (fun t => decide (D 11 t ≠ 0)) (D 0 5) else d_set (fun t => d_isF D t) (D 0 5)), sC s1 0, sR s2 0, ?_, ?_, dI_s hI⟩
    · rcases hw' with rfl | rfl | rfl | rfl | rfl | rfl | rfl | rfl | rfl
      all_goals simp (disch := omega) only [ne_eq, i_lt0, i_le0, i_eq0, i_n1, i_ltl, i_lel, i_eql, i_lt, i_le, i_eq, i_in, i_tn, i_add, i_addl, i_addr, i_mul, i_mulr, i_mull, if_true, if_false, eq_self, decide_eq_true_eq, decide_true, decide_false, Option.bind_some, Option.bind_none, fu_lt, Bool.false_eq_true, Bool.true_eq_false, not_true_eq_false, not_false_eq_true, Nat.not_lt_zero, Nat.le_zero_eq, Nat.reduceAdd, Nat.reduceMul, Nat.reduceSub, Nat.reduceEqDiff, Nat.reduceLT, Nat.reduceLeDiff, sC_def, sR_def, sC_1, sC_2, sR_1, sR_2, sC_st, sR_st, sR_no, sR_refuse, and_self, true_and, and_true, false_and, and_false, f_X11_many, f_X4_kinds, f_X4_people, f_X4_things, f_X4_odds, f_X4_arm, f_X4_minute, c0, c1, c2, c3, c4, c5, u6, u7, u8]
    · rcases hw' with rfl | rfl | rfl | rfl | rfl | rfl | rfl | rfl | rfl
      all_goals simp (disch := omega) only [ne_eq, i_lt0, i_le0, i_eq0, i_n1, i_ltl, i_lel, i_eql, i_lt, i_le, i_eq, i_in, i_tn, i_add, i_addl, i_addr, i_mul, i_mulr, i_mull, if_true, if_false, eq_self, decide_eq_true_eq, decide_true, decide_false, Option.bind_some, Option.bind_none, fu_lt, Bool.false_eq_true, Bool.true_eq_false, not_true_eq_false, not_false_eq_true, Nat.not_lt_zero, Nat.le_zero_eq, Nat.reduceAdd, Nat.reduceMul, Nat.reduceSub, Nat.reduceEqDiff, Nat.reduceLT, Nat.reduceLeDiff, sC_def, sR_def, sC_1, sC_2, sR_1, sR_2, sC_st, sR_st, sR_no, sR_refuse, and_self, true_and, and_true, false_and, and_false, f_X12_many, r_isInl8, i_subl, r0, r1, r2, r3, r4, r5, g6, g7, g8]
  · have hn : ∀ k : Nat, k ≤ 8 → ¬ a1 = Int32.ofNat k := fun k hk z => h1 (by
      subst z
      exact ⟨i_neg (by omega), (i_le (b := 8) (by omega) (by omega)).mpr hk⟩)
    have n0 : ¬ a1 = 0 := hn 0 (by omega)
    have n1 : ¬ a1 = 1 := hn 1 (by omega)
    have n2 : ¬ a1 = 2 := hn 2 (by omega)
    have n3 : ¬ a1 = 3 := hn 3 (by omega)
    have n4 : ¬ a1 = 4 := hn 4 (by omega)
    have n5 : ¬ a1 = 5 := hn 5 (by omega)
    have n6 : ¬ a1 = 6 := hn 6 (by omega)
    have n7 : ¬ a1 = 7 := hn 7 (by omega)
    have n8 : ¬ a1 = 8 := hn 8 (by omega)
    refine ⟨-1, sC s1 5, sR s2 5, ?_, ?_, dI_s hI⟩
    · simp (disch := omega) only [ne_eq, i_lt0, i_le0, i_eq0, i_n1, i_ltl, i_lel, i_eql, i_lt, i_le, i_eq, i_in, i_tn, i_add, i_addl, i_addr, i_mul, i_mulr, i_mull, if_true, if_false, eq_self, decide_eq_true_eq, decide_true, decide_false, Option.bind_some, Option.bind_none, fu_lt, Bool.false_eq_true, Bool.true_eq_false, not_true_eq_false, not_false_eq_true, Nat.not_lt_zero, Nat.le_zero_eq, Nat.reduceAdd, Nat.reduceMul, Nat.reduceSub, Nat.reduceEqDiff, Nat.reduceLT, Nat.reduceLeDiff, sC_def, sR_def, sC_1, sC_2, sR_1, sR_2, sC_st, sR_st, sR_no, sR_refuse, and_self, true_and, and_true, false_and, and_false, f_X11_many, if_upto, h1, ite_self, n0, n1, n2, n3, n4, n5, n6, n7, n8]
    · simp (disch := omega) only [ne_eq, i_lt0, i_le0, i_eq0, i_n1, i_ltl, i_lel, i_eql, i_lt, i_le, i_eq, i_in, i_tn, i_add, i_addl, i_addr, i_mul, i_mulr, i_mull, if_true, if_false, eq_self, decide_eq_true_eq, decide_true, decide_false, Option.bind_some, Option.bind_none, fu_lt, Bool.false_eq_true, Bool.true_eq_false, not_true_eq_false, not_false_eq_true, Nat.not_lt_zero, Nat.le_zero_eq, Nat.reduceAdd, Nat.reduceMul, Nat.reduceSub, Nat.reduceEqDiff, Nat.reduceLT, Nat.reduceLeDiff, sC_def, sR_def, sC_1, sC_2, sR_1, sR_2, sC_st, sR_st, sR_no, sR_refuse, and_self, true_and, and_true, false_and, and_false, f_X12_many, r_isInl8, h1]
theorem hd_13 : lw_E_13 dI := by
  intro s1 s2 hI a1 a2
  obtain ⟨D, hv, hC, hR, -⟩ := dI_D hI
  have hp4 := hv.1
  have hc := fun x => dC_s (x := x) (by omega : (11 : Nat) ≠ 0) hC
  have hr := fun x => dR_s (x := x) hv hR
  have ep := fun x y => r_isPerson (x := y) (hr x) hv
  by_cases h1 : ¬ a1 < 0 ∧ a1 < Int32.ofNat (D 0 4)
  · obtain ⟨p, hp, rfl⟩ := i_is (by omega) h1
    have hb := dV_p hv hp
    by_cases h2 : ¬ a2 < 0 ∧ a2 ≤ 3
    · obtain ⟨w, hw, rfl⟩ := i_upto (n := 3) (by omega) h2
      have e0 := fun x => c_homeOf (hc x) hv hp
      have e1 := fun x => c_reachOf (hc x) hv hp
      have e2 := fun x => c_upOn (hc x) hv hp
      have e3 := fun x => c_ownSet (hc x) hv hp
      obtain ⟨-, g1, g2⟩ := (dR_0 hR).2.2.1 p hp
      have f2 := fun x => r_thingsOfT (hr x) hv hp
      have f3 := fun x => r_thingsOfF (hr x) hv hp
      have m1 : 21 + p < 1775 := by omega
      have m2 : 28 + p < 1775 := by omega
      have hw' : w = 0 ∨ w = 1 ∨ w = 2 ∨ w = 3 := by omega
      refine ⟨Int32.ofNat (if w = 0 then D 5 p else if w = 1 then D 6 p else if w = 2 then d_set (fun t => decide (d_b D t = p) && d_isUp D t) (D 0 5) else d_set (fun t => decide (D 7 t = p)) (D 0 5)), sC s1 0, sR s2 0, ?_, ?_, dI_s hI⟩
      · rcases hw' with rfl | rfl | rfl | rfl
        all_goals simp (disch := omega) only [ne_eq, i_lt0, i_le0, i_eq0, i_n1, i_ltl, i_lel, i_eql, i_lt, i_le, i_eq, i_in, i_tn, i_add, i_addl, i_addr, i_mul, i_mulr, i_mull, if_true, if_false, eq_self, decide_eq_true_eq, decide_true, decide_false, Option.bind_some, Option.bind_none, fu_lt, Bool.false_eq_true, Bool.true_eq_false, not_true_eq_false, not_false_eq_true, Nat.not_lt_zero, Nat.le_zero_eq, Nat.reduceAdd, Nat.reduceMul, Nat.reduceSub, Nat.reduceEqDiff, Nat.reduceLT, Nat.reduceLeDiff, sC_def, sR_def, sC_1, sC_2, sR_1, sR_2, sC_st, sR_st, sR_no, sR_refuse, and_self, true_and, and_true, false_and, and_false, f_X11_person, c_hasPerson hC, hp, e0, e1, e2, e3]
      · rcases hw' with rfl | rfl | rfl | rfl
        all_goals simp (disch := omega) only [ne_eq, i_lt0, i_le0, i_eq0, i_n1, i_ltl, i_lel, i_eql, i_lt, i_le, i_eq, i_in, i_tn, i_add, i_addl, i_addr, i_mul, i_mulr, i_mull, if_true, if_false, eq_self, decide_eq_true_eq, decide_true, decide_false, Option.bind_some, Option.bind_none, fu_lt, Bool.false_eq_true, Bool.true_eq_false, not_true_eq_false, not_false_eq_true, Nat.not_lt_zero, Nat.le_zero_eq, Nat.reduceAdd, Nat.reduceMul, Nat.reduceSub, Nat.reduceEqDiff, Nat.reduceLT, Nat.reduceLeDiff, sC_def, sR_def, sC_1, sC_2, sR_1, sR_2, sC_st, sR_st, sR_no, sR_refuse, and_self, true_and, and_true, false_and, and_false, f_X12_person, ep, hp, r_isInl3, g1, g2, m1, m2, f2, f3]
    · refine ⟨-1, sC s1 5, sR s2 5, ?_, ?_, dI_s hI⟩
      · simp (disch := omega) only [ne_eq, i_lt0, i_le0, i_eq0, i_n1, i_ltl, i_lel, i_eql, i_lt, i_le, i_eq, i_in, i_tn, i_add, i_addl, i_addr, i_mul, i_mulr, i_mull, if_true, if_false, eq_self, decide_eq_true_eq, decide_true, decide_false, Option.bind_some, Option.bind_none, fu_lt, Bool.false_eq_true, Bool.true_eq_false, not_true_eq_false, not_false_eq_true, Nat.not_lt_zero, Nat.le_zero_eq, Nat.reduceAdd, Nat.reduceMul, Nat.reduceSub, Nat.reduceEqDiff, Nat.reduceLT, Nat.reduceLeDiff, sC_def, sR_def, sC_1, sC_2, sR_1, sR_2, sC_st, sR_st, sR_no, sR_refuse, and_self, true_and, and_true, false_and, and_false, f_X11_person, c_hasPerson hC, hp, if_upto, h2, ite_self]
        try rfl
      · simp (disch := omega) only [ne_eq, i_lt0, i_le0, i_eq0, i_n1, i_ltl, i_lel, i_eql, i_lt, i_le, i_eq, i_in, i_tn, i_add, i_addl, i_addr, i_mul, i_mulr, i_mull, if_true, if_false, eq_self, decide_eq_true_eq, decide_true, decide_false, Option.bind_some, Option.bind_none, fu_lt, Bool.false_eq_true, Bool.true_eq_false, not_true_eq_false, not_false_eq_true, Nat.not_lt_zero, Nat.le_zero_eq, Nat.reduceAdd, Nat.reduceMul, Nat.reduceSub, Nat.reduceEqDiff, Nat.reduceLT, Nat.reduceLeDiff, sC_def, sR_def, sC_1, sC_2, sR_1, sR_2, sC_st, sR_st, sR_no, sR_refuse, and_self, true_and, and_true, false_and, and_false, f_X12_person, ep, hp, r_isInl3, h2]
  · refine ⟨-1, sC s1 2, sR s2 2, ?_, ?_, dI_s hI⟩
    · simp (disch := omega) only [ne_eq, i_lt0, i_le0, i_eq0, i_n1, i_ltl, i_lel, i_eql, i_lt, i_le, i_eq, i_in, i_tn, i_add, i_addl, i_addr, i_mul, i_mulr, i_mull, if_true, if_false, eq_self, decide_eq_true_eq, decide_true, decide_false, Option.bind_some, Option.bind_none, fu_lt, Bool.false_eq_true, Bool.true_eq_false, not_true_eq_false, not_false_eq_true, Nat.not_lt_zero, Nat.le_zero_eq, Nat.reduceAdd, Nat.reduceMul, Nat.reduceSub, Nat.reduceEqDiff, Nat.reduceLT, Nat.reduceLeDiff, sC_def, sR_def, sC_1, sC_2, sR_1, sR_2, sC_st, sR_st, sR_no, sR_refuse, and_self, true_and, and_true, false_and, and_false, f_X11_person, c_hasPerson hC, h1]
      try rfl
    · simp (disch := omega) only [ne_eq, i_lt0, i_le0, i_eq0, i_n1, i_ltl, i_lel, i_eql, i_lt, i_le, i_eq, i_in, i_tn, i_add, i_addl, i_addr, i_mul, i_mulr, i_mull, if_true, if_false, eq_self, decide_eq_true_eq, decide_true, decide_false, Option.bind_some, Option.bind_none, fu_lt, Bool.false_eq_true, Bool.true_eq_false, not_true_eq_false, not_false_eq_true, Nat.not_lt_zero, Nat.le_zero_eq, Nat.reduceAdd, Nat.reduceMul, Nat.reduceSub, Nat.reduceEqDiff, Nat.reduceLT, Nat.reduceLeDiff, sC_def, sR_def, sC_1, sC_2, sR_1, sR_2, sC_st, sR_st, sR_no, sR_refuse, and_self, true_and, and_true, false_and, and_false, f_X12_person, ep, h1]
theorem hd_14 : lw_E_14 dI := by
  intro s1 s2 hI a1 a2
  obtain ⟨D, hv, hC, hR, -⟩ := dI_D hI
  have hp4 := hv.1
  have hc := fun x => dC_s (x := x) (by omega : (11 : Nat) ≠ 0) hC
  have hr := fun x => dR_s (x := x) hv hR
  have ep := fun x y => r_isThing (x := y) (hr x) hv
  by_cases h1 : ¬ a1 < 0 ∧ a1 < Int32.ofNat (D 0 5)
  · obtain ⟨t, ht, rfl⟩ := i_is (by omega) h1
    have hb := dV_t hv ht
    by_cases h2 : ¬ a2 < 0 ∧ a2 ≤ 9
    · obtain ⟨w, hw, rfl⟩ := i_upto (n := 9) (by omega) h2
      have e0 := fun x => c_ownerOf (hc x) hv ht
      have e1 := fun x => c_kindOf (hc x) hv ht
      have e2 := fun x => c_worthOf (hc x) hv ht
      have e3 := fun x => c_lostAtOf (hc x) hv ht
      have e4 := fun x => c_bearerOf (hc x) hv ht
      have e5 := fun x => c_spotOf (hc x) hv ht
      have e6 := fun x => c_upAtOf (hc x) hv ht
      have e9 := fun x => c_ableSet (hc x) hv ht
      have es := c_isScratched hC hv ht
      obtain ⟨g0, g1, g2, g3, g7, g8⟩ := (dR_0 hR).2.2.2 t ht
      have f4 := fun x => r_bearerOf (hr x) hv ht
      have f5 := fun x => r_spotOf (hr x) hv ht
      have f6 := fun x => r_comesUp (hr x) hv ht
      have f9 := fun x => r_who (hr x) hv ht
      have fs := fun x => r_isScratched (hr x) hv ht
      have m0 : 35 + t < 1775 := by omega
      have m1 : 43 + t < 1775 := by omega
      have m2 : 51 + t < 1775 := by omega
      have m3 : 59 + t < 1775 := by omega
      have m7 : 67 + t < 1775 := by omega
      have m8 : 75 + t < 1775 := by omega
      have hw' : w = 0 ∨ w = 1 ∨ w = 2 ∨ w = 3 ∨ w = 4 ∨ w = 5 ∨ w = 6 ∨ w = 9 ∨ w = 7 ∨ w = 8 := by omega
      by_cases h78 : w = 7 ∨ w = 8
      · by_cases h0 : D 11 t = 0
        · refine ⟨-1, sC s1 8, sR s2 8, ?_, ?_, dI_s hI⟩
          · rcases h78 with rfl | rfl
            all_goals
              simp (disch := omega) only [ne_eq, i_lt0, i_le0, i_eq0, i_n1, i_ltl, i_lel, i_eql, i_lt, i_le, i_eq, i_in, i_tn, i_add, i_addl, i_addr, i_mul, i_mulr, i_mull, if_true, if_false, eq_self, decide_eq_true_eq, decide_true, decide_false, Option.bind_some, Option.bind_none, fu_lt, Bool.false_eq_true, Bool.true_eq_false, not_true_eq_false, not_false_eq_true, Nat.not_lt_zero, Nat.le_zero_eq, Nat.reduceAdd, Nat.reduceMul, Nat.reduceSub, Nat.reduceEqDiff, Nat.reduceLT, Nat.reduceLeDiff, sC_def, sR_def, sC_1, sC_2, sR_1, sR_2, sC_st, sR_st, sR_no, sR_refuse, and_self, true_and, and_true, false_and, and_false, f_X11_thing, c_hasThing hC, ht, es, h0]
              try rfl
          · rcases h78 with rfl | rfl
            all_goals simp (disch := omega) only [ne_eq, i_lt0, i_le0, i_eq0, i_n1, i_ltl, i_lel, i_eql, i_lt, i_le, i_eq, i_in, i_tn, i_add, i_addl, i_addr, i_mul, i_mulr, i_mull, if_true, if_false, eq_self, decide_eq_true_eq, decide_true, decide_false, Option.bind_some, Option.bind_none, fu_lt, Bool.false_eq_true, Bool.true_eq_false, not_true_eq_false, not_false_eq_true, Nat.not_lt_zero, Nat.le_zero_eq, Nat.reduceAdd, Nat.reduceMul, Nat.reduceSub, Nat.reduceEqDiff, Nat.reduceLT, Nat.reduceLeDiff, sC_def, sR_def, sC_1, sC_2, sR_1, sR_2, sC_st, sR_st, sR_no, sR_refuse, and_self, true_and, and_true, false_and, and_false, f_X12_thing, ep, ht, r_isInl9, fs, h0]
        · have e7 := fun x => c_scrAt (hc x) hv ht h0
          have e8 := fun x => c_fndAt (hc x) hv ht h0
          have g8' := g8 h0
          refine ⟨Int32.ofNat (if w = 7 then D 11 t - 1 else D 12 t), sC s1 0, sR s2 0, ?_, ?_, dI_s hI⟩
          · rcases h78 with rfl | rfl
            all_goals simp (disch := omega) only [ne_eq, i_lt0, i_le0, i_eq0, i_n1, i_ltl, i_lel, i_eql, i_lt, i_le, i_eq, i_in, i_tn, i_add, i_addl, i_addr, i_mul, i_mulr, i_mull, if_true, if_false, eq_self, decide_eq_true_eq, decide_true, decide_false, Option.bind_some, Option.bind_none, fu_lt, Bool.false_eq_true, Bool.true_eq_false, not_true_eq_false, not_false_eq_true, Nat.not_lt_zero, Nat.le_zero_eq, Nat.reduceAdd, Nat.reduceMul, Nat.reduceSub, Nat.reduceEqDiff, Nat.reduceLT, Nat.reduceLeDiff, sC_def, sR_def, sC_1, sC_2, sR_1, sR_2, sC_st, sR_st, sR_no, sR_refuse, and_self, true_and, and_true, false_and, and_false, f_X11_thing, c_hasThing hC, ht, es, h0, e7, e8]
          · rcases h78 with rfl | rfl
            all_goals simp (disch := omega) only [ne_eq, i_lt0, i_le0, i_eq0, i_n1, i_ltl, i_lel, i_eql, i_lt, i_le, i_eq, i_in, i_tn, i_add, i_addl, i_addr, i_mul, i_mulr, i_mull, if_true, if_false, eq_self, decide_eq_true_eq, decide_true, decide_false, Option.bind_some, Option.bind_none, fu_lt, Bool.false_eq_true, Bool.true_eq_false, not_true_eq_false, not_false_eq_true, Nat.not_lt_zero, Nat.le_zero_eq, Nat.reduceAdd, Nat.reduceMul, Nat.reduceSub, Nat.reduceEqDiff, Nat.reduceLT, Nat.reduceLeDiff, sC_def, sR_def, sC_1, sC_2, sR_1, sR_2, sC_st, sR_st, sR_no, sR_refuse, and_self, true_and, and_true, false_and, and_false, f_X12_thing, ep, ht, r_isInl9, fs, h0, m7, m8, g7, g8', i_subl]
      · have hw' : w = 0 ∨ w = 1 ∨ w = 2 ∨ w = 3 ∨ w = 4 ∨ w = 5 ∨ w = 6 ∨ w = 9 := by omega
        refine ⟨Int32.ofNat (if w = 0 then D 7 t else if w = 1 then D 8 t else if w = 2 then D 9 t else if w = 3 then D 10 t else if w = 4 then d_b D t else if w = 5 then d_sp D t else if w = 6 then d_up D t else d_set (fun p => d_able D p t) (D 0 4)), sC s1 0, sR s2 0, ?_, ?_, dI_s hI⟩
        · rcases hw' with rfl | rfl | rfl | rfl | rfl | rfl | rfl | rfl
          all_goals simp (disch := omega) only [ne_eq, i_lt0, i_le0, i_eq0, i_n1, i_ltl, i_lel, i_eql, i_lt, i_le, i_eq, i_in, i_tn, i_add, i_addl, i_addr, i_mul, i_mulr, i_mull, if_true, if_false, eq_self, decide_eq_true_eq, decide_true, decide_false, Option.bind_some, Option.bind_none, fu_lt, Bool.false_eq_true, Bool.true_eq_false, not_true_eq_false, not_false_eq_true, Nat.not_lt_zero, Nat.le_zero_eq, Nat.reduceAdd, Nat.reduceMul, Nat.reduceSub, Nat.reduceEqDiff, Nat.reduceLT, Nat.reduceLeDiff, sC_def, sR_def, sC_1, sC_2, sR_1, sR_2, sC_st, sR_st, sR_no, sR_refuse, and_self, true_and, and_true, false_and, and_false, f_X11_thing, c_hasThing hC, ht, e0, e1, e2, e3, e4, e5, e6, e9]
        · rcases hw' with rfl | rfl | rfl | rfl | rfl | rfl | rfl | rfl
          all_goals simp (disch := omega) only [ne_eq, i_lt0, i_le0, i_eq0, i_n1, i_ltl, i_lel, i_eql, i_lt, i_le, i_eq, i_in, i_tn, i_add, i_addl, i_addr, i_mul, i_mulr, i_mull, if_true, if_false, eq_self, decide_eq_true_eq, decide_true, decide_false, Option.bind_some, Option.bind_none, fu_lt, Bool.false_eq_true, Bool.true_eq_false, not_true_eq_false, not_false_eq_true, Nat.not_lt_zero, Nat.le_zero_eq, Nat.reduceAdd, Nat.reduceMul, Nat.reduceSub, Nat.reduceEqDiff, Nat.reduceLT, Nat.reduceLeDiff, sC_def, sR_def, sC_1, sC_2, sR_1, sR_2, sC_st, sR_st, sR_no, sR_refuse, and_self, true_and, and_true, false_and, and_false, f_X12_thing, ep, ht, r_isInl9, m0, m1, m2, m3, g0, g1, g2, g3, f4, f5, f6, f9]
    · refine ⟨-1, sC s1 5, sR s2 5, ?_, ?_, dI_s hI⟩
      · have h2' : ∀ (A : Option Int32), (if a2 < 0 then some (5 : Int32) else if a2 ≤ 9 then A else some 5) = some 5 := fun A => by
          by_cases z1 : a2 < 0
          · rw [if_pos z1]
          · rw [if_neg z1, if_neg (fun z => h2 ⟨z1, z⟩)]
        unfold f_X11_thing
        refine (ob (a := 5) ?_).trans ?_
        · simp (disch := omega) only [ne_eq, i_lt0, i_le0, i_eq0, i_n1, i_ltl, i_lel, i_eql, i_lt, i_le, i_eq, i_in, i_tn, i_add, i_addl, i_addr, i_mul, i_mulr, i_mull, if_true, if_false, eq_self, decide_eq_true_eq, decide_true, decide_false, Option.bind_some, Option.bind_none, fu_lt, Bool.false_eq_true, Bool.true_eq_false, not_true_eq_false, not_false_eq_true, Nat.not_lt_zero, Nat.le_zero_eq, Nat.reduceAdd, Nat.reduceMul, Nat.reduceSub, Nat.reduceEqDiff, Nat.reduceLT, Nat.reduceLeDiff, sC_def, sR_def, sC_1, sC_2, sR_1, sR_2, sC_st, sR_st, sR_no, sR_refuse, and_self, true_and, and_true, false_and, and_false, c_hasThing hC, ht]
          exact h2' _
        · dsimp only [fu_lt]
          rw [sC_def, if_neg (by rw [sC_st]; decide)]
      · unfold f_X12_thing fu_lt
        dsimp only
        rw [sR_def, ep, if_pos (decide_eq_true (i_isn ht (by omega))), r_isInl9, if_neg (by simp only [decide_eq_true_eq]; exact h2), sR_refuse]
  · refine ⟨-1, sC s1 2, sR s2 2, ?_, ?_, dI_s hI⟩
    · unfold f_X11_thing
      refine (ob (a := 2) ?_).trans ?_
      · rw [c_hasThing hC, if_neg (by simp only [decide_eq_true_eq]; exact h1)]
      · dsimp only [fu_lt]
        rw [sC_def, if_neg (by rw [sC_st]; decide)]
    · unfold f_X12_thing fu_lt
      dsimp only
      rw [sR_def, ep, if_neg (by simp only [decide_eq_true_eq]; exact h1), sR_refuse]
