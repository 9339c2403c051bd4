/-! what is done: move, teach, rule, pass, rewrite -/
theorem dV_set {D : dD} {f i v : Nat} (hf : 1 ≤ f ∧ f ≤ 6) (hv : dV D) (h1 : f = 1 → 1 ≤ v ∧ v ≤ 9) (h2 : f = 2 → v ≤ 9) (h3 : f = 3 → 1 ≤ v ∧ v ≤ 9) (h4 : f = 4 → v < 2 ^ 45) (h5 : f = 5 → v ≤ 59) (h6 : f = 6 → v < 1024) : dV (dset D f i v) := by
  obtain ⟨v0, vk, vp, vt⟩ := hv
  have w : ∀ g j, dset D f i v g j = D g j ∨ (g = f ∧ dset D f i v g j = v) := fun g j => by
    by_cases e : g = f ∧ j = i
    · exact .inr ⟨e.1, by simp [dset, e]⟩
    · exact .inl (by simp [dset, e])
  have z : ∀ j, dset D f i v 0 j = D 0 j := fun j => dset_f (by omega)
  refine ⟨by rw [z, z, z, z, z, z]; exact v0, fun k hk => ?_, fun p hp => ?_, fun t ht => ?_⟩
  · rw [z] at hk
    have a0 := vk k hk
    have a1 := w 1 k
    have a2 := w 2 k
    have a3 := w 3 k
    omega
  · rw [z] at hp
    have a0 := vp p hp
    have a1 := w 4 p
    have a2 := w 5 p
    have a3 := w 6 p
    omega
  · rw [z] at ht
    rw [z, z, dset_f (by omega : (7 : Nat) ≠ f), dset_f (by omega : (8 : Nat) ≠ f), dset_f (by omega : (9 : Nat) ≠ f), dset_f (by omega : (10 : Nat) ≠ f), dset_f (by omega : (11 : Nat) ≠ f), dset_f (by omega : (12 : Nat) ≠ f)]
    exact vt t ht
theorem dV_set0 {D : dD} {j v : Nat} (hj : j < 3) (hv : dV D) (h0 : j = 0 → v ≤ 16) (h1 : j = 1 → v ≤ 59) (h2 : j = 2 → v ≤ 9999) : dV (dset D 0 j v) := by
  obtain ⟨v0, vk, vp, vt⟩ := hv
  have w : ∀ i, dset D 0 j v 0 i = D 0 i ∨ (i = j ∧ dset D 0 j v 0 i = v) := fun i => by
    by_cases e : i = j
    · exact .inr ⟨e, by simp [dset, e]⟩
    · exact .inl (by simp [dset, e])
  have z : ∀ a b, a ≠ 0 → dset D 0 j v a b = D a b := fun a b ha => dset_f ha
  have z0 : ∀ b, 3 ≤ b → dset D 0 j v 0 b = D 0 b := fun b hb => dset_i (by omega)
  refine ⟨?_, fun k hk => ?_, fun p hp => ?_, fun t ht => ?_⟩
  · have a0 := w 0
    have a1 := w 1
    have a2 := w 2
    have a3 := z0 3 (by omega)
    have a4 := z0 4 (by omega)
    have a5 := z0 5 (by omega)
    omega
  · rw [z0 3 (by omega)] at hk
    rw [z 1 k (by omega), z 2 k (by omega), z 3 k (by omega)]
    exact vk k hk
  · rw [z0 4 (by omega)] at hp
    rw [z 4 p (by omega), z 5 p (by omega), z 6 p (by omega)]
    exact vp p hp
  · rw [z0 5 (by omega)] at ht
    rw [z0 4 (by omega), z0 3 (by omega), z 7 t (by omega), z 8 t (by omega), z 9 t (by omega), z 10 t (by omega), z 11 t (by omega), z 12 t (by omega)]
    exact vt t ht
theorem sC_piw {s : fu_S} {x y : Int32} {a q : Nat} (h : a ≠ 0) : (fu_pi (sC s x) a q y).1 0 15 = x := by rw [p1n (Ne.symm h), sC_st]
theorem sR_piw {s : fu_S} {x y : Int32} {a q : Nat} (h : a ≠ 117) : (fu_pi (sR s x) a q y).1 117 0 = x := by rw [p1n (Ne.symm h), sR_st]
theorem r_isInl59 {x : Int32} : f_X12_isIn (Int32.toInt64 x) (0 : Int64) (59 : Int64) = decide (¬ x < 0 ∧ x ≤ 59) := r_isInN (n := 59) (by omega)
theorem r_isInl16 {x : Int32} : f_X12_isIn (Int32.toInt64 x) (0 : Int64) (16 : Int64) = decide (¬ x < 0 ∧ x ≤ 16) := r_isInN (n := 16) (by omega)
theorem c_isHome {P : Nat} {x : Int32} : f_X4_isHome P x = decide (¬ x < 0 ∧ x ≤ 59) := by
  unfold f_X4_isHome fu_lt
  by_cases h1 : x < 0 <;> by_cases h2 : x ≤ 59 <;> simp [h1, h2]
theorem hd_21 : lw_E_21 dI := by
  intro s1 s2 hI a1 a2
  obtain ⟨D, hv, hC, hR, hQ⟩ := dI_D hI
  have hp4 := hv.1
  have hc := fun x => dC_s (x := x) (by omega : (11 : Nat) ≠ 0) hC
  have hr := fun x => dR_s (x := x) hv hR
  have ep := fun x y => r_isPerson (x := y) (hr x) hv
  by_cases h1 : ¬ a1 < 0 ∧ a1 < Int32.ofNat (D 0 4)
  · obtain ⟨p, hp, rfl⟩ := i_is (by omega) h1
    have hb := dV_p hv hp
    have hp7 : p < 7 := by omega
    by_cases h2 : ¬ a2 < 0 ∧ a2 ≤ 59
    · obtain ⟨w, hw, rfl⟩ := i_upto (n := 59) (by omega) h2
      have e0 := fun x => c_homeOf (hc x) hv hp
      have e1 := fun x => c_hasPerson (x := Int32.ofNat p) (hc x)
      obtain ⟨-, g1, -⟩ := (dR_0 hR).2.2.1 p hp
      have m1 : 21 + p < 1775 := by omega
      refine ⟨Int32.ofNat (D 5 p), fu_pi (sC s1 0) 16 p (Int32.ofNat w), fu_pi (sR s2 0) 122 (21 + p) (Int32.ofNat w), ?_, ?_, dI_upd (D' := dset D 5 p w) hI hQ (eqC2_tr (eqC2_of eqC_sC) (eqC2_pi (by omega))) (eqR2_tr (eqR2_of eqR_sR) (eqR2_pi (by omega))) ?_ (dV_set (by omega) hv (by omega) (by omega) (by omega) (by omega) (by omega) (by omega)) (dC_put (f := 5) (by omega) (hc 0)) (dR_put5 hv hp7 (hr 0)) ?_ ?_⟩
      · simp (disch := omega) only [ne_eq, i_lt0, i_le0, i_eq0, i_n1, i_ltl, i_lel, i_eql, i_lt, i_le, i_eq, i_in, i_tn, i_add, i_addl, i_addr, i_mul, i_mulr, i_mull, if_true, if_false, eq_self, decide_eq_true_eq, decide_true, decide_false, Option.bind_some, Option.bind_none, fu_lt, Bool.false_eq_true, Bool.true_eq_false, not_true_eq_false, not_false_eq_true, Nat.not_lt_zero, Nat.le_zero_eq, Nat.reduceAdd, Nat.reduceMul, Nat.reduceSub, Nat.reduceEqDiff, Nat.reduceLT, Nat.reduceLeDiff, sC_def, sR_def, sC_1, sC_2, sR_1, sR_2, sC_st, sR_st, sR_no, sR_refuse, and_self, true_and, and_true, false_and, and_false, f_X11_move, f_X4_settle, c_hasPerson hC, c_isHome, hp, hp7, hw, e0, e1]
      · simp (disch := omega) only [ne_eq, i_lt0, i_le0, i_eq0, i_n1, i_ltl, i_lel, i_eql, i_lt, i_le, i_eq, i_in, i_tn, i_add, i_addl, i_addr, i_mul, i_mulr, i_mull, if_true, if_false, eq_self, decide_eq_true_eq, decide_true, decide_false, Option.bind_some, Option.bind_none, fu_lt, Bool.false_eq_true, Bool.true_eq_false, not_true_eq_false, not_false_eq_true, Nat.not_lt_zero, Nat.le_zero_eq, Nat.reduceAdd, Nat.reduceMul, Nat.reduceSub, Nat.reduceEqDiff, Nat.reduceLT, Nat.reduceLeDiff, sC_def, sR_def, sC_1, sC_2, sR_1, sR_2, sC_st, sR_st, sR_no, sR_refuse, and_self, true_and, and_true, false_and, and_false, f_X12_move, ep, hp, hw, r_isInl59, m1, g1]
      · rw [sC_piw (by omega), sR_piw (by omega)]
      · rw [dset_f (by omega)]; exact Nat.le_refl _
      · rw [dset_f (by omega)]; exact Nat.le_refl _
    · refine ⟨-1, sC s1 5, sR s2 5, ?_, ?_, dI_s hI⟩
      · simp (disch := omega) only [ne_eq, i_lt0, i_le0, i_eq0, i_n1, i_ltl, i_lel, i_eql, i_lt, i_le, i_eq, i_in, i_tn, i_add, i_addl, i_addr, i_mul, i_mulr, i_mull, if_true, if_false, eq_self, decide_eq_true_eq, decide_true, decide_false, Option.bind_some, Option.bind_none, fu_lt, Bool.false_eq_true, Bool.true_eq_false, not_true_eq_false, not_false_eq_true, Nat.not_lt_zero, Nat.le_zero_eq, Nat.reduceAdd, Nat.reduceMul, Nat.reduceSub, Nat.reduceEqDiff, Nat.reduceLT, Nat.reduceLeDiff, sC_def, sR_def, sC_1, sC_2, sR_1, sR_2, sC_st, sR_st, sR_no, sR_refuse, and_self, true_and, and_true, false_and, and_false, f_X11_move, c_hasPerson hC, hp, c_isHome, h2]
        try rfl
      · simp (disch := omega) only [ne_eq, i_lt0, i_le0, i_eq0, i_n1, i_ltl, i_lel, i_eql, i_lt, i_le, i_eq, i_in, i_tn, i_add, i_addl, i_addr, i_mul, i_mulr, i_mull, if_true, if_false, eq_self, decide_eq_true_eq, decide_true, decide_false, Option.bind_some, Option.bind_none, fu_lt, Bool.false_eq_true, Bool.true_eq_false, not_true_eq_false, not_false_eq_true, Nat.not_lt_zero, Nat.le_zero_eq, Nat.reduceAdd, Nat.reduceMul, Nat.reduceSub, Nat.reduceEqDiff, Nat.reduceLT, Nat.reduceLeDiff, sC_def, sR_def, sC_1, sC_2, sR_1, sR_2, sC_st, sR_st, sR_no, sR_refuse, and_self, true_and, and_true, false_and, and_false, f_X12_move, ep, hp, r_isInl59, h2]
  · refine ⟨-1, sC s1 2, sR s2 2, ?_, ?_, dI_s hI⟩
    · simp (disch := omega) only [ne_eq, i_lt0, i_le0, i_eq0, i_n1, i_ltl, i_lel, i_eql, i_lt, i_le, i_eq, i_in, i_tn, i_add, i_addl, i_addr, i_mul, i_mulr, i_mull, if_true, if_false, eq_self, decide_eq_true_eq, decide_true, decide_false, Option.bind_some, Option.bind_none, fu_lt, Bool.false_eq_true, Bool.true_eq_false, not_true_eq_false, not_false_eq_true, Nat.not_lt_zero, Nat.le_zero_eq, Nat.reduceAdd, Nat.reduceMul, Nat.reduceSub, Nat.reduceEqDiff, Nat.reduceLT, Nat.reduceLeDiff, sC_def, sR_def, sC_1, sC_2, sR_1, sR_2, sC_st, sR_st, sR_no, sR_refuse, and_self, true_and, and_true, false_and, and_false, f_X11_move, c_hasPerson hC, h1]
      try rfl
    · simp (disch := omega) only [ne_eq, i_lt0, i_le0, i_eq0, i_n1, i_ltl, i_lel, i_eql, i_lt, i_le, i_eq, i_in, i_tn, i_add, i_addl, i_addr, i_mul, i_mulr, i_mull, if_true, if_false, eq_self, decide_eq_true_eq, decide_true, decide_false, Option.bind_some, Option.bind_none, fu_lt, Bool.false_eq_true, Bool.true_eq_false, not_true_eq_false, not_false_eq_true, Nat.not_lt_zero, Nat.le_zero_eq, Nat.reduceAdd, Nat.reduceMul, Nat.reduceSub, Nat.reduceEqDiff, Nat.reduceLT, Nat.reduceLeDiff, sC_def, sR_def, sC_1, sC_2, sR_1, sR_2, sC_st, sR_st, sR_no, sR_refuse, and_self, true_and, and_true, false_and, and_false, f_X12_move, ep, h1]
