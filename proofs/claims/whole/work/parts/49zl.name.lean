/-! district: names and reaches -/
section NAM
variable {s t r s1 s2 t1 t2 : fu_S} {u : Nat → Nat} {n T p q e f k i g v j m lo w P V W R a b : Nat} {x y : Int32} {z : Int64} {D : dD}
theorem OK_num (h : OK u n T s1 s2 i) (hg : tG u n (tq u n i) = 2) : s2.1 117 17 = Int32.ofNat (tV u n (tq u n i)) ∧ tV u n (tq u n i) ≤ 9999 := by
  rcases h.2.2.2.2.2.1.2.2 with ⟨z1, -⟩ | ⟨z1, -⟩ | ⟨-, -, z3, z4⟩ | ⟨z1, -⟩ | ⟨z1, -⟩ | ⟨z1, -⟩ | ⟨z1, -⟩
  · omega
  · omega
  · exact ⟨z3, z4⟩
  · omega
  · omega
  · omega
  · omega
theorem OK_nam (h : OK u n T s1 s2 i) (hg : tG u n (tq u n i) = 3) : s2.2 117 19 = Int64.ofNat (tV u n (tq u n i)) ∧ tV u n (tq u n i) < 2 ^ 45 := by
  rcases h.2.2.2.2.2.1.2.2 with ⟨z1, -⟩ | ⟨z1, -⟩ | ⟨z1, -⟩ | ⟨-, -, z3, z4, -⟩ | ⟨z1, -⟩ | ⟨z1, -⟩ | ⟨z1, -⟩
  · omega
  · omega
  · omega
  · exact ⟨z3, z4⟩
  · omega
  · omega
  · omega
theorem OK_hereY (h : OK u n T s1 s2 i) (hg : tG u n (tq u n i) = 3) : f_X8_nameHere s1 = some (Int64.ofNat (tV u n (tq u n i))) := by
  have e0 := OK_sort h
  rw [hg] at e0
  replace e0 : f_X8_sortHere s1 = some 3 := e0
  have e1 := OK_val h (.inr hg)
  unfold f_X8_nameHere
  rw [e0, Option.bind_some, if_pos rfl, e1, Option.bind_some, Option.bind_some]
theorem OK_hereN (h : OK u n T s1 s2 i) (hg : tG u n (tq u n i) ≠ 3) : f_X8_nameHere s1 = some (-1) := by
  have e0 := OK_sort h
  have hG := tG_lt (u := u) (n := n) (q := tq u n i)
  have hne : ¬ (Int32.ofNat (tG u n (tq u n i)) = 3) := fun z => hg ((i_eq (b := 3) (by omega) (by omega)).mp z)
  unfold f_X8_nameHere
  rw [e0, Option.bind_some, if_neg hne, Option.bind_some]
theorem j_n1 (ha : a < 9223372036854775808) : ¬ Int64.ofNat a = (-1 : Int64) := fun h => by
  have h2 := congrArg Int64.toInt h
  rw [j_ti ha, show (-1 : Int64).toInt = -1 from rfl] at h2
  omega
def d_nm (D : dD) (V : Nat) : Nat := d_lo (fun p => decide (D 4 p = V)) (D 0 4)
theorem c_pn (h : dC s P D) (hv : dV D) (hV : V < 2 ^ 45) : ∀ {m i f}, D 0 4 - i = m → i ≤ D 0 4 → m < f → (∀ j, j < i → D 4 j ≠ V) → (∃ p, p < D 0 4 ∧ D 4 p = V ∧ (∀ j, j < p → D 4 j ≠ V) ∧ l_X4_personNamed_2 f s P (Int64.ofNat V) (Int32.ofNat i) = some (.inl (Int32.ofNat p))) ∨ ((∀ j, j < D 0 4 → D 4 j ≠ V) ∧ l_X4_personNamed_2 f s P (Int64.ofNat V) (Int32.ofNat i) = some (.inr ())) := by
  intro m
  have hp4 := hv.1
  have h4 := h.1.2.2.2.2.1
  induction m with
  | zero =>
    intro i f hm hi hf ho
    obtain ⟨f, rfl⟩ : ∃ g, f = g + 1 := ⟨f - 1, by omega⟩
    have hni : ¬ i < D 0 4 := by omega
    refine .inr ⟨fun j hj => ho j (by omega), ?_⟩
    generalize D 0 4 = N at *
    simp (maxSteps := 1000000) (disch := omega) only [ne_eq, i_lt0, i_le0, i_eq0, i_n1, i_ltl, i_lel, i_eql, i_lt, i_le, i_eq, i_in, i_tn, i_add, i_addl, i_addr, i_mul, i_mulr, i_mull, if_true, if_false, eq_self, decide_eq_true_eq, decide_true, decide_false, Option.bind_some, Option.bind_none, ↓fu_ltd, ↓reduceIte, ↓ob_ite, ↓ob_asc, Bool.false_eq_true, Bool.true_eq_false, not_true_eq_false, not_false_eq_true, Nat.not_lt_zero, Nat.le_zero_eq, Nat.reduceAdd, Nat.reduceMul, Nat.reduceSub, Nat.reduceEqDiff, Nat.reduceLT, Nat.reduceLeDiff, sC_def, sR_def, sC_1, sC_2, sR_1, sR_2, sC_st, sR_st, sR_no, sR_refuse, and_self, true_and, and_true, false_and, and_false, l_X4_personNamed_2, h4, hni]
  | succ m ih =>
    intro i f hm hi hf ho
    obtain ⟨f, rfl⟩ : ∃ g, f = g + 1 := ⟨f - 1, by omega⟩
    have hni : i < D 0 4 := by omega
    have e1 := (h.2.2.1 i hni).1
    have hb := (hv.2.2.1 i hni).1
    have m7 : i < 7 := by omega
    by_cases hz : D 4 i = V
    · refine .inl ⟨i, hni, hz, ho, ?_⟩
      rw [hz] at e1
      generalize D 0 4 = N at *
      simp (maxSteps := 1000000) (disch := omega) only [ne_eq, i_lt0, i_le0, i_eq0, i_n1, i_ltl, i_lel, i_eql, i_lt, i_le, i_eq, i_in, i_tn, i_add, i_addl, i_addr, i_mul, i_mulr, i_mull, if_true, if_false, eq_self, decide_eq_true_eq, decide_true, decide_false, Option.bind_some, Option.bind_none, ↓fu_ltd, ↓reduceIte, ↓ob_ite, ↓ob_asc, Bool.false_eq_true, Bool.true_eq_false, not_true_eq_false, not_false_eq_true, Nat.not_lt_zero, Nat.le_zero_eq, Nat.reduceAdd, Nat.reduceMul, Nat.reduceSub, Nat.reduceEqDiff, Nat.reduceLT, Nat.reduceLeDiff, sC_def, sR_def, sC_1, sC_2, sR_1, sR_2, sC_st, sR_st, sR_no, sR_refuse, and_self, true_and, and_true, false_and, and_false, l_X4_personNamed_2, h4, hni, m7, e1]
    · have hne : ¬ Int64.ofNat (D 4 i) = Int64.ofNat V := fun z => hz ((j_eq (by omega) (by omega)).mp z)
      have hs : l_X4_personNamed_2 (f + 1) s P (Int64.ofNat V) (Int32.ofNat i) = l_X4_personNamed_2 f s P (Int64.ofNat V) (Int32.ofNat (i + 1)) := by
        generalize D 0 4 = N at *
        generalize D 4 i = d at *
        simp (maxSteps := 1000000) (disch := omega) only [ne_eq, i_lt0, i_le0, i_eq0, i_n1, i_ltl, i_lel, i_eql, i_lt, i_le, i_eq, i_in, i_tn, i_add, i_addl, i_addr, i_mul, i_mulr, i_mull, if_true, if_false, eq_self, decide_eq_true_eq, decide_true, decide_false, Option.bind_some, Option.bind_none, ↓fu_ltd, ↓reduceIte, ↓ob_ite, ↓ob_asc, Bool.false_eq_true, Bool.true_eq_false, not_true_eq_false, not_false_eq_true, Nat.not_lt_zero, Nat.le_zero_eq, Nat.reduceAdd, Nat.reduceMul, Nat.reduceSub, Nat.reduceEqDiff, Nat.reduceLT, Nat.reduceLeDiff, sC_def, sR_def, sC_1, sC_2, sR_1, sR_2, sC_st, sR_st, sR_no, sR_refuse, and_self, true_and, and_true, false_and, and_false, l_X4_personNamed_2, h4, hni, m7, e1, hne, i_add1]
      rw [hs]
      exact ih (by omega) (by omega) (by omega) fun j hj => by
        by_cases e : j = i
        · rw [e]; exact hz
        · exact ho j (by omega)
theorem c_named (h : dC s P D) (hv : dV D) (hV : V < 2 ^ 45) : f_X4_personNamed s P (Int64.ofNat V) = some (e_b (d_nm D V)) := by
  have hp4 := hv.1
  have key := c_pn (i := 0) (f := fu_N) h hv hV rfl (by omega) (fu_N_gt (by omega)) (fun j hj => absurd hj (by omega))
  unfold f_X4_personNamed d_nm
  rcases key with ⟨p, h1, h2, h3, h4⟩ | ⟨h1, h2⟩
  · have h4' : l_X4_personNamed_2 fu_N s P (Int64.ofNat V) 0 = _ := h4
    rw [h4', ← d_lo_un (a := p + 1) (.inr ⟨p, rfl, h1, decide_eq_true h2, fun j hj => decide_eq_false (h3 j hj)⟩)]
    rfl
  · have h2' : l_X4_personNamed_2 fu_N s P (Int64.ofNat V) 0 = _ := h2
    rw [h2', ← d_lo_un (a := 0) (.inl ⟨rfl, fun j hj => decide_eq_false (h1 j hj)⟩)]
    rfl
theorem r_pn (h : dR s b D) (hv : dV D) (hb5 : b < 5) (hV : V < 2 ^ 45) (h19 : s.2 117 19 = Int64.ofNat V) : ∀ {m i f}, D 0 4 - i = m → i ≤ D 0 4 → m < f → (∀ j, j < i → D 4 j ≠ V) → (∃ p, p < D 0 4 ∧ D 4 p = V ∧ (∀ j, j < p → D 4 j ≠ V) ∧ l_X12_named_2 f s (Int32.ofNat b) (Int32.ofNat i) = some (.inl (Int32.ofNat p))) ∨ ((∀ j, j < D 0 4 → D 4 j ≠ V) ∧ l_X12_named_2 f s (Int32.ofNat b) (Int32.ofNat i) = some (.inr ())) := by
  intro m
  have hp4 := hv.1
  have h4 := h.1.2.1
  have m1 : 355 * b + 1 < 1775 := by omega
  induction m with
  | zero =>
    intro i f hm hi hf ho
    obtain ⟨f, rfl⟩ : ∃ g, f = g + 1 := ⟨f - 1, by omega⟩
    have hni : ¬ i < D 0 4 := by omega
    refine .inr ⟨fun j hj => ho j (by omega), ?_⟩
    generalize D 0 4 = N at *
    simp (maxSteps := 1000000) (disch := omega) only [ne_eq, i_lt0, i_le0, i_eq0, i_n1, i_ltl, i_lel, i_eql, i_lt, i_le, i_eq, i_in, i_tn, i_add, i_addl, i_addr, i_mul, i_mulr, i_mull, if_true, if_false, eq_self, decide_eq_true_eq, decide_true, decide_false, Option.bind_some, Option.bind_none, ↓fu_ltd, ↓reduceIte, ↓ob_ite, ↓ob_asc, Bool.false_eq_true, Bool.true_eq_false, not_true_eq_false, not_false_eq_true, Nat.not_lt_zero, Nat.le_zero_eq, Nat.reduceAdd, Nat.reduceMul, Nat.reduceSub, Nat.reduceEqDiff, Nat.reduceLT, Nat.reduceLeDiff, sC_def, sR_def, sC_1, sC_2, sR_1, sR_2, sC_st, sR_st, sR_no, sR_refuse, and_self, true_and, and_true, false_and, and_false, l_X12_named_2, h4, m1, hni]
  | succ m ih =>
    intro i f hm hi hf ho
    obtain ⟨f, rfl⟩ : ∃ g, f = g + 1 := ⟨f - 1, by omega⟩
    have hni : i < D 0 4 := by omega
    have e1 := (h.2.2.1 i hni).1
    have hb := (hv.2.2.1 i hni).1
    have m7 : 7 * b + i < 35 := by omega
    by_cases hz : D 4 i = V
    · refine .inl ⟨i, hni, hz, ho, ?_⟩
      rw [hz] at e1
      generalize D 0 4 = N at *
      simp (maxSteps := 1000000) (disch := omega) only [ne_eq, i_lt0, i_le0, i_eq0, i_n1, i_ltl, i_lel, i_eql, i_lt, i_le, i_eq, i_in, i_tn, i_add, i_addl, i_addr, i_mul, i_mulr, i_mull, if_true, if_false, eq_self, decide_eq_true_eq, decide_true, decide_false, Option.bind_some, Option.bind_none, ↓fu_ltd, ↓reduceIte, ↓ob_ite, ↓ob_asc, Bool.false_eq_true, Bool.true_eq_false, not_true_eq_false, not_false_eq_true, Nat.not_lt_zero, Nat.le_zero_eq, Nat.reduceAdd, Nat.reduceMul, Nat.reduceSub, Nat.reduceEqDiff, Nat.reduceLT, Nat.reduceLeDiff, sC_def, sR_def, sC_1, sC_2, sR_1, sR_2, sC_st, sR_st, sR_no, sR_refuse, and_self, true_and, and_true, false_and, and_false, l_X12_named_2, h4, m1, hni, m7, e1, h19]
    · have hne : ¬ Int64.ofNat (D 4 i) = Int64.ofNat V := fun z => hz ((j_eq (by omega) (by omega)).mp z)
      have hs : l_X12_named_2 (f + 1) s (Int32.ofNat b) (Int32.ofNat i) = l_X12_named_2 f s (Int32.ofNat b) (Int32.ofNat (i + 1)) := by
        generalize D 0 4 = N at *
        generalize D 4 i = d at *
        simp (maxSteps := 1000000) (disch := omega) only [ne_eq, i_lt0, i_le0, i_eq0, i_n1, i_ltl, i_lel, i_eql, i_lt, i_le, i_eq, i_in, i_tn, i_add, i_addl, i_addr, i_mul, i_mulr, i_mull, if_true, if_false, eq_self, decide_eq_true_eq, decide_true, decide_false, Option.bind_some, Option.bind_none, ↓fu_ltd, ↓reduceIte, ↓ob_ite, ↓ob_asc, Bool.false_eq_true, Bool.true_eq_false, not_true_eq_false, not_false_eq_true, Nat.not_lt_zero, Nat.le_zero_eq, Nat.reduceAdd, Nat.reduceMul, Nat.reduceSub, Nat.reduceEqDiff, Nat.reduceLT, Nat.reduceLeDiff, sC_def, sR_def, sC_1, sC_2, sR_1, sR_2, sC_st, sR_st, sR_no, sR_refuse, and_self, true_and, and_true, false_and, and_false, l_X12_named_2, h4, m1, hni, m7, e1, h19, hne, i_add1]
      rw [hs]
      exact ih (by omega) (by omega) (by omega) fun j hj => by
        by_cases e : j = i
        · rw [e]; exact hz
        · exact ho j (by omega)
theorem r_named (h : dR s b D) (hv : dV D) (hb5 : b < 5) (hV : V < 2 ^ 45) (h19 : s.2 117 19 = Int64.ofNat V) : f_X12_named s (Int32.ofNat b) = some (e_b (d_nm D V)) := by
  have hp4 := hv.1
  have key := r_pn (i := 0) (f := fu_N) h hv hb5 hV h19 rfl (by omega) (fu_N_gt (by omega)) (fun j hj => absurd hj (by omega))
  unfold f_X12_named d_nm
  rcases key with ⟨p, h1, h2, h3, h4⟩ | ⟨h1, h2⟩
  · have h4' : l_X12_named_2 fu_N s (Int32.ofNat b) 0 = _ := h4
    rw [h4', ← d_lo_un (a := p + 1) (.inr ⟨p, rfl, h1, decide_eq_true h2, fun j hj => decide_eq_false (h3 j hj)⟩)]
    rfl
  · have h2' : l_X12_named_2 fu_N s (Int32.ofNat b) 0 = _ := h2
    rw [h2', ← d_lo_un (a := 0) (.inl ⟨rfl, fun j hj => decide_eq_false (h1 j hj)⟩)]
    rfl
theorem d_nm_le : d_nm D V ≤ D 0 4 := d_lo_le
theorem tb_out (ha : a < 1024) (hv : 10 ≤ v) : a.testBit v = false :=
  Nat.testBit_lt_two_pow (Nat.lt_of_lt_of_le (show a < 2 ^ 10 from ha) (Nat.pow_le_pow_right (by omega) hv))
/-- the digits of a reach -/
theorem L_reach : ∀ {m i a f : Nat} {s1 s2 : fu_S} {x1 x2 : Int32}, OK u n T s1 s2 i → a < 1024 → T - i = m → m + 1 < f → (∃ a' i' t1 t2, a' < 1024 ∧ i ≤ i' ∧ l_X2_takeReach_25 f s1 (Int32.ofNat a) (Int32.ofNat (d_pop a)) = some (.inr (Int32.ofNat a', t1)) ∧ l_X12_readPerson_100 f s2 x1 x2 (Int32.ofNat a) = some (Int32.ofNat a', t2) ∧ OK u n T t1 t2 i' ∧ f5 s1 t1 ∧ f7 s2 t2) ∨ (∃ t1 t2 y, l_X2_takeReach_25 f s1 (Int32.ofNat a) (Int32.ofNat (d_pop a)) = some (.inl (-1, t1)) ∧ l_X12_readPerson_100 f s2 x1 x2 (Int32.ofNat a) = some (y, t2) ∧ BA t1 t2 ∧ f5 s1 t1 ∧ f7 s2 t2) := by
  intro m
  induction m using Nat.strongRecOn with
  | _ m ih =>
  intro i a f s1 s2 x1 x2 h ha hm hf
  obtain ⟨f, rfl⟩ : ∃ g, f = g + 1 := ⟨f - 1, by omega⟩
  have hpop := d_pop_le (a := a)
  have c10 : Int32.ofNat (d_pop a) ≤ 10 := (i_lel (n := 10) (by omega) (show (10 : Nat) < 2147483648 by omega)).mpr hpop
  have e0 := OK_sort h
  have hG := tG_lt (u := u) (n := n) (q := tq u n i)
  have htk := (OK_tok h).2.1
  have z12 := OK_0 h
  rw [l_X2_takeReach_25, l_X12_readPerson_100, if_pos c10, if_pos z12]
  by_cases hg : tG u n (tq u n i) = 2
  · have hlt := OK_lt h (by omega)
    have e1 := OK_val h (.inl hg)
    obtain ⟨h17, hv9⟩ := OK_num h hg
    have e2 : f_X8_isAtNumber s1 = some true := by
      unfold f_X8_isAtNumber
      rw [e0, Option.bind_some, if_pos (show Int32.ofNat (tG u n (tq u n i)) = 2 from by rw [hg]; rfl), Option.bind_some]
    rw [if_pos (htk.mpr hg), e2, Option.bind_some, if_pos rfl]
    generalize hv : tV u n (tq u n i) = v at *
    have e3 : f_X8_isAtNumberOf s1 (Int32.ofNat a) = some (a.testBit v) := by
      unfold f_X8_isAtNumberOf
      rw [e1, Option.bind_some, e2, Option.bind_some, if_pos rfl, if_neg (fun z => by have := (j_lt (b := 0) (by omega) (by omega)).mp z; omega)]
      have c31 : (Int64.ofNat v < (31 : Int64)) ↔ v < 31 := j_lt (b := 31) (by omega) (by omega)
      by_cases h31 : v < 31
      · rw [if_pos (c31.mpr h31), j_32 (by omega)]
        cases hb : a.testBit v
        · rw [if_pos ((i_bit0 (by omega) h31).mpr hb), Option.bind_some]
        · rw [if_neg (fun z => by have := (i_bit0 (by omega) h31).mp z; rw [hb] at this; exact Bool.noConfusion this), Option.bind_some]
      · rw [if_neg (fun z => h31 (c31.mp z)), Option.bind_some, tb_out (v := v) ha (by omega)]
    have hin : f_X12_isIn (Int32.toInt64 (s2.1 117 17)) (0 : Int64) (9 : Int64) = decide (v ≤ 9) := by
      rw [r_isInl9, h17]
      exact decide_eq_decide.mpr ⟨fun z => (i_lel (n := 9) (by omega) (show (9 : Nat) < 2147483648 by omega)).mp z.2, fun z => ⟨fun w => (i_lt0 (by omega)).mp w, (i_lel (n := 9) (by omega) (show (9 : Nat) < 2147483648 by omega)).mpr z⟩⟩
    rw [e3, Option.bind_some]
    by_cases hb : a.testBit v = true
    · have hv10 : v ≤ 9 := by
        refine Classical.byContradiction fun z => ?_
        rw [tb_out (v := v) ha (by omega)] at hb
        exact Bool.noConfusion hb
      obtain ⟨t1, t2, a1, a2, a3, a4, a5⟩ := L_fail h (k := 5) (by omega) (by omega)
      have a1' : f_X8_refuse s1 5 = some (false, t1) := a1
      have a2' : f_X12_fail s2 5 (s2.1 117 15) = t2 := a2
      have hbd := bd_BA a3
      refine .inr ⟨t1, t2, Int32.ofNat a ||| 0, ?_, ?_, a3, a4, a5⟩
      · rw [hb, if_pos rfl, a1', Option.bind_some]
      · rw [hin, decide_eq_true hv10, if_pos rfl, h17, r_has (by omega) (by omega), hb, if_pos rfl]
        unfold fu_lt
        rw [a2', Option.bind_some, B_count hbd, Option.bind_some]
        dsimp only
        rw [if_neg (bd_eq hbd), Option.bind_some]
        obtain ⟨f, rfl⟩ : ∃ g, f = g + 1 := ⟨f - 1, by omega⟩
        rw [l_X12_readPerson_100, if_neg (bd_eq hbd)]
    · have hb' : a.testBit v = false := by cases hx : a.testBit v; rfl; exact absurd hx hb
      have hj : (if f_X12_isIn (Int32.toInt64 (s2.1 117 17)) (0 : Int64) (9 : Int64) = true then (if f_X12_has (Int32.ofNat a) (s2.1 117 17) = true then fu_lt (f_X12_fail s2 (5 : Int32) (s2.1 117 15)) fun r25 => some r25 else some s2) else some s2) = some s2 := by
        rw [hin]
        by_cases hv10 : v ≤ 9
        · rw [decide_eq_true hv10, if_pos rfl, h17, r_has (by omega) (by omega), hb', if_neg Bool.false_ne_true]
        · rw [decide_eq_false hv10, if_neg Bool.false_ne_true]
      rw [hj, hb', if_neg Bool.false_ne_true, Option.bind_some]
      rcases L_num (lo := 0) (y := 9) h (by omega) with ⟨-, v', hve, -, -, hv9', t1, t2, b1, b2, b3, b4, b5⟩ | ⟨t1, t2, b1, b2, b3, b4, b5⟩
      · have hv10 : v' ≤ 9 := (i_lel (n := 9) (by omega) (show (9 : Nat) < 2147483648 by omega)).mp hv9'
        have hve' : v' = v := hve.trans hv
        subst hve'
        have b1' : f_X8_takeNumber s1 0 9 = some (Int32.ofNat v', t1) := b1
        have b2' : f_X12_count s2 0 9 = some (Int32.ofNat v', t2) := b2
        have hor : a ||| 2 ^ v' < 1024 := Nat.or_lt_two_pow (n := 10) ha (Nat.pow_lt_pow_right (by omega) (by omega))
        have hpp : d_pop (a ||| 2 ^ v') = d_pop a + 1 := by
          rw [d_pop_out (t := v') (by omega) (by rw [Nat.testBit_or, Nat.testBit_two_pow_self, Bool.or_true])]
          have : d_nb (a ||| 2 ^ v') (2 ^ v') = a := by
            refine Nat.eq_of_testBit_eq fun k => ?_
            by_cases hk : k < 32
            · rw [d_nb_bit hk, Nat.testBit_or, Nat.testBit_two_pow]
              by_cases e : v' = k
              · rw [← e, hb']; simp
              · simp [e]
            · have x1 : a.testBit k = false := tb_out ha (by omega)
              have x2 : (d_nb (a ||| 2 ^ v') (2 ^ v')).testBit k = false := tb_out (Nat.lt_of_le_of_lt d_nb_le hor) (by omega)
              rw [x1, x2]
          rw [this]
        rw [b1', Option.bind_some, b2', Option.bind_some]
        dsimp only
        rw [if_neg (e_neg1 (by omega)), if_pos (OK_0 b3), Option.bind_some, i_shl (by omega), i_or, i_add1, ← hpp]
        rcases ih (T - (i + 1)) (by omega) (x1 := x1) (x2 := x2) b3 hor rfl (f := f) (by omega) with ⟨a', i', r1, r2, c1, c2, c3, c4, c5, c6, c7⟩ | ⟨r1, r2, y, c3, c4, c5, c6, c7⟩
        · exact .inl ⟨a', i', r1, r2, c1, by omega, c3, c4, c5, f5_tr b4 c6, f7_tr b5 c7⟩
        · exact .inr ⟨r1, r2, y, c3, c4, c5, f5_tr b4 c6, f7_tr b5 c7⟩
      · have b1' : f_X8_takeNumber s1 0 9 = some (-1, t1) := b1
        have b2' : f_X12_count s2 0 9 = some (0, t2) := b2
        have hbd := bd_BA b3
        refine .inr ⟨t1, t2, Int32.ofNat a ||| 0, ?_, ?_, b3, b4, b5⟩
        · rw [b1', Option.bind_some]
          dsimp only
          rw [if_pos rfl]
        · rw [b2', Option.bind_some]
          dsimp only
          rw [if_neg (bd_eq hbd), Option.bind_some]
          obtain ⟨f, rfl⟩ : ∃ g, f = g + 1 := ⟨f - 1, by omega⟩
          rw [l_X12_readPerson_100, if_neg (bd_eq hbd)]
  · have hne : ¬ Int32.ofNat (tG u n (tq u n i)) = 2 := fun z => hg ((i_eq (b := 2) (by omega) (by omega)).mp z)
    have e2 : f_X8_isAtNumber s1 = some false := by
      unfold f_X8_isAtNumber
      rw [e0, Option.bind_some, if_neg hne, Option.bind_some]
    rw [if_neg (fun z => hg (htk.mp z)), e2, Option.bind_some, if_neg Bool.false_ne_true]
    exact .inl ⟨a, i, s1, s2, ha, Nat.le_refl _, rfl, rfl, h, f5_rf, f7_rf⟩
end NAM
