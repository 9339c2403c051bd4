/-! games: the reference; game, moveOf -/
def g_sg (e : Bool) (v : Int) : Int := if e = true then v else -v
/-- with the pass behind the last thing -/
def g_c (D : dD) (A t : Nat) : Bool := if t = D 0 5 then true else A.testBit t
def g_g (D : dD) (k A B t : Nat) : Int := if t = D 0 5 then -(g_v (d_w D) k B A) else g_fm D k A B t
def g_w (D : dD) (p : Nat) : Nat := d_set (fun t => d_isUp D t && d_able D p t) (D 0 5)
section GRF
variable {s : fu_S} {D : dD} {t p q k A B n G x y T m : Nat} {e : Bool}
theorem g_g_bd (hv : dV D) (hk : k ≤ 4) : -100 ≤ g_g D k A B t ∧ g_g D k A B t ≤ 100 := by
  unfold g_g
  split
  · have h1 := g_v_bd (w := d_w D) (fun t => d_w_le hv) (k := k) (A := B) (B := A)
    omega
  · exact g_fm_bd hv hk
theorem g_tot (hv : dV D) (hA : A < 2 ^ D 0 5) : g_v (d_w D) (k + 1) A B = (g_b (g_c D A) (g_g D k A B) (D 0 5 + 1)).1 ∧ (g_b (g_c D A) (g_g D k A B) (D 0 5 + 1)).2 ≠ 0 := by
  have hp4 := hv.1
  have h1 : g_mx (fun t => A.testBit t) (g_fm D k A B) (-(g_v (d_w D) k B A)) (D 0 5 + (8 - D 0 5)) = g_mx (fun t => A.testBit t) (g_fm D k A B) (-(g_v (d_w D) k B A)) (D 0 5) := g_mx_0 fun t ht => bit_hi hA ht
  rw [show D 0 5 + (8 - D 0 5) = 8 by omega] at h1
  rw [g_v_s, h1, g_mx_b, g_b_c (c' := g_c D A) (f' := g_g D k A B) (fun j hj => by
    unfold g_c g_g
    rw [if_neg (by omega), if_neg (by omega)]
    exact ⟨rfl, rfl⟩)]
  have h2 : g_b (g_c D A) (g_g D k A B) (D 0 5 + 1) = if g_c D A (D 0 5) = true ∧ ((g_b (g_c D A) (g_g D k A B) (D 0 5)).2 = 0 ∨ (g_b (g_c D A) (g_g D k A B) (D 0 5)).1 < g_g D k A B (D 0 5)) then (g_g D k A B (D 0 5), D 0 5 + 1) else g_b (g_c D A) (g_g D k A B) (D 0 5) := rfl
  have h3 : g_c D A (D 0 5) = true := if_pos rfl
  have h4 : g_g D k A B (D 0 5) = -(g_v (d_w D) k B A) := if_pos rfl
  rw [h2, h4]
  generalize g_b (g_c D A) (g_g D k A B) (D 0 5) = R
  generalize -(g_v (d_w D) k B A) = V
  by_cases h0 : R.2 = 0
  · rw [if_pos h0, if_pos ⟨h3, .inl h0⟩]
    exact ⟨rfl, Nat.succ_ne_zero _⟩
  · rw [if_neg h0]
    by_cases h5 : R.1 < V
    · rw [if_pos ⟨h3, .inr h5⟩]
      exact ⟨by show max V R.1 = V; omega, Nat.succ_ne_zero _⟩
    · rw [if_neg (fun z => by rcases z.2 with w | w <;> omega)]
      exact ⟨by omega, h0⟩
theorem g_sg_bd {v : Int} (h : -100 ≤ v ∧ v ≤ 100) : -1000 ≤ g_sg e v ∧ g_sg e v ≤ 1000 := by
  unfold g_sg
  split <;> omega
theorem g_sg_add {v w : Int} : g_sg e v + g_sg e w = g_sg e (v + w) := by
  unfold g_sg
  split <;> omega
theorem r_playL {K : fu_S → Int32 → Int32 → Int32 → Int32 → Int32 → Option (Int32 × fu_S)} {x1 x2 x4 : Int32} (hd : dR s 0 D) (hv : dV D) (hk : k ≤ 3) (hx : x < D 0 4) (hG : G < 256)
    (hA : ∀ t, t < D 0 5 → A.testBit t = ((g_w D x).testBit t && !G.testBit t))
    (hK : ∀ t, t < D 0 5 → A.testBit t = true → K s x1 x2 (Int32.ofNat (n + 1)) x4 (Int32.ofNat (G ||| 2 ^ t)) = some (Int32.ofInt (g_sg e (-(g_v (d_w D) k (d_nb B (2 ^ t)) (d_nb A (2 ^ t))))), s))
    (hP : K s x1 x2 (Int32.ofNat (n + 1)) x4 (Int32.ofNat G) = some (Int32.ofInt (g_sg e (-(g_v (d_w D) k B A))), s)) :
    l_X12_plays_42 K fu_N s x1 x2 (Int32.ofNat n) x4 (Int32.ofNat G) e (Int32.ofNat x) 0 (-1) 0 = some (Int32.ofInt (g_sg e (g_b (g_c D A) (g_g D k A B) (D 0 5 + 1)).1), e_b (g_b (g_c D A) (g_g D k A B) (D 0 5 + 1)).2, s) := by
  have hp4 := hv.1
  have c2 := (dR_0 hd).1.2.2.1
  have := lp_up (l := fun f (σ : Int32 × Int32 × fu_S) t => l_X12_plays_42 K f σ.2.2 x1 x2 (Int32.ofNat n) x4 (Int32.ofNat G) e (Int32.ofNat x) σ.1 σ.2.1 (Int32.ofNat t)) (N := D 0 5 + 1) (S := fun t => (Int32.ofInt (g_sg e (g_b (g_c D A) (g_g D k A B) t).1), e_b (g_b (g_c D A) (g_g D k A B) t).2, s)) (r := (Int32.ofInt (g_sg e (g_b (g_c D A) (g_g D k A B) (D 0 5 + 1)).1), e_b (g_b (g_c D A) (g_g D k A B) (D 0 5 + 1)).2, s)) (fun f t ht => by
    have ht31 : t < 31 := by omega
    have q0 := g_g_bd (A := A) (B := B) (t := t) hv (by omega : k ≤ 4)
    obtain ⟨q1, q2⟩ := g_b_bd (c := g_c D A) (f := g_g D k A B) (n := t) (fun j _ => g_g_bd hv (by omega))
    have x1' : g_b (g_c D A) (g_g D k A B) (t + 1) = if g_c D A t = true ∧ ((g_b (g_c D A) (g_g D k A B) t).2 = 0 ∨ (g_b (g_c D A) (g_g D k A B) t).1 < g_g D k A B t) then (g_g D k A B t, t + 1) else g_b (g_c D A) (g_g D k A B) t := rfl
    show l_X12_plays_42 K (f + 1) s x1 x2 (Int32.ofNat n) x4 (Int32.ofNat G) e (Int32.ofNat x) (Int32.ofInt (g_sg e (g_b (g_c D A) (g_g D k A B) t).1)) (e_b (g_b (g_c D A) (g_g D k A B) t).2) (Int32.ofNat t) = l_X12_plays_42 K f s x1 x2 (Int32.ofNat n) x4 (Int32.ofNat G) e (Int32.ofNat x) (Int32.ofInt (g_sg e (g_b (g_c D A) (g_g D k A B) (t + 1)).1)) (e_b (g_b (g_c D A) (g_g D k A B) (t + 1)).2) (Int32.ofNat (t + 1))
    rw [x1']
    clear x1'
    generalize g_b (g_c D A) (g_g D k A B) t = R at *
    obtain ⟨M, C⟩ := R
    dsimp only at q1 q2 ⊢
    have hn := e_b_neg (b := C) (by omega)
    obtain ⟨R', hR'⟩ : ∃ R', R' = (if g_c D A t = true ∧ (C = 0 ∨ M < g_g D k A B t) then (g_g D k A B t, t + 1) else (M, C)) := ⟨_, rfl⟩
    rw [← hR']
    have tail : ∀ (hc : g_c D A t = true) (z : Int32 × Int32 × fu_S → Option (Int32 × Int32 × fu_S)), (if e_b C < 0 then z (Int32.ofInt (g_sg e (g_g D k A B t)), Int32.ofNat t, s) else if e = true then if Int32.ofInt (g_sg e (g_g D k A B t)) ≤ Int32.ofInt (g_sg e M) then z (Int32.ofInt (g_sg e M), e_b C, s) else z (Int32.ofInt (g_sg e (g_g D k A B t)), Int32.ofNat t, s) else if Int32.ofInt (g_sg e (g_g D k A B t)) < Int32.ofInt (g_sg e M) then z (Int32.ofInt (g_sg e (g_g D k A B t)), Int32.ofNat t, s) else z (Int32.ofInt (g_sg e M), e_b C, s)) = z (Int32.ofInt (g_sg e R'.1), e_b R'.2, s) := by
      intro hc z
      clear hK hP hA
      generalize g_g D k A B t = V at *
      by_cases h0 : C = 0
      · rw [hR'.trans (if_pos ⟨hc, .inl h0⟩), if_pos (hn.mpr h0)]
        rfl
      · rw [if_neg (fun w => h0 (hn.mp w))]
        by_cases h1 : M < V
        · rw [hR'.trans (if_pos ⟨hc, .inr h1⟩)]
          cases e
          · rw [if_neg Bool.false_ne_true, if_pos ((o_lt (g_sg_bd q0) (g_sg_bd q1)).mpr (by unfold g_sg; simp; omega))]
            rfl
          · rw [if_pos rfl, if_neg (fun w => by have := (o_le (g_sg_bd q0) (g_sg_bd q1)).mp w; unfold g_sg at this; simp at this; omega)]
            rfl
        · rw [hR'.trans (if_neg (fun w => by rcases w.2 with y | y <;> omega))]
          cases e
          · rw [if_neg Bool.false_ne_true, if_neg (fun w => by have := (o_lt (g_sg_bd q0) (g_sg_bd q1)).mp w; unfold g_sg at this; simp at this; omega)]
          · rw [if_pos rfl, if_pos ((o_le (g_sg_bd q0) (g_sg_bd q1)).mpr (by unfold g_sg; simp; omega))]
    by_cases h5 : t = D 0 5
    · have hc : g_c D A t = true := if_pos h5
      have hg : g_g D k A B t = -(g_v (d_w D) k B A) := if_pos h5
      rw [← hg] at hP
      have hle : t ≤ D 0 5 := by omega
      have e4 : (0 : Int32) + Int32.ofInt (g_sg e (g_g D k A B t)) = Int32.ofInt (g_sg e (g_g D k A B t)) := by rw [Int32.zero_add]
      refine Eq.trans ?_ (tail hc fun j9 => l_X12_plays_42 K f j9.2.2 x1 x2 (Int32.ofNat n) x4 (Int32.ofNat G) e (Int32.ofNat x) j9.1 j9.2.1 (Int32.ofNat (t + 1)))
      generalize g_g D k A B t = V at *
      rw [l_X12_plays_42, c2, if_pos ((i_le (by omega) (by omega)).mpr hle), if_pos ((i_eq (by omega) (by omega)).mpr h5)]
      simp (maxSteps := 1000000) (disch := omega) only [ne_eq, i_lt0, i_le0, i_eq0, i_n1, i_ltl, i_lel, i_eql, i_lt, i_le, i_eq, i_in, i_tn, i_add, i_addl, i_addr, i_mul, i_mulr, i_mull, if_true, if_false, eq_self, decide_eq_true_eq, decide_true, decide_false, Option.bind_some, Option.bind_none, ↓fu_ltd, ↓reduceIte, ↓ob_ite, ↓ob_asc, ↓Option.bind_some, Bool.false_eq_true, Bool.true_eq_false, not_true_eq_false, not_false_eq_true, Nat.not_lt_zero, Nat.le_zero_eq, Nat.reduceAdd, Nat.reduceMul, Nat.reduceSub, Nat.reduceEqDiff, Nat.reduceLT, Nat.reduceLeDiff, sC_def, sR_def, sC_1, sC_2, sR_1, sR_2, sC_st, sR_st, sR_no, sR_refuse, and_self, true_and, and_true, false_and, and_false, i_add1, hP, e4]
    · have ht5 : t < D 0 5 := by omega
      have hc : g_c D A t = A.testBit t := if_neg h5
      have hg : g_g D k A B t = g_fm D k A B t := if_neg h5
      have hle : t ≤ D 0 5 := by omega
      have b1 : f_X12_has (Int32.ofNat G) (Int32.ofNat t) = G.testBit t := r_has (by omega) ht31
      have b2 := r_isUp hd hv ht5
      have b3 := r_could hd hv ht5 hx
      have b4 := (dR_0 hd).2.2.2 t ht5
      have b5 : s.1 122 (51 + t) = Int32.ofInt (d_w D t) := by
        rw [← o_n, show d_w D t = D 9 t from if_pos ht5]
        exact b4.2.2.1
      have m1 : 51 + t < 1775 := by omega
      have hAt := hA t ht5
      rw [show (g_w D x).testBit t = (d_isUp D t && d_able D x t) by unfold g_w; rw [d_set_bit, decide_eq_true ht5, Bool.true_and]] at hAt
      cases hz : A.testBit t
      · have hR2 : R' = (M, C) := hR'.trans (if_neg (fun z => by rw [hc, hz] at z; exact Bool.false_ne_true z.1))
        rw [hR2]
        rw [hz] at hAt
        rw [l_X12_plays_42, c2, if_pos ((i_le (by omega) (by omega)).mpr hle), if_neg (fun z => h5 ((i_eq (by omega) (by omega)).mp z))]
        cases y1 : G.testBit t
        · rw [y1] at b1 hAt
          cases y2 : d_isUp D t
          · rw [y2] at b2
            simp (maxSteps := 1000000) (disch := omega) only [ne_eq, i_lt0, i_le0, i_eq0, i_n1, i_ltl, i_lel, i_eql, i_lt, i_le, i_eq, i_in, i_tn, i_add, i_addl, i_addr, i_mul, i_mulr, i_mull, if_true, if_false, eq_self, decide_eq_true_eq, decide_true, decide_false, Option.bind_some, Option.bind_none, ↓fu_ltd, ↓reduceIte, ↓ob_ite, ↓ob_asc, ↓Option.bind_some, Bool.false_eq_true, Bool.true_eq_false, not_true_eq_false, not_false_eq_true, Nat.not_lt_zero, Nat.le_zero_eq, Nat.reduceAdd, Nat.reduceMul, Nat.reduceSub, Nat.reduceEqDiff, Nat.reduceLT, Nat.reduceLeDiff, sC_def, sR_def, sC_1, sC_2, sR_1, sR_2, sC_st, sR_st, sR_no, sR_refuse, and_self, true_and, and_true, false_and, and_false, b1, b2, i_add1]
          · rw [y2] at b2 hAt
            cases y3 : d_able D x t
            · rw [y3] at b3
              simp (maxSteps := 1000000) (disch := omega) only [ne_eq, i_lt0, i_le0, i_eq0, i_n1, i_ltl, i_lel, i_eql, i_lt, i_le, i_eq, i_in, i_tn, i_add, i_addl, i_addr, i_mul, i_mulr, i_mull, if_true, if_false, eq_self, decide_eq_true_eq, decide_true, decide_false, Option.bind_some, Option.bind_none, ↓fu_ltd, ↓reduceIte, ↓ob_ite, ↓ob_asc, ↓Option.bind_some, Bool.false_eq_true, Bool.true_eq_false, not_true_eq_false, not_false_eq_true, Nat.not_lt_zero, Nat.le_zero_eq, Nat.reduceAdd, Nat.reduceMul, Nat.reduceSub, Nat.reduceEqDiff, Nat.reduceLT, Nat.reduceLeDiff, sC_def, sR_def, sC_1, sC_2, sR_1, sR_2, sC_st, sR_st, sR_no, sR_refuse, and_self, true_and, and_true, false_and, and_false, b1, b2, b3, i_add1]
            · rw [y3] at hAt
              exact absurd hAt (by simp)
        · rw [y1] at b1
          simp (maxSteps := 1000000) (disch := omega) only [ne_eq, i_lt0, i_le0, i_eq0, i_n1, i_ltl, i_lel, i_eql, i_lt, i_le, i_eq, i_in, i_tn, i_add, i_addl, i_addr, i_mul, i_mulr, i_mull, if_true, if_false, eq_self, decide_eq_true_eq, decide_true, decide_false, Option.bind_some, Option.bind_none, ↓fu_ltd, ↓reduceIte, ↓ob_ite, ↓ob_asc, ↓Option.bind_some, Bool.false_eq_true, Bool.true_eq_false, not_true_eq_false, not_false_eq_true, Nat.not_lt_zero, Nat.le_zero_eq, Nat.reduceAdd, Nat.reduceMul, Nat.reduceSub, Nat.reduceEqDiff, Nat.reduceLT, Nat.reduceLeDiff, sC_def, sR_def, sC_1, sC_2, sR_1, sR_2, sC_st, sR_st, sR_no, sR_refuse, and_self, true_and, and_true, false_and, and_false, b1, i_add1]
      · rw [hz] at hc
        have hKt := hK t ht5 hz
        rw [hz] at hAt
        have hAt' : (d_isUp D t = true ∧ d_able D x t = true) ∧ G.testBit t = false := by
          have := hAt.symm
          rw [Bool.and_eq_true, Bool.and_eq_true, Bool.not_eq_true'] at this
          exact this
        obtain ⟨⟨y2, y3⟩, y1⟩ := hAt'
        rw [y1] at b1
        rw [y2] at b2
        rw [y3] at b3
        have e4 : Int32.ofInt (g_sg e (d_w D t)) + Int32.ofInt (g_sg e (-(g_v (d_w D) k (d_nb B (2 ^ t)) (d_nb A (2 ^ t))))) = Int32.ofInt (g_sg e (g_g D k A B t)) := by
          rw [o_add, g_sg_add, hg]
          rfl
        refine Eq.trans ?_ (tail hc fun j9 => l_X12_plays_42 K f j9.2.2 x1 x2 (Int32.ofNat n) x4 (Int32.ofNat G) e (Int32.ofNat x) j9.1 j9.2.1 (Int32.ofNat (t + 1)))
        generalize g_g D k A B t = V at *
        rw [l_X12_plays_42, c2, if_pos ((i_le (by omega) (by omega)).mpr hle), if_neg (fun z => h5 ((i_eq (by omega) (by omega)).mp z))]
        cases e
        · have e5 : -(s.1 122 (51 + t)) = Int32.ofInt (g_sg false (d_w D t)) := by rw [b5, o_neg]; rfl
          simp (maxSteps := 1000000) (disch := omega) only [ne_eq, i_lt0, i_le0, i_eq0, i_n1, i_ltl, i_lel, i_eql, i_lt, i_le, i_eq, i_in, i_tn, i_add, i_addl, i_addr, i_mul, i_mulr, i_mull, if_true, if_false, eq_self, decide_eq_true_eq, decide_true, decide_false, Option.bind_some, Option.bind_none, ↓fu_ltd, ↓reduceIte, ↓ob_ite, ↓ob_asc, ↓Option.bind_some, Bool.false_eq_true, Bool.true_eq_false, not_true_eq_false, not_false_eq_true, Nat.not_lt_zero, Nat.le_zero_eq, Nat.reduceAdd, Nat.reduceMul, Nat.reduceSub, Nat.reduceEqDiff, Nat.reduceLT, Nat.reduceLeDiff, sC_def, sR_def, sC_1, sC_2, sR_1, sR_2, sC_st, sR_st, sR_no, sR_refuse, and_self, true_and, and_true, false_and, and_false, b1, b2, b3, m1, e5, i_shl, i_or, i_add1, hKt, e4]
        · have e5 : s.1 122 (51 + t) = Int32.ofInt (g_sg true (d_w D t)) := by rw [b5]; rfl
          simp (maxSteps := 1000000) (disch := omega) only [ne_eq, i_lt0, i_le0, i_eq0, i_n1, i_ltl, i_lel, i_eql, i_lt, i_le, i_eq, i_in, i_tn, i_add, i_addl, i_addr, i_mul, i_mulr, i_mull, if_true, if_false, eq_self, decide_eq_true_eq, decide_true, decide_false, Option.bind_some, Option.bind_none, ↓fu_ltd, ↓reduceIte, ↓ob_ite, ↓ob_asc, ↓Option.bind_some, Bool.false_eq_true, Bool.true_eq_false, not_true_eq_false, not_false_eq_true, Nat.not_lt_zero, Nat.le_zero_eq, Nat.reduceAdd, Nat.reduceMul, Nat.reduceSub, Nat.reduceEqDiff, Nat.reduceLT, Nat.reduceLeDiff, sC_def, sR_def, sC_1, sC_2, sR_1, sR_2, sC_st, sR_st, sR_no, sR_refuse, and_self, true_and, and_true, false_and, and_false, b1, b2, b3, m1, e5, i_shl, i_or, i_add1, hKt, e4]) (fun f => by
    have hle : ¬ D 0 5 + 1 ≤ D 0 5 := by omega
    generalize g_b (g_c D A) (g_g D k A B) (D 0 5 + 1) = R
    show l_X12_plays_42 K (f + 1) s x1 x2 (Int32.ofNat n) x4 (Int32.ofNat G) e (Int32.ofNat x) (Int32.ofInt (g_sg e R.1)) (e_b R.2) (Int32.ofNat (D 0 5 + 1)) = _
    simp (maxSteps := 1000000) (disch := omega) only [ne_eq, i_lt0, i_le0, i_eq0, i_n1, i_ltl, i_lel, i_eql, i_lt, i_le, i_eq, i_in, i_tn, i_add, i_addl, i_addr, i_mul, i_mulr, i_mull, if_true, if_false, eq_self, decide_eq_true_eq, decide_true, decide_false, Option.bind_some, Option.bind_none, ↓fu_ltd, ↓reduceIte, ↓ob_ite, ↓ob_asc, ↓Option.bind_some, Bool.false_eq_true, Bool.true_eq_false, not_true_eq_false, not_false_eq_true, Nat.not_lt_zero, Nat.le_zero_eq, Nat.reduceAdd, Nat.reduceMul, Nat.reduceSub, Nat.reduceEqDiff, Nat.reduceLT, Nat.reduceLeDiff, sC_def, sR_def, sC_1, sC_2, sR_1, sR_2, sC_st, sR_st, sR_no, sR_refuse, and_self, true_and, and_true, false_and, and_false, l_X12_plays_42, c2, hle]) (f := fu_N) (k := 0) (by omega) (fu_N_gt (by omega))
  have h0 : Int32.ofInt (g_sg e (g_b (g_c D A) (g_g D k A B) 0).1) = 0 := by
    show Int32.ofInt (g_sg e 0) = 0
    unfold g_sg
    cases e <;> rfl
  dsimp only at this
  rw [h0] at this
  exact this
end GRF
