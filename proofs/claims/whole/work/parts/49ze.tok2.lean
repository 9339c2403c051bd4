/-! texts: a token, on both sides -/
def tq (u : Nat → Nat) (n : Nat) : Nat → Nat
  | 0 => d_en c_B u n 0
  | i + 1 => d_en c_B u n (tE u n (tq u n i))
/-- the class's text -/
def cT (s : fu_S) (u : Nat → Nat) (n : Nat) : Prop := n ≤ 900 ∧ (∀ i, i < n → u i < 256 ∧ ((u i < 128 ∧ s.1 7 i = Int32.ofNat (u i)) ∨ (128 ≤ u i ∧ s.1 7 i < 0))) ∧ ∀ w, w < 22 → s.2 6 w = Int64.ofNat (wc w)
def adT (s : fu_S) (t : Nat) (g pl : Int32) (v : Int64) : fu_S := fu_pi (fu_pl (fu_pi (fu_pi s 8 t g) 9 t pl) 10 t v) 5 6 (Int32.ofNat (t + 1))
def tW (u : Nat → Nat) (n q : Nat) : Int64 := if c_L (u q) = true then d_ci u q (d_en c_L u n q - q) else if c_D (u q) = true then Int64.ofNat (if d_en c_D u n q - q ≤ 4 then d_nu u q (d_en c_D u n q - q) else 0) else 0
section TK2
variable {s t : fu_S} {u : Nat → Nat} {c : Nat → Bool} {n p q e f k i g v j m : Nat} {x y : Int32}
theorem tE_bd (hq : q < n) : q < tE u n q ∧ tE u n q ≤ n := by
  unfold tE
  rw [if_neg (by omega)]
  cases hL : c_L (u q)
  · rw [if_neg Bool.false_ne_true]
    cases hD : c_D (u q)
    · rw [if_neg Bool.false_ne_true]; omega
    · rw [if_pos rfl, d_en_y hq hD]
      have := d_en_bd (c := c_D) (u := u) (n := n) (p := q + 1) (by omega)
      omega
  · rw [if_pos rfl, d_en_y hq hL]
    have := d_en_bd (c := c_L) (u := u) (n := n) (p := q + 1) (by omega)
    omega
theorem tE_le (hq : q ≤ n) : tE u n q ≤ n := by
  by_cases h : q < n
  · exact (tE_bd h).2
  · unfold tE
    rw [if_pos (by omega)]
    exact Nat.le_refl _
theorem tq_le : ∀ {i}, tq u n i ≤ n
  | 0 => (d_en_bd (Nat.zero_le _)).2
  | i + 1 => (d_en_bd (tE_le tq_le)).2
theorem r_signB (hk : k < 256) : f_X12_isSignByte (Int32.ofNat k) = decide (59 ≤ k ∧ k ≤ 62) := by
  unfold f_X12_isSignByte fu_lt
  have e : ∀ m, m < 256 → ((Int32.ofNat k = Int32.ofNat m) ↔ k = m) := fun m hm => i_eq (by omega) (by omega)
  rw [show (59 : Int32) = Int32.ofNat 59 from rfl, show (60 : Int32) = Int32.ofNat 60 from rfl, show (62 : Int32) = Int32.ofNat 62 from rfl, show (61 : Int32) = Int32.ofNat 61 from rfl]
  simp only [e 59 (by omega), e 60 (by omega), e 61 (by omega), e 62 (by omega)]
  by_cases h : 59 ≤ k ∧ k ≤ 62
  · rw [decide_eq_true h]
    have : k = 59 ∨ k = 60 ∨ k = 61 ∨ k = 62 := by omega
    rcases this with rfl | rfl | rfl | rfl <;> rfl
  · rw [decide_eq_false h, if_neg (by omega), if_neg (by omega), if_neg (by omega), if_neg (by omega)]
theorem r_advance (hT : rT s u n) (hp : p ≤ n) (h16 : s.1 117 16 = Int32.ofNat p) : ∃ t, f_X12_advance s = some t ∧ rS t (tG u n (d_en c_B u n p)) (tV u n (d_en c_B u n p)) (d_en c_B u n p) (tE u n (d_en c_B u n p)) ∧ fA s t := by
  have hn := hT.1
  have h9 := hT.2.1
  have hqb := d_en_bd (c := c_B) (u := u) hp
  have a8 := r_adv8 (f := fu_N) (s := fu_pi s 117 15 (Int32.ofNat p)) (rT_A hT (fA_q (by omega))) rfl hp (fu_N_gt (by omega)) p1
  rw [pp] at a8
  generalize hq : d_en c_B u n p = q at *
  obtain ⟨Z, hZ⟩ : ∃ Z, Z = fu_pi (fu_pi s 117 15 (Int32.ofNat q)) 117 16 (Int32.ofNat q) := ⟨_, rfl⟩
  have z15 : Z.1 117 15 = Int32.ofNat q := by rw [hZ, p1q (by omega), p1]
  have z16 : Z.1 117 16 = Int32.ofNat q := by rw [hZ, p1]
  have fZ : fA s Z := by rw [hZ]; exact fA_tr (fA_q (by omega)) (fA_q (by omega))
  have z9 : Z.1 117 9 = Int32.ofNat n := (fZ.2.1 9 (by omega)).trans h9
  have TZ := rT_A hT fZ
  have e15 : (fu_pi s 117 15 (Int32.ofNat q)).1 117 15 = Int32.ofNat q := p1
  by_cases hqn : q < n
  · have hu := (hT.2.2 q hqn).1
    have hl := r_look TZ (i := q) (by omega)
    rw [if_pos hqn] at hl
    have hcL := r_isL hu
    have hcD := r_isD hu
    have hnq : ¬ n ≤ q := by omega
    cases hL : c_L (u q)
    · rw [hL] at hcL
      cases hDg : c_D (u q)
      · rw [hDg] at hcD
        have hs := r_signB hu
        have hG : tG u n q = if 59 ≤ u q ∧ u q ≤ 62 then u q else 1 := by unfold tG; rw [if_neg hnq, hL, if_neg Bool.false_ne_true, hDg, if_neg Bool.false_ne_true]
        have hE : tE u n q = q + 1 := by unfold tE; rw [if_neg hnq, hL, if_neg Bool.false_ne_true, hDg, if_neg Bool.false_ne_true]
        by_cases h5 : 59 ≤ u q ∧ u q ≤ 62
        · rw [decide_eq_true h5] at hs
          rw [hG, if_pos h5, hE]
          refine ⟨fu_pi (fu_pi (fu_pi Z 117 16 (Int32.ofNat (q + 1))) 117 17 (Int32.ofNat (u q))) 117 14 3, ?_, ⟨?_, ?_, .inr (.inr (.inr (.inr (.inr (.inl ⟨h5, p1, ?_⟩)))))⟩, fA_tr fZ (fA_tr (fA_tr (fA_q (by omega)) (fA_q (by omega))) (fA_q (by omega)))⟩
          · simp (maxSteps := 1000000) (disch := omega) only [ne_eq, i_lt0, i_le0, i_eq0, i_n1, i_ltl, i_lel, i_eql, i_lt, i_le, i_eq, i_in, i_tn, i_add, i_addl, i_addr, i_mul, i_mulr, i_mull, if_true, if_false, eq_self, decide_eq_true_eq, decide_true, decide_false, Option.bind_some, Option.bind_none, ↓fu_ltd, ↓reduceIte, ↓ob_ite, ↓ob_asc, Bool.false_eq_true, Bool.true_eq_false, not_true_eq_false, not_false_eq_true, Nat.not_lt_zero, Nat.le_zero_eq, Nat.reduceAdd, Nat.reduceMul, Nat.reduceSub, Nat.reduceEqDiff, Nat.reduceLT, Nat.reduceLeDiff, sC_def, sR_def, sC_1, sC_2, sR_1, sR_2, sC_st, sR_st, sR_no, sR_refuse, and_self, true_and, and_true, false_and, and_false, f_X12_advance, h16, a8, e15, ← hZ, z15, z9, hqn, hl, hcL, hcD, hs, i_add1]
          · rw [p1q (by omega), p1q (by omega), p1q (by omega)]; exact z15
          · rw [p1q (by omega), p1q (by omega), p1]
          · rw [p1q (by omega), p1]
        · rw [decide_eq_false h5] at hs
          rw [hG, if_neg h5, hE]
          refine ⟨fu_pi (fu_pi (fu_pi Z 117 16 (Int32.ofNat (q + 1))) 117 17 (Int32.ofNat (u q))) 117 14 4, ?_, ⟨?_, ?_, .inr (.inl ⟨rfl, p1⟩)⟩, fA_tr fZ (fA_tr (fA_tr (fA_q (by omega)) (fA_q (by omega))) (fA_q (by omega)))⟩
          · simp (maxSteps := 1000000) (disch := omega) only [ne_eq, i_lt0, i_le0, i_eq0, i_n1, i_ltl, i_lel, i_eql, i_lt, i_le, i_eq, i_in, i_tn, i_add, i_addl, i_addr, i_mul, i_mulr, i_mull, if_true, if_false, eq_self, decide_eq_true_eq, decide_true, decide_false, Option.bind_some, Option.bind_none, ↓fu_ltd, ↓reduceIte, ↓ob_ite, ↓ob_asc, Bool.false_eq_true, Bool.true_eq_false, not_true_eq_false, not_false_eq_true, Nat.not_lt_zero, Nat.le_zero_eq, Nat.reduceAdd, Nat.reduceMul, Nat.reduceSub, Nat.reduceEqDiff, Nat.reduceLT, Nat.reduceLeDiff, sC_def, sR_def, sC_1, sC_2, sR_1, sR_2, sC_st, sR_st, sR_no, sR_refuse, and_self, true_and, and_true, false_and, and_false, f_X12_advance, h16, a8, e15, ← hZ, z15, z9, hqn, hl, hcL, hcD, hs, i_add1]
          · rw [p1q (by omega), p1q (by omega), p1q (by omega)]; exact z15
          · rw [p1q (by omega), p1q (by omega), p1]
      · rw [hDg] at hcD
        have hE : tE u n q = d_en c_D u n q := by unfold tE; rw [if_neg hnq, hL, if_neg Bool.false_ne_true, hDg, if_pos rfl]
        have hG : tG u n q = if d_en c_D u n q - q ≤ 4 then 2 else 1 := by unfold tG; rw [if_neg hnq, hL, if_neg Bool.false_ne_true, hDg, if_pos rfl]
        have hV : tV u n q = d_nu u q (d_en c_D u n q - q) := by unfold tV; rw [if_neg hnq, hL, if_neg Bool.false_ne_true, hDg, if_pos rfl]
        have heb := d_en_bd (c := c_D) (u := u) (n := n) (p := q) (by omega)
        have hin : ∀ i, i < d_en c_D u n q - q → c_D (u (q + i)) = true := fun i hi => d_en_in (n := n) (p := q) rfl (by omega) (by omega) (by omega)
        have a2 := r_adv210 (f := fu_N) (q := q) (s := fu_pi Z 117 17 0) (rT_A TZ (fA_q (by omega))) rfl (by omega) (Nat.le_refl _) (fu_N_gt (by omega)) (by rw [p1q (by omega)]; exact z15) (by rw [p1q (by omega)]; exact z16) (by rw [p1, Nat.sub_self]; rfl)
        rw [pp] at a2
        rw [hE, hG, hV]
        have hlt := d_nu_lt (k := d_en c_D u n q - q) hin
        generalize hee : d_en c_D u n q = e at *
        have hsub : Int32.ofNat e - Int32.ofNat q = Int32.ofNat (e - q) := i_sub heb.1
        obtain ⟨Y, hY⟩ : ∃ Y, Y = fu_pi (fu_pi Z 117 17 (Int32.ofNat (d_nu u q (min (e - q) 4)))) 117 16 (Int32.ofNat e) := ⟨_, rfl⟩
        have y15 : Y.1 117 15 = Int32.ofNat q := by rw [hY, p1q (by omega), p1q (by omega)]; exact z15
        have y16 : Y.1 117 16 = Int32.ofNat e := by rw [hY, p1]
        have y17 : Y.1 117 17 = Int32.ofNat (d_nu u q (min (e - q) 4)) := by rw [hY, p1q (by omega), p1]
        have fY : fA s Y := by rw [hY]; exact fA_tr fZ (fA_tr (fA_q (by omega)) (fA_q (by omega)))
        rw [← hY] at a2
        by_cases h4 : e - q ≤ 4
        · rw [if_pos h4]
          rw [show min (e - q) 4 = e - q by omega] at y17
          have h10 : 10 ^ (e - q) ≤ 10 ^ 4 := Nat.pow_le_pow_right (by omega) h4
          refine ⟨fu_pi Y 117 14 2, ?_, ⟨?_, ?_, .inr (.inr (.inl ⟨rfl, p1, ?_, by omega⟩))⟩, fA_tr fY (fA_q (by omega))⟩
          · simp (maxSteps := 1000000) (disch := omega) only [ne_eq, i_lt0, i_le0, i_eq0, i_n1, i_ltl, i_lel, i_eql, i_lt, i_le, i_eq, i_in, i_tn, i_add, i_addl, i_addr, i_mul, i_mulr, i_mull, if_true, if_false, eq_self, decide_eq_true_eq, decide_true, decide_false, Option.bind_some, Option.bind_none, ↓fu_ltd, ↓reduceIte, ↓ob_ite, ↓ob_asc, Bool.false_eq_true, Bool.true_eq_false, not_true_eq_false, not_false_eq_true, Nat.not_lt_zero, Nat.le_zero_eq, Nat.reduceAdd, Nat.reduceMul, Nat.reduceSub, Nat.reduceEqDiff, Nat.reduceLT, Nat.reduceLeDiff, sC_def, sR_def, sC_1, sC_2, sR_1, sR_2, sC_st, sR_st, sR_no, sR_refuse, and_self, true_and, and_true, false_and, and_false, f_X12_advance, h16, a8, e15, ← hZ, z15, z9, hqn, hl, hcL, hcD, a2, y15, y16, hsub, h4]
          · rw [p1q (by omega)]; exact y15
          · rw [p1q (by omega)]; exact y16
          · rw [p1q (by omega)]; exact y17
        · rw [if_neg h4]
          refine ⟨fu_pi Y 117 14 4, ?_, ⟨?_, ?_, .inr (.inl ⟨rfl, p1⟩)⟩, fA_tr fY (fA_q (by omega))⟩
          · simp (maxSteps := 1000000) (disch := omega) only [ne_eq, i_lt0, i_le0, i_eq0, i_n1, i_ltl, i_lel, i_eql, i_lt, i_le, i_eq, i_in, i_tn, i_add, i_addl, i_addr, i_mul, i_mulr, i_mull, if_true, if_false, eq_self, decide_eq_true_eq, decide_true, decide_false, Option.bind_some, Option.bind_none, ↓fu_ltd, ↓reduceIte, ↓ob_ite, ↓ob_asc, Bool.false_eq_true, Bool.true_eq_false, not_true_eq_false, not_false_eq_true, Nat.not_lt_zero, Nat.le_zero_eq, Nat.reduceAdd, Nat.reduceMul, Nat.reduceSub, Nat.reduceEqDiff, Nat.reduceLT, Nat.reduceLeDiff, sC_def, sR_def, sC_1, sC_2, sR_1, sR_2, sC_st, sR_st, sR_no, sR_refuse, and_self, true_and, and_true, false_and, and_false, f_X12_advance, h16, a8, e15, ← hZ, z15, z9, hqn, hl, hcL, hcD, a2, y15, y16, hsub, h4]
          · rw [p1q (by omega)]; exact y15
          · rw [p1q (by omega)]; exact y16
    · rw [hL] at hcL
      have hE : tE u n q = d_en c_L u n q := by unfold tE; rw [if_neg hnq, hL, if_pos rfl]
      have hG : tG u n q = if d_en c_L u n q - q ≤ 8 then d_ws (d_cw u q (d_en c_L u n q - q)) 22 else 4 := by unfold tG; rw [if_neg hnq, hL, if_pos rfl]
      have hV : tV u n q = d_cw u q (d_en c_L u n q - q) := by unfold tV; rw [if_neg hnq, hL, if_pos rfl]
      have heb := d_en_bd (c := c_L) (u := u) (n := n) (p := q) (by omega)
      have hin : ∀ i, i < d_en c_L u n q - q → u (q + i) < 256 ∧ c_L (u (q + i)) = true := fun i hi => ⟨(hT.2.2 _ (by omega)).1, d_en_in (n := n) (p := q) rfl (by omega) (by omega) (by omega)⟩
      have a2 := r_adv109 (f := fu_N) (q := q) (s := fu_pl (fu_pi Z 117 14 1) 117 19 0) (rT_A TZ (fA_tr (fA_q (by omega)) fA_l)) rfl (by omega) (Nat.le_refl _) (fu_N_gt (by omega)) (by rw [l1, p1q (by omega)]; exact z15) (by rw [l1, p1q (by omega)]; exact z16) (by rw [l2, Nat.sub_self]; rfl)
      rw [hE, hG, hV]
      generalize hee : d_en c_L u n q = e at *
      have hsub : Int32.ofNat e - Int32.ofNat q = Int32.ofNat (e - q) := i_sub heb.1
      obtain ⟨Y, hY⟩ : ∃ Y, Y = fu_pi (fu_pl (fu_pl (fu_pi Z 117 14 1) 117 19 0) 117 19 (d_ci u q (e - q))) 117 16 (Int32.ofNat e) := ⟨_, rfl⟩
      have y15 : Y.1 117 15 = Int32.ofNat q := by rw [hY, p1q (by omega), l1, l1, p1q (by omega)]; exact z15
      have y16 : Y.1 117 16 = Int32.ofNat e := by rw [hY, p1]
      have y14 : Y.1 117 14 = 1 := by rw [hY, p1q (by omega), l1, l1, p1]
      have y19 : Y.2 117 19 = d_ci u q (e - q) := by rw [hY, p2, l2]
      have fY : fA s Y := by rw [hY]; exact fA_tr fZ (fA_tr (fA_tr (fA_tr (fA_q (by omega)) fA_l) fA_l) (fA_q (by omega)))
      rw [← hY] at a2
      refine ⟨fu_pi Y 117 18 (Int32.ofNat (e - q)), ?_, ⟨?_, ?_, ?_⟩, fA_tr fY (fA_q (by omega))⟩
      · simp (maxSteps := 1000000) (disch := omega) only [ne_eq, i_lt0, i_le0, i_eq0, i_n1, i_ltl, i_lel, i_eql, i_lt, i_le, i_eq, i_in, i_tn, i_add, i_addl, i_addr, i_mul, i_mulr, i_mull, if_true, if_false, eq_self, decide_eq_true_eq, decide_true, decide_false, Option.bind_some, Option.bind_none, ↓fu_ltd, ↓reduceIte, ↓ob_ite, ↓ob_asc, Bool.false_eq_true, Bool.true_eq_false, not_true_eq_false, not_false_eq_true, Nat.not_lt_zero, Nat.le_zero_eq, Nat.reduceAdd, Nat.reduceMul, Nat.reduceSub, Nat.reduceEqDiff, Nat.reduceLT, Nat.reduceLeDiff, sC_def, sR_def, sC_1, sC_2, sR_1, sR_2, sC_st, sR_st, sR_no, sR_refuse, and_self, true_and, and_true, false_and, and_false, f_X12_advance, h16, a8, e15, ← hZ, z15, z9, hqn, hl, hcL, a2, y15, y16, hsub]
      · rw [p1q (by omega)]; exact y15
      · rw [p1q (by omega)]; exact y16
      · have w14 : (fu_pi Y 117 18 (Int32.ofNat (e - q))).1 117 14 = 1 := by rw [p1q (by omega)]; exact y14
        by_cases h8 : e - q ≤ 8
        · rw [if_pos h8]
          have y19' : Y.2 117 19 = Int64.ofNat (d_cw u q (e - q)) := y19.trans (if_pos h8)
          have hlt := d_cw_lt (k := e - q) hin h8
          have h32 : 32 ^ (e - q) ≤ 32 ^ 8 := Nat.pow_le_pow_right (by omega) h8
          rcases d_ws_ok (c := d_cw u q (e - q)) (w := 22) (Nat.le_refl _) with ⟨k1, k2⟩ | ⟨j, k1, k2, k3⟩
          · exact .inr (.inr (.inr (.inl ⟨k1, w14, y19', by omega, ⟨e - q, h8, p1⟩, k2⟩)))
          · refine .inr (.inr (.inr (.inr (.inr (.inr ⟨by omega, w14, ?_, ⟨e - q, h8, p1⟩⟩)))))
            rw [k2, show 100 + j - 100 = j by omega, k3]
            exact y19'
        · rw [if_neg h8]
          exact .inr (.inr (.inr (.inr (.inl ⟨rfl, w14, y19.trans (if_neg h8), ⟨e - q, by omega, by omega, p1⟩⟩))))
  · have hG : tG u n q = 0 := if_pos (by omega)
    have hE : tE u n q = n := if_pos (by omega)
    rw [hG, hE]
    refine ⟨fu_pi Z 117 14 0, ?_, ⟨?_, ?_, .inl ⟨rfl, p1⟩⟩, fA_tr fZ (fA_q (by omega))⟩
    · simp (maxSteps := 1000000) (disch := omega) only [ne_eq, i_lt0, i_le0, i_eq0, i_n1, i_ltl, i_lel, i_eql, i_lt, i_le, i_eq, i_in, i_tn, i_add, i_addl, i_addr, i_mul, i_mulr, i_mull, if_true, if_false, eq_self, decide_eq_true_eq, decide_true, decide_false, Option.bind_some, Option.bind_none, ↓fu_ltd, ↓reduceIte, ↓ob_ite, ↓ob_asc, Bool.false_eq_true, Bool.true_eq_false, not_true_eq_false, not_false_eq_true, Nat.not_lt_zero, Nat.le_zero_eq, Nat.reduceAdd, Nat.reduceMul, Nat.reduceSub, Nat.reduceEqDiff, Nat.reduceLT, Nat.reduceLeDiff, sC_def, sR_def, sC_1, sC_2, sR_1, sR_2, sC_st, sR_st, sR_no, sR_refuse, and_self, true_and, and_true, false_and, and_false, f_X12_advance, h16, a8, e15, ← hZ, z15, z9, hqn]
    · rw [p1q (by omega)]; exact z15
    · rw [p1q (by omega), z16, show q = n by omega]
end TK2
