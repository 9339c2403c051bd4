/-! live, mean -/
section LRN
variable {s s1 s2 t1 t2 : fu_S} {Q P PL x n k : Nat} {D : dD}
/-- the class's life is begun -/
def bgC (s : fu_S) (Q : Nat) (x : Int32) : fu_S := fu_pi (fu_pi (fu_pi (fu_pi (fu_pi (fu_pi (fu_pi (fu_pi s Q 1 x) Q 2 0) Q 3 0) Q 4 0) Q 5 0) Q 6 0) Q 7 0) Q 8 1
def bgR (s : fu_S) (x m : Int32) : fu_S := fu_pi (fu_pi (fu_pi (fu_pi (fu_pi (fu_pi (fu_pi (fu_pi s 117 33 x) 117 34 0) 117 35 0) 117 36 m) 117 37 0) 117 38 0) 117 39 0) 117 32 0
theorem bgC_n {a : Nat} {x : Int32} (h : a ≠ Q) : (bgC s Q x).1 a = s.1 a := by
  unfold bgC
  rw [p1n h, p1n h, p1n h, p1n h, p1n h, p1n h, p1n h, p1n h]
theorem bgR_n {a : Nat} {x m : Int32} (h : a ≠ 117) : (bgR s x m).1 a = s.1 a := by
  unfold bgR
  rw [p1n h, p1n h, p1n h, p1n h, p1n h, p1n h, p1n h, p1n h]
theorem bgR_q {q : Nat} {x m : Int32} (h : ¬ (32 ≤ q ∧ q < 40)) : (bgR s x m).1 117 q = s.1 117 q := by
  unfold bgR
  rw [p1q (by omega), p1q (by omega), p1q (by omega), p1q (by omega), p1q (by omega), p1q (by omega), p1q (by omega), p1q (by omega)]
theorem L_run (hQ : P + 13 ≤ Q) (hPL : PL + 5 ≤ Q ∧ (PL + 5 ≤ P ∨ P + 13 ≤ PL)) (hv : dV D) (hC : dC s1 P D) (hR : dR s2 0 D) (hD : dQ s1 PL s2 0 D) (hx : x < 65536) : ∃ t1 t2 D' n ov, f_X3_run s1 Q PL P (Int32.ofNat x) = some t1 ∧ f_X12_runsDays s2 (Int32.ofNat x) = some t2 ∧ LR Q P (D 0 2) D t1 t2 D' n ov ∧ (∀ a, ¬ (P ≤ a ∧ a < P + 13) → a ≠ Q → a ≠ Q + 1 → t1.1 a = s1.1 a ∧ t1.2 a = s1.2 a) ∧ t1.1 Q 8 = 1 ∧ F2 s2 t2 := by
  obtain ⟨N, m, hN, hm, q1, q2, q3, q4, q5⟩ := hD
  have q3' : s2.1 122 84 = Int32.ofNat m := q3
  have g5 := (dR_0 hR).1.2.2.2.2.2
  obtain ⟨U, hU⟩ : ∃ U, U = bgC s1 Q (Int32.ofNat x) := ⟨_, rfl⟩
  obtain ⟨V, hV⟩ : ∃ V, V = bgR s2 (Int32.ofNat x) (Int32.ofNat (D 0 2)) := ⟨_, rfl⟩
  have u1 : ∀ a, a ≠ Q → U.1 a = s1.1 a := fun a h => by rw [hU]; exact bgC_n h
  have u2 : U.2 = s1.2 := by rw [hU]; rfl
  have v1 : ∀ a, a ≠ 117 → V.1 a = s2.1 a := fun a h => by rw [hV]; exact bgR_n h
  have v2 : V.2 = s2.2 := by rw [hV]; rfl
  have hq0 : U.1 PL 4 = Int32.ofNat N := by rw [u1 PL (by omega)]; exact q1
  have hw : dW U PL V 0 D 100 3 0 m 0 N := dW_congr (fun k hk => u1 _ (by omega)) (fun i h1 h2 => by rw [v1 122 (by omega)]) hm q5
  have hLR : LR Q P (D 0 2) D U V D 0 false := by
    refine ⟨hv, dC_congr (fun k hk => ⟨u1 _ (by omega), by rw [u2]⟩) hC, dR_congr hv (fun i _ _ => by rw [v1 122 (by omega)]) (fun i _ _ => by rw [v2]) hR, ⟨rfl, rfl⟩, ⟨x, hx, ?_, ?_⟩, ⟨Nat.zero_le _, ?_, ?_⟩, ?_, ⟨0, rfl, ?_⟩, ?_, ?_, ?_, ?_, ?_⟩ <;> (try rw [hV]) <;> (try rw [hU]) <;> (try unfold bgR) <;> (try unfold bgC) <;> simp [fu_pi] <;> try rfl
  obtain ⟨t1, t2, D', n, ov, j, e1, e2, e3, e4, -, -, -, e8, e9⟩ := L_reg hQ hPL hq0 hN hm (Nat.le_refl _) hw 15 U V D 0 fu_N (by omega) hLR F1_rf F2_rf (fu_N_gt (by omega))
  have hn := (LR_n2 e2).1
  have e1' : l_X12_doAll_2 (f_X12_doAll 15) fu_N V (Int32.ofNat m) 0 = some t2 := e1
  refine ⟨t1, t2, D', n, ov, ?_, ?_, e2, fun a h1 h2 h3 => ?_, ?_, ?_⟩
  · have hb : f_X3_run s1 Q PL P (Int32.ofNat x) = Option.bind (l_X3_run_46 fu_N U Q PL P 0 0) (Sum.elim (fun (a : fu_S) => some a) fun (r20 : fu_S) => some r20) := by
      rw [hU]; rfl
    rw [hb]
    have hj : j + 10 ≤ 4096 := by
      cases ov
      · have := (e8 rfl).1
        have h2 : (3 + 1) * (n - 0) ≤ (3 + 1) * 300 := Nat.mul_le_mul_left _ (by omega)
        omega
      · have := (e9 rfl).1
        have h2 : (3 + 1) * (n - 0) ≤ (3 + 1) * 300 := Nat.mul_le_mul_left _ (by omega)
        omega
    cases ov
    · have hr := (e8 rfl).2 (4096 - j) 0 (by omega)
      rw [show 4096 - j + j = 4096 by omega] at hr
      have hr' : l_X3_run_46 fu_N U Q PL P 0 0 = l_X3_run_46 (4096 - j) t1 Q PL P (Int32.ofNat N) (Int32.ofNat (0 + j)) := hr
      have hNt : t1.1 PL 4 = Int32.ofNat N := by rw [show t1.1 PL = U.1 PL from F1_pl (k := 0) hPL e3 (by omega)]; exact hq0
      rw [hr', show 4096 - j = (4095 - j) + 1 by omega, R_out hNt hN (by omega)]
      rfl
    · have hr := (e9 rfl).2 (4096 - j) 0 (by omega)
      rw [show 4096 - j + j = 4096 by omega] at hr
      have hr' : l_X3_run_46 fu_N U Q PL P 0 0 = some (.inl t1) := hr
      rw [hr']
      rfl
  · have hb : f_X12_runsDays s2 (Int32.ofNat x) = Option.bind (f_X12_doAll 16 V 0 (V.1 122 84)) fun r9 => some r9 := by
      rw [hV, ← g5]; rfl
    rw [hb, v1 122 (by omega), q3', show (16 : Nat) = 15 + 1 from rfl, f_X12_doAll]
    unfold fb_X12_doAll
    rw [e1', Option.bind_some, Option.bind_some]
  · have := e3.1 a h1 h2 h3
    exact ⟨this.1.trans (u1 a h2), this.2.trans (by rw [u2])⟩
  · rw [e3.2, hU]
    unfold bgC
    exact p1
  · exact F2_tr ⟨v2, fun a h1 _ => v1 a h1, fun q hq => by rw [hV]; exact bgR_q hq, fun i _ => by rw [v1 122 (by omega)]⟩ e4
end LRN
theorem r_isInlR {x : Int32} : f_X12_isIn (Int32.toInt64 x) (0 : Int64) (9999 : Int64) = decide (¬ x < 0 ∧ x ≤ 9999) := r_isInN (n := 9999) (by omega)
theorem hd_44 : lw_E_44 dI := by
  intro s1 s2 hI a1
  have hI0 := dI_s (x := 0) hI
  obtain ⟨-, -, hT, hP, hW, hL, ⟨D, hv, hC, hR, hQ⟩, m, m1, m2, m3, m4⟩ := id hI0
  have hp4 := hv.1
  obtain ⟨-, -, -, -, -, -, -, q4, -⟩ := id hQ
  by_cases h1 : ¬ a1 < 0 ∧ a1 ≤ 9999
  · obtain ⟨x, hx, rfl⟩ := i_upto (n := 9999) (by omega) h1
    have y24 : (sC s1 0).1 24 6 = s1.1 24 6 := by rw [sC_1 (by omega)]
    have y83 : (sR s2 0).1 122 83 = s2.1 122 83 := by rw [sR_1 (by omega)]
    have q4' : fu_tb (s1.1 24 6) = decide (s2.1 122 83 ≠ 0) := by rw [← y24, ← y83]; exact q4
    by_cases hz : s2.1 122 83 = 0
    · have q5 : fu_tb (s1.1 24 6) = false := by rw [q4', hz]; decide
      refine ⟨-1, sC s1 8, sR s2 8, ?_, ?_, dI_s hI⟩
      · simp (maxSteps := 1000000) (disch := omega) only [ne_eq, i_lt0, i_le0, i_eq0, i_n1, i_ltl, i_lel, i_eql, i_lt, i_le, i_eq, i_in, i_tn, i_add, i_addl, i_addr, i_mul, i_mulr, i_mull, if_true, if_false, eq_self, decide_eq_true_eq, decide_true, decide_false, Option.bind_some, Option.bind_none, ↓fu_ltd, ↓reduceIte, ↓ob_ite, ↓ob_asc, Bool.false_eq_true, Bool.true_eq_false, not_true_eq_false, not_false_eq_true, Nat.not_lt_zero, Nat.le_zero_eq, Nat.reduceAdd, Nat.reduceMul, Nat.reduceSub, Nat.reduceEqDiff, Nat.reduceLT, Nat.reduceLeDiff, sC_def, sR_def, sC_1, sC_2, sR_1, sR_2, sC_st, sR_st, sR_no, sR_refuse, and_self, true_and, and_true, false_and, and_false, f_X11_live, f_X5_isThere, hx, q5]
        try rfl
      · simp (maxSteps := 1000000) (disch := omega) only [ne_eq, i_lt0, i_le0, i_eq0, i_n1, i_ltl, i_lel, i_eql, i_lt, i_le, i_eq, i_in, i_tn, i_add, i_addl, i_addr, i_mul, i_mulr, i_mull, if_true, if_false, eq_self, decide_eq_true_eq, decide_true, decide_false, Option.bind_some, Option.bind_none, ↓fu_ltd, ↓reduceIte, ↓ob_ite, ↓ob_asc, Bool.false_eq_true, Bool.true_eq_false, not_true_eq_false, not_false_eq_true, Nat.not_lt_zero, Nat.le_zero_eq, Nat.reduceAdd, Nat.reduceMul, Nat.reduceSub, Nat.reduceEqDiff, Nat.reduceLT, Nat.reduceLeDiff, sC_def, sR_def, sC_1, sC_2, sR_1, sR_2, sC_st, sR_st, sR_no, sR_refuse, and_self, true_and, and_true, false_and, and_false, f_X12_live, r_isInlR, hx, y83, hz]
    · have q5 : fu_tb (s1.1 24 6) = true := by rw [q4', decide_eq_true hz]
      obtain ⟨t1, t2, D', n, ov, e1, e2, e3, e4, e5, e6⟩ := L_run (Q := 106) (P := 11) (PL := 24) (by omega) (by omega) hv hC hR hQ (x := x) (by omega)
      obtain ⟨hv', hC', hR', he, hLL⟩ := id e3
      obtain ⟨l1, ⟨l2, l3, l4⟩, l5, ⟨mm, l6, l7⟩, l8, l9, l10, l11, l12⟩ := hLL
      have g5' := (dR_0 hR').1.2.2.2.2.2
      have hp4' := hv'.1
      have e36 : Int32.ofNat (D' 0 2) - Int32.ofNat (D 0 2) = Int32.ofNat mm := by
        rw [i_sub (by omega), show D' 0 2 - D 0 2 = mm by omega]
      obtain ⟨W, hWW⟩ : ∃ W, W = fu_pi (fu_pi (fu_pi (fu_pi (fu_pi (fu_pi t2 127 0 (t2.1 117 35)) 127 1 (Int32.ofNat mm)) 127 2 (t2.1 117 37)) 127 3 (t2.1 117 38)) 127 4 (t2.1 117 39)) 117 31 1 := ⟨_, rfl⟩
      have w1 : ∀ a, a ≠ 127 → a ≠ 117 → W.1 a = t2.1 a := fun a h h' => by
        rw [hWW, p1n h', p1n h, p1n h, p1n h, p1n h, p1n h]
      have w117 : ∀ q, q ≠ 31 → W.1 117 q = t2.1 117 q := fun q h => by
        rw [hWW, p1q h, p1n (by omega), p1n (by omega), p1n (by omega), p1n (by omega), p1n (by omega)]
      have w31 : W.1 117 31 = 1 := by rw [hWW]; exact p1
      have w2 : W.2 = t2.2 := by rw [hWW]; rfl
      refine ⟨Int32.ofNat n, t1, W, ?_, ?_, dI_mk hI0 ?_ (dTp_c (fun q hq => by rw [(e4 5 (by omega) (by omega) (by omega)).1]) (e4 7 (by omega) (by omega) (by omega)).1 (fun q hq => by rw [w117 q (by omega), e6.2.2.1 q (by omega)]) (by rw [w1 121 (by omega) (by omega), e6.2.1 121 (by omega) (by omega)]) hP) ⟨?_, fun _ => ⟨?_, ?_, ?_, ?_, ?_⟩⟩ (e4 0 (by omega) (by omega) (by omega)).2 (fun a ha => e4 a (by omega) (by omega) (by omega)) (fun i _ => by rw [(e4 113 (by omega) (by omega) (by omega)).1]) (by rw [w2, e6.1]; exact ⟨rfl, rfl⟩) (fun a ha => ⟨by rw [w1 a (by omega) (by omega), e6.2.1 a (by omega) (by omega)], by rw [w2, e6.1]⟩) ⟨D', hv', hC', ?_, ?_⟩ ⟨m, m1, ?_, ?_, fun j hj => ?_⟩⟩
      · simp (maxSteps := 1000000) (disch := omega) only [ne_eq, i_lt0, i_le0, i_eq0, i_n1, i_ltl, i_lel, i_eql, i_lt, i_le, i_eq, i_in, i_tn, i_add, i_addl, i_addr, i_mul, i_mulr, i_mull, if_true, if_false, eq_self, decide_eq_true_eq, decide_true, decide_false, Option.bind_some, Option.bind_none, ↓fu_ltd, ↓reduceIte, ↓ob_ite, ↓ob_asc, Bool.false_eq_true, Bool.true_eq_false, not_true_eq_false, not_false_eq_true, Nat.not_lt_zero, Nat.le_zero_eq, Nat.reduceAdd, Nat.reduceMul, Nat.reduceSub, Nat.reduceEqDiff, Nat.reduceLT, Nat.reduceLeDiff, sC_def, sR_def, sC_1, sC_2, sR_1, sR_2, sC_st, sR_st, sR_no, sR_refuse, and_self, true_and, and_true, false_and, and_false, f_X11_live, f_X5_isThere, hx, q5, e1, f_X3_steps, l3]
      · have z6 : W.1 117 34 = Int32.ofNat n := by rw [w117 34 (by omega)]; exact l4
        have z7 : f_X12_live s2 (Int32.ofNat x) = some (W.1 117 34, W) := by
          rw [hWW]
          simp (maxSteps := 1000000) (disch := omega) only [ne_eq, i_lt0, i_le0, i_eq0, i_n1, i_ltl, i_lel, i_eql, i_lt, i_le, i_eq, i_in, i_tn, i_add, i_addl, i_addr, i_mul, i_mulr, i_mull, if_true, if_false, eq_self, decide_eq_true_eq, decide_true, decide_false, Option.bind_some, Option.bind_none, ↓fu_ltd, ↓reduceIte, ↓ob_ite, ↓ob_asc, Bool.false_eq_true, Bool.true_eq_false, not_true_eq_false, not_false_eq_true, Nat.not_lt_zero, Nat.le_zero_eq, Nat.reduceAdd, Nat.reduceMul, Nat.reduceSub, Nat.reduceEqDiff, Nat.reduceLT, Nat.reduceLeDiff, sC_def, sR_def, sC_1, sC_2, sR_1, sR_2, sC_st, sR_st, sR_no, sR_refuse, and_self, true_and, and_true, false_and, and_false, f_X12_live, r_isInlR, hx, y83, hz, e2, p1n, g5', l8, e36, b_t]
        rw [z7, z6]
      · rw [(e4 0 (by omega) (by omega) (by omega)).1, sC_st, w117 0 (by omega), e6.2.2.1 0 (by omega), sR_st]
      · rw [e5, w31]
      · rw [l5, hWW, p1n (by omega), p1q (by omega), p1q (by omega), p1q (by omega), p1q (by omega), p1]
      · rw [l7, hWW, p1n (by omega), p1q (by omega), p1q (by omega), p1q (by omega), p1]
      · rw [l9, hWW, p1n (by omega), p1q (by omega), p1q (by omega), p1]
      · rw [l10, hWW, p1n (by omega), p1q (by omega), p1]
      · rw [l11, hWW, p1n (by omega), p1]
      · exact dR_congr hv' (fun i _ _ => by rw [w1 122 (by omega) (by omega)]) (fun i _ _ => by rw [w2]) hR'
      · exact dQ_mono (Nat.le_of_eq he.2.symm) (Nat.le_of_eq he.1.symm) (dQ_congr (fun k hk => (e4 _ (by omega) (by omega) (by omega)).1) (fun i h1 h2 => by rw [w1 122 (by omega) (by omega), e6.2.2.2 i (by omega)]) hQ)
      · rw [(e4 0 (by omega) (by omega) (by omega)).1]; exact m2
      · rw [w117 23 (by omega), e6.2.2.1 23 (by omega)]; exact m3
      · exact dB_congr (fun k hk => e4 _ (by omega) (by omega) (by omega)) (fun k hk => (e4 _ (by omega) (by omega) (by omega)).1) (fun i h1 h2 => by rw [w1 122 (by omega) (by omega), e6.2.2.2 i (by omega)]) (fun i _ _ => by rw [w2, e6.1]) (m4 j hj)
  · refine ⟨-1, sC s1 5, sR s2 5, ?_, ?_, dI_s hI⟩
    · by_cases h5 : a1 < 0
      · simp (maxSteps := 1000000) (disch := omega) only [ne_eq, i_lt0, i_le0, i_eq0, i_n1, i_ltl, i_lel, i_eql, i_lt, i_le, i_eq, i_in, i_tn, i_add, i_addl, i_addr, i_mul, i_mulr, i_mull, if_true, if_false, eq_self, decide_eq_true_eq, decide_true, decide_false, Option.bind_some, Option.bind_none, ↓fu_ltd, ↓reduceIte, ↓ob_ite, ↓ob_asc, Bool.false_eq_true, Bool.true_eq_false, not_true_eq_false, not_false_eq_true, Nat.not_lt_zero, Nat.le_zero_eq, Nat.reduceAdd, Nat.reduceMul, Nat.reduceSub, Nat.reduceEqDiff, Nat.reduceLT, Nat.reduceLeDiff, sC_def, sR_def, sC_1, sC_2, sR_1, sR_2, sC_st, sR_st, sR_no, sR_refuse, and_self, true_and, and_true, false_and, and_false, f_X11_live, h5]
        try rfl
      · have h6 : ¬ a1 ≤ 9999 := fun z => h1 ⟨h5, z⟩
        simp (maxSteps := 1000000) (disch := omega) only [ne_eq, i_lt0, i_le0, i_eq0, i_n1, i_ltl, i_lel, i_eql, i_lt, i_le, i_eq, i_in, i_tn, i_add, i_addl, i_addr, i_mul, i_mulr, i_mull, if_true, if_false, eq_self, decide_eq_true_eq, decide_true, decide_false, Option.bind_some, Option.bind_none, ↓fu_ltd, ↓reduceIte, ↓ob_ite, ↓ob_asc, Bool.false_eq_true, Bool.true_eq_false, not_true_eq_false, not_false_eq_true, Nat.not_lt_zero, Nat.le_zero_eq, Nat.reduceAdd, Nat.reduceMul, Nat.reduceSub, Nat.reduceEqDiff, Nat.reduceLT, Nat.reduceLeDiff, sC_def, sR_def, sC_1, sC_2, sR_1, sR_2, sC_st, sR_st, sR_no, sR_refuse, and_self, true_and, and_true, false_and, and_false, f_X11_live, h5, h6]
        try rfl
    · simp (maxSteps := 1000000) (disch := omega) only [ne_eq, i_lt0, i_le0, i_eq0, i_n1, i_ltl, i_lel, i_eql, i_lt, i_le, i_eq, i_in, i_tn, i_add, i_addl, i_addr, i_mul, i_mulr, i_mull, if_true, if_false, eq_self, decide_eq_true_eq, decide_true, decide_false, Option.bind_some, Option.bind_none, ↓fu_ltd, ↓reduceIte, ↓ob_ite, ↓ob_asc, Bool.false_eq_true, Bool.true_eq_false, not_true_eq_false, not_false_eq_true, Nat.not_lt_zero, Nat.le_zero_eq, Nat.reduceAdd, Nat.reduceMul, Nat.reduceSub, Nat.reduceEqDiff, Nat.reduceLT, Nat.reduceLeDiff, sC_def, sR_def, sC_1, sC_2, sR_1, sR_2, sC_st, sR_st, sR_no, sR_refuse, and_self, true_and, and_true, false_and, and_false, f_X12_live, r_isInlR, h1]
